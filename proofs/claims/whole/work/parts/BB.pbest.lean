/-! ===== good keys, ends that count, best and saves: class = reference ===== -/
theorem bh_of {m li cf s0 s : Sc} {j o : Nat} (hX : CtxO m li cf s0) (hf : FrO s0 s) (hj : j < 15488) (hcan : ¬ rCan (nI j) = 0) (ho : o < nOf (sBec s (nI j))) : ∃ y, SA m (bhS (sBec s (nI j)) li o) y ∧ Val y := by
  obtain ⟨hl, hH, hch, hcf, ⟨z7, z8, z9, z10⟩, _⟩ := hX
  obtain ⟨f7, f8, f9, f10⟩ := hf
  have hsa : SA m (sBec s (nI j)) (U m (nI j)) := bec_eq (f7.trans z7) (f8.trans z8) (f9.trans z9) (f10.trans z10) hj
  have hv := U_Val m hj hcan
  generalize U m (nI j) = x at *
  generalize sBec s (nI j) = sF at *
  have e6 := hsa.1.2.2.2.2.1
  unfold nOf at ho
  by_cases h6 : x 6 = 0
  · have hs6 : sF 6 = 0 := e6.trans h6
    rw [if_pos hs6] at ho
    obtain ⟨hm1, hm2⟩ := min_raH o ho
    have eb : bhS sF li o = sStrike sF li (iMin (nI o) 2) (nI o - 2) := by unfold bhS; rw [if_pos hs6]
    have hh : iMin (nI o) 2 = 0 ∨ iMin (nI o) 2 = 1 ∨ iMin (nI o) 2 = 2 ∧ lnOK (nI o - 2) := by
      rcases hm1 with h | h | h
      · exact Or.inl h.1
      · exact Or.inr (Or.inl h.1)
      · exact Or.inr (Or.inr h)
    have hb2 := hsa.strike hl hH hv hh
    rw [hm2, ← eb] at hb2
    refine ⟨_, hb2, Val_rRal hH hv (fun _ hlt => ?_)⟩
    rcases hm1 with h | h | h
    · rw [h.2] at hlt; exact absurd (by decide) hlt
    · rw [h.2] at hlt; exact absurd (by decide) hlt
    · exact h.2
  · have hs6 : ¬ sF 6 = 0 := by rw [e6]; exact h6
    rw [if_neg hs6] at ho
    obtain ⟨h61, h3⟩ : x 6 = 1 ∧ (x 3 = 1 ∨ x 3 = 2) := by
      rcases hv.2.2 with ⟨_, a⟩ | ⟨a, _, b⟩ | ⟨a, _, _, b⟩
      · exact absurd a h6
      · exact ⟨b.resolve_left h6, Or.inl a⟩
      · exact ⟨b, Or.inr a⟩
    have eb : bhS sF li o = sPlayOff sF (nI o) := by unfold bhS; rw [if_neg hs6]
    have hb2 := hsa.off h61 h3 (nI o)
    rw [← eb] at hb2
    refine ⟨_, hb2, ?_⟩
    obtain rfl | rfl | rfl : o = 0 ∨ o = 1 ∨ o = 2 := by omega
    · have hH2 : HOK (upd m 196 0) := by unfold HOK; rw [pk_un (by decide), pk_un (by decide)]; exact hH
      have := Val_rRal (how := 14) hH2 hv (fun h => absurd h h6)
      have ew : rWho (upd m 196 0) x 14 = 0 := by simp [rWho, rAs, h6, upd_at]
      have er : rRal (upd m 196 0) x 14 = rGone x := by unfold rRal; rw [if_neg h6, ew]; unfold rGive; rw [if_pos rfl]
      rw [er] at this
      unfold rGive
      rw [if_pos (by decide)]
      exact this
    · have := Val_rRal (how := 0) hH hv (fun h => absurd h h6)
      have er : rRal m x 0 = rGone (rGive m x 1) := by unfold rRal; rw [if_neg h6, show rWho m x 0 = 1 by simp [rWho]]
      rw [er] at this
      exact this
    · have := Val_rRal (how := 1) hH hv (fun h => absurd h h6)
      have er : rRal m x 1 = rGone (rGive m x 2) := by unfold rRal; rw [if_neg h6, show rWho m x 1 = 2 by simp [rWho]]
      rw [er] at this
      exact this
theorem v_of {y : Sc} (hy : Val y) : ∃ v : Nat, v ≤ 1 ∧ y 2 = nI v := by
  rcases hy.2.1 with e | e
  · exact ⟨0, by decide, by rw [e]; decide⟩
  · exact ⟨1, by decide, by rw [e]; decide⟩
/-- a score that stands has a good key -/
theorem gk_of {m s y : Sc} (h : SA m s y) (hy : Val y) : gkC GKr s := by
  obtain ⟨k, hk, e, hc, _⟩ := num_of (m := m) hy
  have ec : sCode s = nI k := (code_eq h.1 hy).trans e
  exact ⟨⟨k, hk, ec, hc⟩, k, hk, ec⟩
theorem tgt_gk {m sf sb y : Sc} {k' : Int32} (h : SA m sb y) (hy : Val y) (ht : tgt sf sb = .inr k') : (∃ c, c < 15488 ∧ k' = nI c) ∧ GKr k' := by
  have : k' = sCode sb := by
    unfold tgt at ht
    split at ht
    · cases ht
    · split at ht
      · cases ht
      · injection ht with ht; exact ht.symm
  rw [this]
  have := gk_of h hy
  exact ⟨this.2, this.1⟩
theorem SpH_of {m li cf s0 yf : Sc} {Rl : Nat → RLs} {c10 : Int32} {ch : Nat} (hX : CtxO m li cf s0) (hs : StyA m yf Rl) (hst : stOK (svA m)) : SpH GKr s0 li cf yf Rl c10 ch := by
  intro s k wf hf hk
  obtain ⟨j, hj, rfl, hcan⟩ := hk
  have hX' := hX
  obtain ⟨_, _, _, _, ⟨z7, z8, z9, z10⟩, _⟩ := hX'
  obtain ⟨f7, f8, f9, f10⟩ := id hf
  have hsa : SA m (sBec s (nI j)) (U m (nI j)) := bec_eq (f7.trans z7) (f8.trans z8) (f9.trans z9) (f10.trans z10) hj
  obtain ⟨S, H, hS, hH, e1, e2, e3, e4⟩ := pa_eq hs hst hj hcan hsa
  refine ⟨sBec_6 _ _, ?_, S * 4 + H, by omega, e1, fun o ho _ => ?_⟩
  · rw [hsa.1.2.2.1]; exact (U_Val m hj hcan).2.1
  · obtain ⟨y, hy1, hy2⟩ := bh_of hX hf hj hcan ho
    refine ⟨?_, fun k' hk' => tgt_gk hy1 hy2 hk'⟩
    obtain ⟨v, hv, e⟩ := v_of hy2
    exact ⟨v, hv, by rw [hy1.1.2.2.1]; exact e⟩
theorem TkH_of {m li cf s0 : Sc} {p : Int32} (hX : CtxO m li cf s0) (hp : p = 0 ∨ p = 1) : TkH GKr s0 li p := by
  intro s k hf hk
  obtain ⟨j, hj, rfl, hcan⟩ := hk
  obtain ⟨hl, hH, _, _, ⟨z7, z8, z9, z10⟩, _⟩ := hX
  obtain ⟨f7, f8, f9, f10⟩ := id hf
  have hsa : SA m (sBec s (nI j)) (U m (nI j)) := bec_eq (f7.trans z7) (f8.trans z8) (f9.trans z9) (f10.trans z10) hj
  have hv := U_Val m hj hcan
  have hb := (hsa.bis hl hH hv hp).1
  have hvb := Val_rBis hH hv hp
  refine ⟨sBec_6 _ _, ?_, fun k' hk' => tgt_gk hb hvb hk'⟩
  obtain ⟨v, hv1, e⟩ := v_of hvb
  exact ⟨v, hv1, by rw [hb.1.2.2.1]; exact e⟩
theorem Cnt_wy {p : Int32} (hp : p = 0 ∨ p = 1) : CntO (wyC p) p (-1) := by
  intro wn v h1 h2
  obtain rfl | rfl : wn = 0 ∨ wn = 1 := by omega
  all_goals obtain rfl | rfl : v = 0 ∨ v = 1 := by omega
  all_goals rcases hp with rfl | rfl
  all_goals decide
theorem Cnt_ways {w t : Int32} (hw : w = 0 ∨ w = 1) (ht : t = 0 ∨ t = 1) : CntO (1 <<< ((w * 2 + t) &&& 31)) w t := by
  intro wn v h1 h2
  obtain rfl | rfl : wn = 0 ∨ wn = 1 := by omega
  all_goals obtain rfl | rfl : v = 0 ∨ v = 1 := by omega
  all_goals rcases hw with rfl | rfl
  all_goals rcases ht with rfl | rfl
  all_goals decide
theorem Cnt_set {w : Nat} (hw : w < 4) : CntO (1 <<< (nI w &&& 31)) (nI (w / 2)) (nI (w % 2)) := by
  intro wn v h1 h2
  obtain rfl | rfl : wn = 0 ∨ wn = 1 := by omega
  all_goals obtain rfl | rfl : v = 0 ∨ v = 1 := by omega
  all_goals obtain rfl | rfl | rfl | rfl : w = 0 ∨ w = 1 ∨ w = 2 ∨ w = 3 := by omega
  all_goals decide
/-! best -/
def bsF9 (m : Sc) (p i : Nat) (k : Int32) : Int32 := bsR m (svA m) p i k.toNatClampNeg
def bsW9 (m tb : Sc) (p : Nat) (k : Int32) (c : Nat) : Int32 := bsV m (svA m) tb p k.toNatClampNeg c
theorem StH_bs {m li cf s0 yf tb : Sc} {Rl : Nat → RLs} {cnt : Int32} {p : Nat} (hp : p ≤ 1) (hX : CtxO m li cf s0) (hs : StyA m yf Rl) (hst : stOK (svA m)) (hcnt : CntO cnt (nI p) (-1)) : StH GKr s0 li cf yf Rl (nI p) 4 cnt (fun k => tb k.toNatClampNeg) (bsW9 m tb p) := by
  intro s wf vf k p9 K hf hk hp9 hpa hv c hc
  obtain ⟨j, hj, rfl, hcan⟩ := hk
  have hX' := hX
  obtain ⟨_, _, _, _, ⟨z7, z8, z9, z10⟩, _⟩ := hX'
  obtain ⟨f7, f8, f9, f10⟩ := id hf
  have hsa : SA m (sBec s (nI j)) (U m (nI j)) := bec_eq (f7.trans z7) (f8.trans z8) (f9.trans z9) (f10.trans z10) hj
  obtain ⟨S, H, hS, hH, e1, e2, e3, e4⟩ := pa_eq hs hst hj hcan hsa
  have ep : p9 = S * 4 + H := nI_eqI (by omega) (by omega) (hpa.symm.trans e1)
  have hpn : ¬ nI p = -1 := nI_nm1 (by omega)
  unfold bsW9 bsV
  rw [nI_clamp (by omega)]
  by_cases hsv : j / 121 % 2 = p
  · rw [if_pos hsv]
    rw [hsv] at e3
    rw [e3, nI_clamp (by omega)]
    refine wg_ral (tb := tb) (S := c) (H := H) hX hf hj hcan hc hH hcnt hc (by decide) ?_ hv
    unfold fwB fwS
    rw [if_neg hpn, if_neg hpn, e4, hsv, if_pos rfl, if_pos rfl, ep]
    omega
  · rw [if_neg hsv]
    have e5 : 2 * j + 1 - p = 2 * j + j / 121 % 2 := by omega
    rw [e5, e2, nI_clamp (by omega)]
    refine wg_ral (tb := tb) (S := S) (H := c) hX hf hj hcan hS hc hcnt hc (by decide) ?_ hv
    unfold fwB fwS
    have hne : ¬ nI p = nI (j / 121 % 2) := fun h => hsv (nI_eqI (by omega) (by omega) h).symm
    rw [if_neg hpn, if_neg hpn, e4, if_neg hne, if_neg hne, ep]
    omega
theorem mx_mo {f : Nat → Int32} : ∀ n, (∀ c, c < n + 1 → ∃ a : Nat, a < 2 ^ 31 ∧ f c = nI a) → mxS f (n + 1) = moW f (n + 1) ∧ ∃ a : Nat, a < 2 ^ 31 ∧ moW f (n + 1) = nI a
  | 0, h => by
    obtain ⟨a, h1, h2⟩ := h 0 (by omega)
    have e1 : mxS f 1 = nI a := by
      show (if f 0 ≤ -1 then (-1 : Int32) else f 0) = _
      rw [h2, if_neg]
      intro hle
      have h0 : (0 : Int32) ≤ nI a := by rw [show (0 : Int32) = nI 0 by decide]; exact nI_le (by omega) h1
      exact absurd (Int32.le_trans h0 hle) (by decide)
    have e2 : moW f 1 = nI a := by show iMax 0 (f 0) = _; rw [h2, iMax0 h1]
    exact ⟨e1.trans e2.symm, a, h1, e2⟩
  | n + 1, h => by
    obtain ⟨ih1, a, ih2, ih3⟩ := mx_mo n (fun c hc => h c (by omega))
    obtain ⟨b, h1, h2⟩ := h (n + 1) (by omega)
    have e : mxS f (n + 1 + 1) = moW f (n + 1 + 1) := by
      show (if f (n + 1) ≤ mxS f (n + 1) then mxS f (n + 1) else f (n + 1)) = iMax (moW f (n + 1)) (f (n + 1))
      rw [ih1]
      unfold iMax
      by_cases hc : f (n + 1) ≤ moW f (n + 1)
      · rw [if_pos hc, if_neg (Int32.not_lt.mpr hc)]
      · rw [if_neg hc, if_pos (Int32.not_le.mp hc)]
    refine ⟨e, ?_⟩
    show ∃ a : Nat, a < 2 ^ 31 ∧ iMax (moW f (n + 1)) (f (n + 1)) = nI a
    unfold iMax
    by_cases hc : moW f (n + 1) < f (n + 1)
    · rw [if_pos hc]; exact ⟨b, h1, h2⟩
    · rw [if_neg hc]; exact ⟨a, ih2, ih3⟩
theorem bsV_N {m tb : Sc} {p j c : Nat} (hH : HOK m) (hc : ChO m) (hst : stOK (svA m)) (ht : RgT tb) (hp : p ≤ 1) (hj : j < 15488) (hcan : ¬ rCan (nI j) = 0) (hc4 : c < 4) : ∃ n, n ≤ 1000000000 ∧ bsV m (svA m) tb p j c = nI n := by
  unfold bsV
  obtain ⟨s, h1, h2⟩ := hst (2 * j + 1 - p) (by omega)
  rw [h2, nI_clamp (by omega)]
  by_cases h : j / 121 % 2 = p
  · rw [if_pos h]; exact hdV_N hH hc ht hj hcan hc4 h1
  · rw [if_neg h]; exact hdV_N hH hc ht hj hcan h1 hc4
theorem moW_le {f : Nat → Int32} {B : Nat} (hB : B < 2 ^ 31) : ∀ n, (∀ c, c < n → ∃ a : Nat, a ≤ B ∧ f c = nI a) → ∃ a : Nat, a ≤ B ∧ moW f n = nI a
  | 0, _ => ⟨0, by omega, by show (0 : Int32) = nI 0; decide⟩
  | n + 1, h => by
    obtain ⟨a, h1, h2⟩ := moW_le hB n (fun c hc => h c (by omega))
    obtain ⟨b, h3, h4⟩ := h n (by omega)
    show ∃ a : Nat, a ≤ B ∧ iMax (moW f n) (f n) = nI a
    unfold iMax
    by_cases hc : moW f n < f n
    · rw [if_pos hc]; exact ⟨b, h3, h4⟩
    · rw [if_neg hc]; exact ⟨a, h1, h2⟩
theorem bsR_N {m : Sc} {p : Nat} (hp : p ≤ 1) (hH : HOK m) (hc : ChO m) (hst : stOK (svA m)) : ∀ n, RgT (bsR m (svA m) p n)
  | 0 => fun j hj => ⟨0, by omega, by show (0 : Int32) = nI 0; decide⟩
  | n + 1 => fun j hj => by
    rw [bsR_s]
    by_cases h : rCan (nI j) = 0
    · rw [if_pos h]; exact bsR_N hp hH hc hst n j hj
    · rw [if_neg h]
      have hN := fun c (hc4 : c < 4) => bsV_N hH hc hst (bsR_N hp hH hc hst n) hp hj h hc4
      rw [(mx_mo 3 (fun c hc4 => by obtain ⟨a, h1, h2⟩ := hN c hc4; exact ⟨a, by omega, h2⟩)).1]
      exact moW_le (by omega) 4 hN
theorem bsF9_s {m : Sc} {p : Nat} (hp : p ≤ 1) (hH : HOK m) (hc : ChO m) (hst : stOK (svA m)) (i : Nat) (k : Int32) (hk : GKr k) : bsF9 m p (i + 1) k = moW (bsW9 m (bsR m (svA m) p i) p k) 4 := by
  obtain ⟨j, hj, rfl, hcan⟩ := hk
  have hN := fun c (hc4 : c < 4) => bsV_N hH hc hst (bsR_N hp hH hc hst i) hp hj hcan hc4
  have hf : bsW9 m (bsR m (svA m) p i) p (nI j) = bsV m (svA m) (bsR m (svA m) p i) p j := by
    funext c
    unfold bsW9
    rw [nI_clamp (by omega)]
  have h9 := (mx_mo (f := bsV m (svA m) (bsR m (svA m) p i) p j) 3 (fun c hc4 => by obtain ⟨a, h1, h2⟩ := hN c hc4; exact ⟨a, by omega, h2⟩)).1
  have hb : bsF9 m p (i + 1) (nI j) = mxS (bsV m (svA m) (bsR m (svA m) p i) p j) 4 := by
    unfold bsF9
    rw [nI_clamp (by omega), bsR_s, if_neg hcan]
  rw [hf, hb]
  exact h9
/-- the first of the best choices -/
theorem fd_ch {f : Nat → Int32} {fd : Int32} (h : ∀ c, c < 4 → ∃ a : Nat, a < 2 ^ 31 ∧ f c = nI a) : fdS f true fd 4 = nI (chW f (moW f 4) 3 0) := by
  have m1 : mxS f 1 = f 0 := by
    obtain ⟨a, h1, h2⟩ := h 0 (by omega)
    show (if f 0 ≤ -1 then (-1 : Int32) else f 0) = _
    rw [if_neg]
    intro hle
    rw [h2] at hle
    have h0 : (0 : Int32) ≤ nI a := by rw [show (0 : Int32) = nI 0 by decide]; exact nI_le (by omega) h1
    exact absurd (Int32.le_trans h0 hle) (by decide)
  have hn0 : ¬ f 0 ≤ -1 := by
    obtain ⟨a, h1, h2⟩ := h 0 (by omega)
    intro hle
    rw [h2] at hle
    have h0 : (0 : Int32) ≤ nI a := by rw [show (0 : Int32) = nI 0 by decide]; exact nI_le (by omega) h1
    exact absurd (Int32.le_trans h0 hle) (by decide)
  have m4 : moW f 4 = mxS f 4 := ((mx_mo 3 h).1).symm
  have f1 : fdS f true fd 1 = nI 0 := by show (if f 0 ≤ mxS f 0 then fdS f true fd 0 else if true = true then nI 0 else fdS f true fd 0) = _; rw [show mxS f 0 = -1 from rfl, if_neg hn0]; rfl
  have s2 : mxS f 2 = if f 1 ≤ f 0 then f 0 else f 1 := by show (if f 1 ≤ mxS f 1 then mxS f 1 else f 1) = _; rw [m1]
  have g2 : fdS f true fd 2 = if f 1 ≤ f 0 then nI 0 else nI 1 := by show (if f 1 ≤ mxS f 1 then fdS f true fd 1 else if true = true then nI 1 else fdS f true fd 1) = _; rw [m1, f1]; rfl
  have s3 : mxS f 3 = if f 2 ≤ mxS f 2 then mxS f 2 else f 2 := rfl
  have g3 : fdS f true fd 3 = if f 2 ≤ mxS f 2 then fdS f true fd 2 else nI 2 := rfl
  have s4 : mxS f 4 = if f 3 ≤ mxS f 3 then mxS f 3 else f 3 := rfl
  have g4 : fdS f true fd 4 = if f 3 ≤ mxS f 3 then fdS f true fd 3 else nI 3 := rfl
  rw [m4]
  show _ = nI (if f 0 = mxS f 4 then 0 else if f 1 = mxS f 4 then 1 else if f 2 = mxS f 4 then 2 else 3)
  rw [g4, g3, g2, s4, s3, s2]
  generalize f 0 = a0
  generalize f 1 = a1
  generalize f 2 = a2
  generalize f 3 = a3
  have L : ∀ x y : Int32, ¬ x ≤ y → y < x := fun x y h => Int32.not_le.mp h
  by_cases c1 : a1 ≤ a0
  · simp only [if_pos c1]
    by_cases c2 : a2 ≤ a0
    · simp only [if_pos c2]
      by_cases c3 : a3 ≤ a0
      · simp only [if_pos c3]; simp
      · simp only [if_neg c3]
        have l := L _ _ c3
        rw [if_neg (fun e => by rw [e] at l; exact Int32.lt_irrefl l), if_neg (fun e => by rw [e] at c1; exact absurd l (Int32.not_lt.mpr c1)), if_neg (fun e => by rw [e] at c2; exact absurd l (Int32.not_lt.mpr c2))]
    · simp only [if_neg c2]
      have l2 := L _ _ c2
      by_cases c3 : a3 ≤ a2
      · simp only [if_pos c3]
        rw [if_neg (fun e => by rw [e] at l2; exact Int32.lt_irrefl l2), if_neg (fun e => by rw [e] at c1; exact absurd l2 (Int32.not_lt.mpr c1)), if_pos trivial]
      · simp only [if_neg c3]
        have l3 := L _ _ c3
        rw [if_neg (fun e => by rw [← e] at l3; exact absurd (Int32.lt_trans l2 l3) Int32.lt_irrefl), if_neg (fun e => by rw [← e] at l3; exact absurd l3 (Int32.not_lt.mpr (Int32.le_trans c1 (Int32.le_of_lt l2)))), if_neg (fun e => by rw [e] at l3; exact Int32.lt_irrefl l3)]
  · simp only [if_neg c1]
    have l1 := L _ _ c1
    by_cases c2 : a2 ≤ a1
    · simp only [if_pos c2]
      by_cases c3 : a3 ≤ a1
      · simp only [if_pos c3]
        rw [if_neg (fun e => by rw [e] at l1; exact Int32.lt_irrefl l1), if_pos trivial]
      · simp only [if_neg c3]
        have l3 := L _ _ c3
        rw [if_neg (fun e => by rw [← e] at l3; exact absurd (Int32.lt_trans l1 l3) Int32.lt_irrefl), if_neg (fun e => by rw [e] at l3; exact Int32.lt_irrefl l3), if_neg (fun e => by rw [← e] at l3; exact absurd l3 (Int32.not_lt.mpr c2))]
    · simp only [if_neg c2]
      have l2 := L _ _ c2
      by_cases c3 : a3 ≤ a2
      · simp only [if_pos c3]
        rw [if_neg (fun e => by rw [← e] at l2; exact absurd (Int32.lt_trans l1 l2) Int32.lt_irrefl), if_neg (fun e => by rw [e] at l2; exact Int32.lt_irrefl l2), if_pos trivial]
      · simp only [if_neg c3]
        have l3 := L _ _ c3
        rw [if_neg (fun e => by rw [← e] at l3; exact absurd (Int32.lt_trans (Int32.lt_trans l1 l2) l3) Int32.lt_irrefl), if_neg (fun e => by rw [← e] at l3; exact absurd (Int32.lt_trans l2 l3) Int32.lt_irrefl), if_neg (fun e => by rw [e] at l3; exact Int32.lt_irrefl l3)]
/-! saves -/
def saF9 (m : Sc) (p : Int32) (i : Nat) (k : Int32) : Int32 := saR m (svA m) p i k.toNatClampNeg
def saT9 (m : Sc) (p : Int32) (i : Nat) (k : Int32) : Int32 := bqV m (plR m (svA m) p (-1) i) p k.toNatClampNeg
theorem bqV_N {m tb : Sc} {p : Int32} {j : Nat} (hH : HOK m) (hp : p = 0 ∨ p = 1) (ht : RgT tb) (hj : j < 15488) (hcan : ¬ rCan (nI j) = 0) : ∃ n, n ≤ 1000000000 ∧ bqV m tb p j = nI n := by
  unfold bqV
  split
  · exact ht _ (bqN_of hH hp hj hcan).1
  · exact ⟨1000000000, Nat.le_refl _, by decide⟩
theorem saR_N {m : Sc} {p : Int32} (hp : p = 0 ∨ p = 1) (hH : HOK m) (hc : ChO m) (hst : stOK (svA m)) : ∀ n, RgT (saR m (svA m) p n)
  | 0 => fun j hj => ⟨0, by omega, by show (0 : Int32) = nI 0; decide⟩
  | n + 1 => fun j hj => by
    rw [saR_s]
    by_cases h : rCan (nI j) = 0
    · rw [if_pos h]; exact saR_N hp hH hc hst n j hj
    · rw [if_neg h]
      split
      · exact hdB_N hH hc hst (saR_N hp hH hc hst n) hj h
      · exact bqV_N hH hp (plR_N hH hc hst (n + 1)) hj h
theorem saF9_s {m : Sc} {p : Int32} (hp : p = 0 ∨ p = 1) (hH : HOK m) (hc : ChO m) (hst : stOK (svA m)) (i : Nat) (k : Int32) (hk : GKr k) : saF9 m p (i + 1) k = iMax (moW (plW9 m (saR m (svA m) p i) p (-1) k) 1) (saT9 m p (i + 1) k) := by
  obtain ⟨j, hj, rfl, hcan⟩ := hk
  obtain ⟨n, h1, h2⟩ := hdB_N (p := p) (th := -1) hH hc hst (saR_N hp hH hc hst i) hj hcan
  have e1 : moW (plW9 m (saR m (svA m) p i) p (-1) (nI j)) 1 = hdB m (svA m) (saR m (svA m) p i) p (-1) j := by
    show iMax 0 _ = _
    unfold plW9
    rw [nI_clamp (by omega), h2, iMax0 (by omega)]
  unfold saF9 saT9
  rw [e1, nI_clamp (by omega), saR_s, if_neg hcan]
  unfold iMax
  by_cases hc9 : bqV m (plR m (svA m) p (-1) (i + 1)) p j ≤ hdB m (svA m) (saR m (svA m) p i) p (-1) j
  · rw [if_pos hc9, if_neg (Int32.not_lt.mpr hc9)]
  · rw [if_neg hc9, if_pos (Int32.not_le.mp hc9)]

