/-! ===== one rally's worth by choices; what it ranges over ===== -/
def GKr (k : Int32) : Prop := ∃ j : Nat, j < 15488 ∧ k = nI j ∧ ¬ rCan (nI j) = 0
theorem wg_ral {m li cf s0 s tb vf wf : Sc} {cnt p th c10 : Int32} {j S H c ch p9 : Nat} {K : List Int32} (hX : CtxO m li cf s0) (hf : FrO s0 s) (hj : j < 15488) (hcan : ¬ rCan (nI j) = 0) (hS : S < 4) (hH4 : H < 4) (hcnt : CntO cnt p th) (hc : c < ch) (hch : ch ≤ 4) (hfi : fwB c10 (sBec s (nI j) 2) p9 + c * fwS c10 (sBec s (nI j) 2) = S * 4 + H)
    (hvf : ∀ o ∈ osL (wFo li cf c10 ch wf p9 (sBec s (nI j))) ch (nOf (sBec s (nI j))), vf (plc K (tgt (sBec s (nI j)) (bhS (sBec s (nI j)) li o))) = rvT cnt (fun k => tb k.toNatClampNeg) (tgt (sBec s (nI j)) (bhS (sBec s (nI j)) li o))) :
    wgV c vf ((osL (wFo li cf c10 ch wf p9 (sBec s (nI j))) ch (nOf (sBec s (nI j)))).map (enE K (sBec s (nI j)) li (wFo li cf c10 ch wf p9 (sBec s (nI j))))) = hdV m tb p th j S H := by
  have hsum := ral_sum (tb := tb) hX hf hj hcan hS hH4 hcnt
  obtain ⟨hl, hH, hch0, hcf, _⟩ := hX
  unfold wgV hdV
  rw [← hsum]
  generalize sBec s (nI j) = sF at *
  have hw : ∀ o, o < nOf sF → wFo li cf c10 ch wf p9 sF (o * 4 + c) = wgt (sF 6) li (sF 4) cf ((S * 4 + H) * 12) o := by
    intro o ho
    unfold wFo
    rw [fwL_at (sF 6) li (sF 4) cf _ _ wf (c := c) (o := o) ?_ ch hc hch, hfi]
    unfold nOf at ho
    by_cases h6 : sF 6 = 0
    · rw [if_pos h6] at ho ⊢; exact ho
    · rw [if_neg h6] at ho ⊢; omega
  have hcN : ∀ w, w < 12 → ∃ n, n ≤ 100 ∧ cf ((S * 4 + H) * 12 + w) = nI n := by
    intro w hw
    obtain ⟨e1, e2⟩ := hch0.1 ((S * 4 + H) * 12 + w) (by omega)
    exact ⟨_, e2, by rw [hcf _ (by omega)]; exact e1⟩
  have hnn : ∀ o, o < nOf sF → 0 ≤ wFo li cf c10 ch wf p9 sF (o * 4 + c) := by
    intro o ho
    rw [hw o ho]
    have : ∃ n, n ≤ 1100 ∧ wgt (sF 6) li (sF 4) cf ((S * 4 + H) * 12) o = nI n := by
      unfold wgt nOf at *
      by_cases h6 : sF 6 = 0
      · rw [if_pos h6] at ho ⊢
        obtain ⟨n, h1, h2⟩ := hcN o ho
        exact ⟨n, by omega, h2⟩
      · rw [if_neg h6]
        obtain ⟨n, h1, h2⟩ := wOf_N (li := li) (ln := sF 4) (i := o) hcN 10 (by decide)
        exact ⟨n, by omega, h2⟩
    obtain ⟨n, h1, h2⟩ := this
    rw [h2, show (0 : Int32) = nI 0 by decide]
    exact nI_le (by omega) (by omega)
  rw [wSm_os hc _ hnn]
  congr 2
  refine sm9_congr _ fun o ho => ?_
  by_cases hm : mcV (wFo li cf c10 ch wf p9 sF) o ch 0 = 1
  · have hin : o ∈ osL (wFo li cf c10 ch wf p9 sF) ch (nOf sF) := by
      unfold osL
      exact List.mem_filter.mpr ⟨List.mem_range.mpr ho, by simpa using hm⟩
    rw [hvf o hin, hw o ho]
  · have h0 : wFo li cf c10 ch wf p9 sF (o * 4 + c) = 0 := Int32.le_antisymm (mcV_0 ch 0 hm c (Nat.zero_le _) (by omega)) (hnn o ho)
    rw [← hw o ho, h0, show (0 : Int32).toInt64 = 0 by decide, Int64.zero_mul, Int64.zero_mul]
def RgT (tb : Sc) : Prop := ∀ j, j < 15488 → ∃ n, n ≤ 1000000000 ∧ tb j = nI n
theorem RT_N {m tb : Sc} {p th : Int32} {j w : Nat} (hH : HOK m) (ht : RgT tb) (hj : j < 15488) (hcan : ¬ rCan (nI j) = 0) (hw : w < 12) : ∃ n, n ≤ 1000000000 ∧ RT m tb p th (U m (nI j)) (nI w) = nI n := by
  have hv := U_Val m hj hcan
  obtain ⟨hm1, _⟩ := min_raH w hw
  have hvy : Val (rRal m (U m (nI j)) (nI w)) := Val_rRal hH hv (fun _ hlt => by
    rcases hm1 with h | h | h
    · rw [h.2] at hlt; exact absurd (by decide) hlt
    · rw [h.2] at hlt; exact absurd (by decide) hlt
    · exact h.2)
  unfold RT
  by_cases h1 : rWn m (U m (nI j)) (nI w) = -1
  · rw [if_pos h1]
    obtain ⟨k, hk, e, _⟩ := num_of (m := m) hvy
    rw [e, nI_clamp (by omega)]
    exact ht k hk
  · rw [if_neg h1]
    by_cases h2 : rWn m (U m (nI j)) (nI w) = p ∧ (th = -1 ∨ rRal m (U m (nI j)) (nI w) 2 = th)
    · rw [if_pos h2]; exact ⟨1000000000, Nat.le_refl _, by decide⟩
    · rw [if_neg h2]; exact ⟨0, by omega, by decide⟩
theorem sN_le {f g : Nat → Nat} {B : Nat} : ∀ n, (∀ w, w < n → g w ≤ B) → sN (fun w => f w * g w) n ≤ sN f n * B
  | 0, _ => by simp [sN]
  | n + 1, h => by
    have ih := sN_le (f := f) n (fun w hw => h w (by omega))
    rw [sN, sN, Nat.add_mul]
    have := Nat.mul_le_mul_left (f n) (h n (by omega))
    omega
theorem hdV_N {m tb : Sc} {p th : Int32} {j S H : Nat} (hH : HOK m) (hc : ChO m) (ht : RgT tb) (hj : j < 15488) (hcan : ¬ rCan (nI j) = 0) (hS : S < 4) (hH4 : H < 4) : ∃ n, n ≤ 1000000000 ∧ hdV m tb p th j S H = nI n := by
  have hr : ∀ w, w < 12 → RT m tb p th (U m (nI j)) (nI w) = nI (RT m tb p th (U m (nI j)) (nI w)).toNatClampNeg ∧ (RT m tb p th (U m (nI j)) (nI w)).toNatClampNeg ≤ 1000000000 := by
    intro w hw
    obtain ⟨n, h1, h2⟩ := RT_N (p := p) (th := th) hH ht hj hcan hw
    rw [h2, nI_clamp (by omega)]
    exact ⟨rfl, h1⟩
  have hs : ∀ n, n ≤ 12 → hdS m tb p th j S H n = lN (sN (fun w => chN m (12 * (4 * S + H) + w) * (RT m tb p th (U m (nI j)) (nI w)).toNatClampNeg) n) := by
    intro n
    induction n with
    | zero => intro _; rfl
    | succ n ih =>
      intro hn
      have e1 := (hc.1 (12 * (4 * S + H) + n) (by omega))
      have e2 := hr n (by omega)
      rw [hdS, sN, ih (by omega), hdT_RT, ← lN_add]
      congr 1
      unfold hdC
      rw [e1.1, e2.1, nI_l (by omega), nI_l (by omega), lN_mul, nI_clamp (by omega)]
  have hle := sN_le (f := fun w => chN m (12 * (4 * S + H) + w)) (g := fun w => (RT m tb p th (U m (nI j)) (nI w)).toNatClampNeg) (B := 1000000000) 12 (fun w hw => (hr w hw).2)
  rw [hc.2 (4 * S + H) (by omega)] at hle
  unfold hdV
  rw [hs 12 (Nat.le_refl _)]
  generalize sN (fun w => chN m (12 * (4 * S + H) + w) * (RT m tb p th (U m (nI j)) (nI w)).toNatClampNeg) 12 = A at *
  refine ⟨A / 100, by omega, ?_⟩
  have e : lN A / 100 = lN (A / 100) := (Int64.ofNat_div (b := 100) (by omega) (by decide)).symm
  rw [e, lN_i]
theorem stA {m : Sc} (h : stOK (svA m)) {j v : Nat} (hj : j < 15488) (hv : v ≤ 1) : ∃ s, s < 4 ∧ svV m (U m (nI j)) v = nI s := by
  obtain ⟨s, h1, h2⟩ := h (2 * j + v) (by omega)
  refine ⟨s, h1, ?_⟩
  unfold svA at h2
  rw [show (2 * j + v) / 2 = j by omega, show (2 * j + v) % 2 = v by omega] at h2
  exact h2
theorem hdB_N {m tb : Sc} {p th : Int32} {j : Nat} (hH : HOK m) (hc : ChO m) (hst : stOK (svA m)) (ht : RgT tb) (hj : j < 15488) (hcan : ¬ rCan (nI j) = 0) : ∃ n, n ≤ 1000000000 ∧ hdB m (svA m) tb p th j = nI n := by
  unfold hdB
  obtain ⟨s1, h1, e1⟩ := hst (2 * j + j / 121 % 2) (by omega)
  obtain ⟨s2, h2, e2⟩ := hst (2 * j + 1 - j / 121 % 2) (by omega)
  rw [e1, e2, nI_clamp (by omega), nI_clamp (by omega)]
  exact hdV_N hH hc ht hj hcan h1 h2
theorem plR_N {m : Sc} {p th : Int32} (hH : HOK m) (hc : ChO m) (hst : stOK (svA m)) : ∀ n, RgT (plR m (svA m) p th n)
  | 0 => fun j hj => ⟨0, by omega, by show (0 : Int32) = nI 0; decide⟩
  | n + 1 => fun j hj => by
    rw [plR_s]
    by_cases h : rCan (nI j) = 0
    · rw [if_pos h]; exact ⟨0, by omega, by decide⟩
    · rw [if_neg h]; exact hdB_N hH hc hst (plR_N hH hc hst n) hj h
theorem iMax0 {n : Nat} (h : n < 2 ^ 31) : iMax 0 (nI n) = nI n := by
  unfold iMax
  by_cases h0 : n = 0
  · rw [h0, if_neg (by decide)]; decide
  · rw [if_pos (by rw [show (0 : Int32) = nI 0 by decide]; exact nI_lt (by omega) h)]
/-- styles alike -/
def StyA (m yf : Sc) (Rl : Nat → RLs) : Prop := ∀ (s : Sc) (j : Nat), j < 15488 → ¬ rCan (nI j) = 0 → SA m s (U m (nI j)) → ∀ v, v ≤ 1 → rsV yf Rl s v = svV m (U m (nI j)) v
/-- the pair of styles at a score -/
theorem pa_eq {m yf s : Sc} {Rl : Nat → RLs} {j : Nat} (hs : StyA m yf Rl) (hst : stOK (svA m)) (hj : j < 15488) (hcan : ¬ rCan (nI j) = 0) (h : SA m s (U m (nI j))) : ∃ S H, S < 4 ∧ H < 4 ∧ paV yf Rl s = nI (S * 4 + H) ∧ svA m (2 * j + j / 121 % 2) = nI S ∧ svA m (2 * j + 1 - j / 121 % 2) = nI H ∧ s 2 = nI (j / 121 % 2) := by
  have e2 : s 2 = nI (j / 121 % 2) := by rw [h.1.2.2.1, U_2 m hj]
  have hv : j / 121 % 2 ≤ 1 := by omega
  obtain ⟨S, h1, h2⟩ := stA hst hj hv
  obtain ⟨H, h3, h4⟩ := stA hst hj (v := 1 - j / 121 % 2) (by omega)
  have es : sv0 s = j / 121 % 2 := by unfold sv0; rw [e2, nI_clamp (by omega)]
  refine ⟨S, H, h1, h3, ?_, ?_, ?_, e2⟩
  · unfold paV
    rw [es, hs s j hj hcan h _ hv, hs s j hj hcan h _ (by omega), h2, h4, show (4 : Int32) = nI 4 by decide, pk_mul, nI_add]
  · unfold svA
    rw [show (2 * j + j / 121 % 2) / 2 = j by omega, show (2 * j + j / 121 % 2) % 2 = j / 121 % 2 by omega]
    exact h2
  · unfold svA
    rw [show (2 * j + 1 - j / 121 % 2) / 2 = j by omega, show (2 * j + 1 - j / 121 % 2) % 2 = 1 - j / 121 % 2 by omega]
    exact h4
def plF (m : Sc) (p th : Int32) (i : Nat) (k : Int32) : Int32 := plR m (svA m) p th i k.toNatClampNeg
def plW9 (m tb : Sc) (p th : Int32) (k : Int32) (_ : Nat) : Int32 := hdB m (svA m) tb p th k.toNatClampNeg
/-- one rally without a choice -/
theorem StH_pl {m li cf s0 yf tb : Sc} {Rl : Nat → RLs} {cnt p th : Int32} (hX : CtxO m li cf s0) (hs : StyA m yf Rl) (hst : stOK (svA m)) (hcnt : CntO cnt p th) : StH GKr s0 li cf yf Rl (-1) 1 cnt (fun k => tb k.toNatClampNeg) (plW9 m tb p th) := by
  intro s wf vf k p9 K hf hk hp hpa hv c hc
  obtain ⟨j, hj, rfl, hcan⟩ := hk
  have hX' := hX
  obtain ⟨_, _, _, _, ⟨z7, z8, z9, z10⟩, _⟩ := hX'
  obtain ⟨f7, f8, f9, f10⟩ := id hf
  have hsa : SA m (sBec s (nI j)) (U m (nI j)) := bec_eq (f7.trans z7) (f8.trans z8) (f9.trans z9) (f10.trans z10) hj
  obtain ⟨S, H, hS, hH, e1, e2, e3, e4⟩ := pa_eq hs hst hj hcan hsa
  have hp9 : p9 = S * 4 + H := nI_eqI (by omega) (by omega) (hpa.symm.trans e1)
  obtain rfl : c = 0 := by omega
  rw [wg_ral (tb := tb) (S := S) (H := H) hX hf hj hcan hS hH hcnt hc (by decide) (by unfold fwB; rw [if_pos rfl, hp9]; omega) hv]
  unfold plW9 hdB
  rw [nI_clamp (by omega), e2, e3, nI_clamp (by omega), nI_clamp (by omega)]
theorem plF_0 (m : Sc) (p th k : Int32) : plF m p th 0 k = 0 := rfl
theorem plF_s {m : Sc} {p th : Int32} (hH : HOK m) (hc : ChO m) (hst : stOK (svA m)) (i : Nat) (k : Int32) (hk : GKr k) : plF m p th (i + 1) k = moW (plW9 m (plR m (svA m) p th i) p th k) 1 := by
  obtain ⟨j, hj, rfl, hcan⟩ := hk
  obtain ⟨n, h1, h2⟩ := hdB_N (p := p) (th := th) hH hc hst (plR_N (p := p) (th := th) hH hc hst i) hj hcan
  show _ = iMax 0 _
  unfold plF plW9
  rw [nI_clamp (by omega), plR_s, if_neg hcan, h2, iMax0 (by omega)]

