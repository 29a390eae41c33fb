/-! ===== one rally's worth: class = reference ===== -/
def chN (m : Sc) (i : Nat) : Nat := (m i).toNatClampNeg
def sN (f : Nat → Nat) : Nat → Nat
  | 0 => 0
  | n + 1 => sN f n + f n
/-- the chances are good: hundredths that add up -/
def ChO (m : Sc) : Prop := (∀ i, i < 192 → m i = nI (chN m i) ∧ chN m i ≤ 100) ∧ ∀ q, q < 16 → sN (fun w => chN m (12 * q + w)) 12 = 100
theorem t64_add {a b : Nat} (h : a + b < 2 ^ 31) : (nI a + nI b).toInt64 = (nI a).toInt64 + (nI b).toInt64 := by
  rw [nI_add, nI_l h, nI_l (by omega), nI_l (by omega), lN_add]
theorem wOf_N {li : Sc} {ln : Int32} {cf : Sc} {fi i : Nat} (hc : ∀ w, w < 12 → ∃ n, n ≤ 100 ∧ cf (fi + w) = nI n) : ∀ k, k ≤ 10 → ∃ n, n ≤ 100 * (k + 1) ∧ wOf li ln cf fi i k = nI n
  | 0, _ => by
    unfold wOf
    by_cases h0 : i = 0
    · rw [if_pos h0]; exact ⟨0, by omega, by decide⟩
    · rw [if_neg h0]
      by_cases h1 : i = 1
      · rw [if_pos h1]
        obtain ⟨n, hn, e⟩ := hc 0 (by omega)
        exact ⟨n, by omega, e⟩
      · rw [if_neg h1]
        obtain ⟨n, hn, e⟩ := hc 1 (by omega)
        exact ⟨n, by omega, e⟩
  | k + 1, hk => by
    obtain ⟨n, hn, e⟩ := wOf_N (li := li) (ln := ln) (i := i) hc k (by omega)
    rw [wOf]
    by_cases h : lBN li (iCmp (nI k) ln) = i
    · rw [if_pos h, e]
      obtain ⟨n2, hn2, e2⟩ := hc (2 + k) (by omega)
      rw [show fi + 2 + k = fi + (2 + k) by omega, e2]
      exact ⟨n + n2, by omega, nI_add _ _⟩
    · rw [if_neg h]; exact ⟨n, by omega, e⟩
def whN (li : Sc) (ln : Int32) (w : Nat) : Nat := if w = 0 then 1 else if w = 1 then 2 else lBN li (iCmp (nI (w - 2)) ln)
theorem off_sum {li : Sc} {ln : Int32} {cf : Sc} {fi : Nat} (hc : ∀ w, w < 12 → ∃ n, n ≤ 100 ∧ cf (fi + w) = nI n) (g : Nat → Int64) : ∀ k, k ≤ 10 → sm9 (fun o => (wOf li ln cf fi o k).toInt64 * g o) 3 = sm9 (fun w => (cf (fi + w)).toInt64 * g (whN li ln w)) (2 + k)
  | 0, _ => by
    have z : (0 : Int32).toInt64 = 0 := by decide
    simp [sm9, wOf, whN, z]
  | k + 1, hk => by
    have ih := off_sum (li := li) (ln := ln) hc g k (by omega)
    have e1 : sm9 (fun w => (cf (fi + w)).toInt64 * g (whN li ln w)) (2 + (k + 1)) = sm9 (fun w => (cf (fi + w)).toInt64 * g (whN li ln w)) (2 + k) + (cf (fi + (2 + k))).toInt64 * g (lBN li (iCmp (nI k) ln)) := by
      show _ + (cf (fi + (2 + k))).toInt64 * g (whN li ln (2 + k)) = _
      have : whN li ln (2 + k) = lBN li (iCmp (nI k) ln) := by
        unfold whN
        rw [if_neg (by omega), if_neg (by omega), show 2 + k - 2 = k by omega]
      rw [this]
      rfl
    rw [e1, ← ih]
    have hle := (lBN_e li (iCmp (nI k) ln)).2
    have hstep : ∀ i, (wOf li ln cf fi i (k + 1)).toInt64 = if lBN li (iCmp (nI k) ln) = i then (wOf li ln cf fi i k).toInt64 + (cf (fi + (2 + k))).toInt64 else (wOf li ln cf fi i k).toInt64 := by
      intro i
      rw [wOf]
      by_cases h : lBN li (iCmp (nI k) ln) = i
      · rw [if_pos h, if_pos h]
        obtain ⟨n, hn, e⟩ := wOf_N (li := li) (ln := ln) (i := i) hc k (by omega)
        obtain ⟨n2, hn2, e2⟩ := hc (2 + k) (by omega)
        rw [show fi + 2 + k = fi + (2 + k) by omega, e, e2]
        exact t64_add (by omega)
      · rw [if_neg h, if_neg h]
    simp only [sm9, hstep]
    generalize lBN li (iCmp (nI k) ln) = i at *
    generalize (wOf li ln cf fi 0 k).toInt64 = a0
    generalize (wOf li ln cf fi 1 k).toInt64 = a1
    generalize (wOf li ln cf fi 2 k).toInt64 = a2
    generalize (cf (fi + (2 + k))).toInt64 = cc
    obtain rfl | rfl | rfl : i = 0 ∨ i = 1 ∨ i = 2 := by omega
    · rw [if_pos rfl, if_neg (by decide), if_neg (by decide), Int64.add_mul]
      ac_rfl
    · rw [if_neg (by decide), if_pos rfl, if_neg (by decide), Int64.add_mul]
      ac_rfl
    · rw [if_neg (by decide), if_neg (by decide), if_pos rfl, Int64.add_mul]
      ac_rfl
theorem min_raH : ∀ o : Nat, o < 12 → (iMin (nI o) 2 = 0 ∧ nI o = 0 ∨ iMin (nI o) 2 = 1 ∧ nI o = 1 ∨ iMin (nI o) 2 = 2 ∧ lnOK (nI o - 2)) ∧ raH (iMin (nI o) 2) (nI o - 2) = nI o := by decide +kernel
/-- all that one rally's worth rests on -/
def CtxO (m li cf s0 : Sc) : Prop := LwA m li ∧ HOK m ∧ ChO m ∧ (∀ i, i < 192 → cf i = m i) ∧ (s0 7 = m 208 ∧ s0 8 = m 209 ∧ s0 9 = m 197 ∧ s0 10 = m 198) ∧ (∃ a, a ≤ 6 ∧ m 208 = nI a) ∧ ∃ b, b ≤ 6 ∧ m 209 = nI b
theorem ral_sum {m li cf s0 s tb : Sc} {cnt p th : Int32} {j S H : Nat} (hX : CtxO m li cf s0) (hf : FrO s0 s) (hj : j < 15488) (hcan : ¬ rCan (nI j) = 0) (hS : S < 4) (hH4 : H < 4) (hcnt : CntO cnt p th) : sm9 (fun o => (wgt (sBec s (nI j) 6) li (sBec s (nI j) 4) cf ((S * 4 + H) * 12) o).toInt64 * (rvT cnt (fun k => tb k.toNatClampNeg) (tgt (sBec s (nI j)) (bhS (sBec s (nI j)) li o))).toInt64) (nOf (sBec s (nI j))) = hdS m tb p th j S H 12 := by
  obtain ⟨hl, hH, hch, hcf, ⟨z7, z8, z9, z10⟩, ⟨a, ha, ea⟩, b, hb, eb⟩ := hX
  obtain ⟨f7, f8, f9, f10⟩ := hf
  have hsa : SA m (sBec s (nI j)) (U m (nI j)) := bec_eq (f7.trans z7) (f8.trans z8) (f9.trans z9) (f10.trans z10) hj
  have hv := U_Val m hj hcan
  have x7 : U m (nI j) 7 = nI a := by rw [← ea]; unfold U rUn; simp [upd_at]
  have x8 : U m (nI j) 8 = nI b := by rw [← eb]; unfold U rUn; simp [upd_at]
  have hcN : ∀ w, w < 12 → ∃ n, n ≤ 100 ∧ cf ((S * 4 + H) * 12 + w) = nI n := by
    intro w hw
    obtain ⟨e1, e2⟩ := hch.1 ((S * 4 + H) * 12 + w) (by omega)
    exact ⟨_, e2, by rw [hcf _ (by omega)]; exact e1⟩
  have eC : ∀ w, w < 12 → cf ((S * 4 + H) * 12 + w) = hdC m S H w := by
    intro w hw
    rw [hcf _ (by omega)]
    unfold hdC
    congr 1
    omega
  rw [hdS_sm]
  generalize U m (nI j) = x at *
  generalize sBec s (nI j) = sF at *
  have e6 := hsa.1.2.2.2.2.1
  by_cases h6 : x 6 = 0
  · have hs6 : sF 6 = 0 := e6.trans h6
    have hn : nOf sF = 12 := by unfold nOf; rw [if_pos hs6]
    rw [hn]
    refine sm9_congr 12 fun o ho => ?_
    have ew : wgt (sF 6) li (sF 4) cf ((S * 4 + H) * 12) o = hdC m S H o := by unfold wgt; rw [if_pos hs6]; exact eC o ho
    rw [ew]
    obtain ⟨hm1, hm2⟩ := min_raH o ho
    have eb : bhS sF li o = sStrike sF li (iMin (nI o) 2) (nI o - 2) := by unfold bhS; rw [if_pos hs6]
    have hh : iMin (nI o) 2 = 0 ∨ iMin (nI o) 2 = 1 ∨ iMin (nI o) 2 = 2 ∧ lnOK (nI o - 2) := by
      rcases hm1 with h | h | h
      · exact Or.inl h.1
      · exact Or.inr (Or.inl h.1)
      · exact Or.inr (Or.inr h)
    have hb2 := hsa.strike hl hH hv hh
    rw [hm2, ← eb] at hb2
    have hvy : Val (rRal m x (nI o)) := Val_rRal hH hv (fun _ hlt => by
      rcases hm1 with h | h | h
      · rw [h.2] at hlt; exact absurd (by decide) hlt
      · rw [h.2] at hlt; exact absurd (by decide) hlt
      · exact h.2)
    have hg := rRal_gm (m := m) (x := x) hv.2.1 (nI o)
    rw [tgt_val hsa hb2 hvy x7 ha x8 hb (by rw [rWn_W]; exact wnW_or hv.2.1 _) hg.1 hg.2 hcnt]
    rfl
  · have hs6 : ¬ sF 6 = 0 := by rw [e6]; exact h6
    have hn : nOf sF = 3 := by unfold nOf; rw [if_neg hs6]
    obtain ⟨h61, h3⟩ : x 6 = 1 ∧ (x 3 = 1 ∨ x 3 = 2) := by
      rcases hv.2.2 with ⟨_, a⟩ | ⟨a, _, b⟩ | ⟨a, _, _, b⟩
      · exact absurd a h6
      · exact ⟨b.resolve_left h6, Or.inl a⟩
      · exact ⟨b, Or.inr a⟩
    have h30 : ¬ x 3 = 0 := by rcases h3 with a | a <;> rw [a] <;> decide
    rw [hn]
    have e1 : ∀ o, o < 3 → (wgt (sF 6) li (sF 4) cf ((S * 4 + H) * 12) o).toInt64 * (rvT cnt (fun k => tb k.toNatClampNeg) (tgt sF (bhS sF li o))).toInt64 = (wOf li (sF 4) cf ((S * 4 + H) * 12) o 10).toInt64 * (RW m tb p th x (nI o)).toInt64 := by
      intro o ho
      have ew : wgt (sF 6) li (sF 4) cf ((S * 4 + H) * 12) o = wOf li (sF 4) cf ((S * 4 + H) * 12) o 10 := by unfold wgt; rw [if_neg hs6]
      rw [ew]
      have eb : bhS sF li o = sPlayOff sF (nI o) := by unfold bhS; rw [if_neg hs6]
      have hb2 := hsa.off h61 h3 (nI o)
      rw [← eb] at hb2
      have hvy : Val (rGone (rGive m x (nI o))) := by
        have h60 : x 6 = 0 → ∀ how : Int32, ¬ how < 2 → lnOK (how - 2) := fun h => absurd h h6
        obtain rfl | rfl | rfl : o = 0 ∨ o = 1 ∨ o = 2 := by omega
        · have hH2 : HOK (upd m 196 0) := by unfold HOK; rw [pk_un (by decide), pk_un (by decide)]; exact hH
          have := Val_rRal (how := 14) hH2 hv (fun h => absurd h h6)
          have ew : rWho (upd m 196 0) x 14 = 0 := by simp [rWho, rAs, h6, upd_at]
          have er : rRal (upd m 196 0) x 14 = rGone x := by unfold rRal; rw [if_neg h6, ew]; unfold rGive; rw [if_pos rfl]
          rw [er] at this
          unfold rGive
          rw [if_pos (by decide)]
          exact this
        · have := Val_rRal (how := 0) hH hv (fun h => absurd h h6)
          have er : rRal m x 0 = rGone (rGive m x 1) := by unfold rRal; rw [if_neg h6, show rWho m x 0 = 1 by simp [rWho]]
          rw [er] at this
          exact this
        · have := Val_rRal (how := 1) hH hv (fun h => absurd h h6)
          have er : rRal m x 1 = rGone (rGive m x 2) := by unfold rRal; rw [if_neg h6, show rWho m x 1 = 2 by simp [rWho]]
          rw [er] at this
          exact this
      have hg := rGive_gm (m := m) (x := x) hv.2.1 (nI o)
      rw [tgt_val hsa hb2 hvy x7 ha x8 hb (wnW_or hv.2.1 _) (by rw [rGone_gm.1]; exact hg.1) (by rw [rGone_gm.2]; exact hg.2) hcnt]
      rfl
    rw [sm9_congr 3 e1, off_sum hcN (fun o => (RW m tb p th x (nI o)).toInt64) 10 (by decide)]
    refine sm9_congr 12 fun w hw => ?_
    rw [eC w hw, RT_RW h6]
    have ewho : rWho m x (nI w) = nI (whN li (sF 4) w) := by
      unfold whN
      by_cases w0 : w = 0
      · rw [if_pos w0, w0]; simp [rWho, show nI 0 = (0 : Int32) by decide]; decide
      · rw [if_neg w0]
        by_cases w1 : w = 1
        · rw [if_pos w1, w1]; simp [rWho, show nI 1 = (1 : Int32) by decide]; decide
        · rw [if_neg w1]
          have hln : lnOK (nI (w - 2)) := ⟨by rw [show (0 : Int32) = nI 0 by decide]; exact nI_le (by omega) (by omega), by rw [show (9 : Int32) = nI 9 by decide]; exact nI_le (by omega) (by decide)⟩
          have := who_eq hl hsa h6 h30 2 (nI (w - 2)) (Or.inr (Or.inr ⟨rfl, hln⟩))
          have er : raH 2 (nI (w - 2)) = nI w := by unfold raH; rw [if_pos rfl, show (2 : Int32) = nI 2 by decide, nI_add, show 2 + (w - 2) = w by omega]
          rw [er] at this
          rw [← this]
          unfold sHit
          rw [if_neg hs6, if_pos rfl, (lBN_e li _).1]
    rw [ewho]

