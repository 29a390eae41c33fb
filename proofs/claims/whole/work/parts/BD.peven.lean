/-! ===== even: class = reference ===== -/
theorem ev_in {P : Nat → Nat → Bool} {v : Nat → Int32} {x : Int32} {sm : Nat} (hsm : sm < 7) (hv : ∀ o g, o ≤ 3 → g ≤ 3 → ((¬ x * 1000 < iAbs (v (o * 4 + g) - 500000000)) ↔ P o g = true)) (e : Int32) : ∀ f gv, f + gv = min 3 sm + 1 → sm - 3 ≤ gv → evI P sm (4 - gv) gv e = (match vnI v x sm f gv with | some r => nI r | none => e)
  | 0, gv, hf, hg => by
    have hn : ∀ c w, c + w = 4 → min 3 sm + 1 ≤ w → evI P sm c w e = e := by
      intro c
      induction c with
      | zero => intro w _ _; rfl
      | succ c ih =>
        intro w hw hw2
        rw [evI, if_neg (fun h => by omega)]
        exact ih (w + 1) (by omega) (by omega)
    exact hn _ _ (by omega) (by omega)
  | f + 1, gv, hf, hg => by
    have h3 : gv ≤ 3 := by omega
    have hs : gv ≤ sm ∧ sm - gv ≤ 3 := by omega
    have hP := hv (sm - gv) gv hs.2 h3
    rw [show 4 - gv = (4 - (gv + 1)) + 1 by omega, evI, vnI]
    by_cases hc : x * 1000 < iAbs (v ((sm - gv) * 4 + gv) - 500000000)
    · rw [if_pos hc, if_neg (fun h => absurd hc (hP.mpr h.2))]
      exact ev_in hsm hv e f (gv + 1) (by omega) (by omega)
    · rw [if_neg hc, if_pos ⟨hs, hP.mp hc⟩]
theorem ev_skip {P : Nat → Nat → Bool} {sm : Nat} {e : Int32} (hsm : sm < 7) : ∀ k, k ≤ sm - 3 → evI P sm 4 0 e = evI P sm (4 - k) k e
  | 0, _ => rfl
  | k + 1, hk => by
    rw [ev_skip hsm k (by omega), show 4 - k = (4 - (k + 1)) + 1 by omega, evI, if_neg (fun h => by omega)]
theorem ev_eq {P : Nat → Nat → Bool} {v : Nat → Int32} {x : Int32} (hv : ∀ o g, o ≤ 3 → g ≤ 3 → ((¬ x * 1000 < iAbs (v (o * 4 + g) - 500000000)) ↔ P o g = true)) : ∀ c sm, c + sm = 7 → vnO v x c sm = evO P c sm
  | 0, _, _ => rfl
  | c + 1, sm, h => by
    rw [evO, ev_skip (by omega) (sm - 3) (Nat.le_refl _), ev_in (by omega) hv _ (min 3 sm + 1 - (sm - 3)) (sm - 3) (by omega) (Nat.le_refl _), ← ev_eq hv c (sm + 1) (by omega)]
    rfl
theorem vn_Alk {m s tr : Sc} (h : SA m s (S m)) {i : Nat} (hi : i < 16) : Alk (vnT tr s (i + 1)) (evX m (nI (i / 4)) (nI (i % 4))) := by
  have e1 : nI i / 4 = nI (i / 4) := nI_div (by decide) (by omega) (by decide) (by decide)
  have e2 : nI i - nI i / 4 * 4 = nI (i % 4) := nI_rem (by decide) (by omega) (by decide) (by decide)
  have e3 : s 2 = S m 2 := h.1.2.2.1
  rw [vnT, e2, e1]
  unfold sRestart evX
  simp only [Alk, upd_at]
  simp [e3]
theorem an_even {m s tr : Sc} {ml : Int32} {n : Nat} (h : SA m s (S m)) (hv : Val (S m)) : vnO (fun i => plF m 0 (-1) n (sCode (vnT tr s (i + 1)))) ml 7 0 = evO (evP m (plR m (svA m) 0 (-1) n) ml) 7 0 ∧ ∀ i, i < 16 → gkC GKr (vnT tr s (i + 1)) := by
  have hk : ∀ i, i < 16 → sCode (vnT tr s (i + 1)) = rNum (evX m (nI (i / 4)) (nI (i % 4))) ∧ Val (evX m (nI (i / 4)) (nI (i % 4))) := by
    intro i hi
    have hV := evX_Val (o := i / 4) (g := i % 4) hv (by omega) (by omega)
    exact ⟨code_eq (vn_Alk h hi) hV, hV⟩
  refine ⟨ev_eq (fun o g ho hg => ?_) 7 0 rfl, fun i hi => ?_⟩
  · have e := (hk (o * 4 + g) (by omega)).1
    rw [show (o * 4 + g) / 4 = o by omega, show (o * 4 + g) % 4 = g by omega] at e
    unfold plF
    rw [e]
    unfold evP evN
    rw [decide_eq_true_iff]
    generalize plR m (svA m) 0 (-1) n (rNum (evX m (nI o) (nI g))).toNatClampNeg = V
    have ef : evF V = iAbs (V - 500000000) := by
      unfold evF iAbs
      by_cases hc : 0 ≤ V - 500000000
      · rw [if_pos hc, if_pos hc]
      · rw [if_neg hc, if_neg hc, Int32.zero_sub]
    rw [ef, Int32.mul_comm, Int32.not_lt]
  · obtain ⟨e, hV⟩ := hk i hi
    obtain ⟨k, hk9, e2, hc, _⟩ := num_of (m := m) hV
    exact ⟨⟨k, hk9, e.trans e2, hc⟩, k, hk9, e.trans e2⟩

