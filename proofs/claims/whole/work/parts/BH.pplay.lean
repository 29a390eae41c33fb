/-! ===== play: class = reference ===== -/
/-- styles alike, at every score -/
def StyX (m yf : Sc) (Rl : Nat → RLs) : Prop := ∀ (s x : Sc), Val x → SA m s x → ∀ v, v ≤ 1 → rsV yf Rl s v = svV m x v
theorem drN_eq (d : Int32) : drN d = pySd d := by unfold drN pySd; rw [Int32.mul_comm]
theorem sh_fin : ∀ i : Nat, i < 32 → (32767 : BitVec 32).getLsbD i = decide (i < 15) := by decide +kernel
theorem drE_eq (d : Int32) : (d >>> ((16 : Int32) &&& 31) &&& 32767) = pyE d := by
  unfold pyE
  apply Int32.toBitVec_inj.mp
  rw [Int32.toBitVec_and, Int32.toBitVec_and]
  have e1 : (d >>> ((16 : Int32) &&& 31)).toBitVec = d.toBitVec.sshiftRight 16 := by
    rw [Int32.toBitVec_shiftRight]
    have : ((16 : Int32) &&& 31).toBitVec.smod 32 = (16 : BitVec 32) := by decide
    rw [this]
    rfl
  have e2 : (d.toUInt32 >>> (Int32.toUInt32 16 &&& Int32.toUInt32 31)).toInt32.toBitVec = d.toBitVec >>> 16 := by
    show (d.toUInt32 >>> (Int32.toUInt32 16 &&& Int32.toUInt32 31)).toBitVec = _
    rw [UInt32.toBitVec_shiftRight]
    rfl
  rw [e1, e2]
  apply BitVec.eq_of_getLsbD_eq
  intro i hi
  rw [BitVec.getLsbD_and, BitVec.getLsbD_and, show (32767 : Int32).toBitVec = (32767 : BitVec 32) from rfl, sh_fin i hi]
  by_cases h : i < 15
  · have e3 : (d.toBitVec.sshiftRight 16).getLsbD i = (d.toBitVec >>> 16).getLsbD i := by
      rw [BitVec.getLsbD_sshiftRight, BitVec.getLsbD_ushiftRight]
      simp [show ¬ 32 ≤ i from by omega, show 16 + i < 32 from by omega]
    rw [e3]
  · simp [h]
theorem drO_eq (d : Int32) : drO (drN d) = pyDr (pySd d) := by unfold drO pyDr; rw [drE_eq, drN_eq]
theorem cu_eq {m cf : Sc} {b : Nat} : ∀ k, (∀ i, i ≤ k → cf (b + i) = m (b + i)) → cu m b k = su cf b (k + 1)
  | 0, h => by rw [cu, su, su, h 0 (by omega), Int32.zero_add, Nat.add_zero]
  | k + 1, h => by rw [cu, su, cu_eq k (fun i hi => h i (by omega)), h (k + 1) (by omega)]
theorem dr_eq {m cf : Sc} {b : Nat} {dr : Int32} (hb : ∀ i, i < 12 → cf (b + i) = m (b + i)) : ∀ c h, c + h ≤ 11 → drH m b dr c h = dwO cf b dr c h
  | 0, h, _ => by rw [drH, dwO]
  | c + 1, h, hc => by
    rw [drH, dwO, cu_eq h (fun i hi => hb i (by omega)), dr_eq hb c (h + 1) (by omega)]
theorem py_how : ∀ o : Nat, o < 12 → ((iMin (nI o) 2 = 0 ∨ iMin (nI o) 2 = 1 ∨ iMin (nI o) 2 = 2 ∧ lnOK (nI o - 2)) ∧ raH (iMin (nI o) 2) (nI o - 2) = nI o) := by decide +kernel
theorem pyS_s {li cf yf s : Sc} {Rl : Nat → RLs} {d : Int32} (k : Nat) : pyS li cf yf Rl s d (k + 1) = (sStrike (pyS li cf yf Rl s d k).1 li (iMin (nI (dwO cf (12 * (paV yf Rl (pyS li cf yf Rl s d k).1).toNatClampNeg) (drO (drN (pyS li cf yf Rl s d k).2)) 11 0)) 2) (nI (dwO cf (12 * (paV yf Rl (pyS li cf yf Rl s d k).1).toNatClampNeg) (drO (drN (pyS li cf yf Rl s d k).2)) 11 0) - 2), drN (pyS li cf yf Rl s d k).2) := rfl
theorem py_pa {m yf s x : Sc} {Rl : Nat → RLs} (hX : StyX m yf Rl) (h0 : stH m 0) (h1 : stH m 1) (hs : SA m s x) (hx : Val x) : (s 2 = 0 ∨ s 2 = 1) ∧ ∃ p, p < 16 ∧ paV yf Rl s = nI p ∧ pyB m x = 12 * p := by
  have e2 : s 2 = x 2 := hs.1.2.2.1
  have hv : svr x ≤ 1 ∧ sv0 s = svr x := by
    unfold svr sv0
    rw [e2]
    rcases hx.2.1 with h | h <;> rw [h] <;> decide
  refine ⟨by rw [e2]; exact hx.2.1, ?_⟩
  obtain ⟨a, ha, ea⟩ := soV_4 (m := m) (fc := fun _ => 0) (x := x) (stH_p h0 h1 hv.1)
  obtain ⟨b, hb, eb⟩ := soV_4 (m := m) (fc := fun _ => 0) (x := x) (stH_p (p := 1 - svr x) h0 h1 (by omega))
  refine ⟨a * 4 + b, by omega, ?_, ?_⟩
  · unfold paV
    rw [hv.2, hX s x hx hs _ hv.1, hX s x hx hs _ (by omega : 1 - svr x ≤ 1)]
    show svV m x (svr x) * 4 + svV m x (1 - svr x) = _
    rw [show svV m x (svr x) = nI a from ea, show svV m x (1 - svr x) = nI b from eb, show (4 : Int32) = nI 4 by decide, pk_mul, nI_add]
  · unfold pyB
    rw [show svV m x (svr x) = nI a from ea, show svV m x (1 - svr x) = nI b from eb, nI_clamp (by omega), nI_clamp (by omega)]
    omega
theorem py_run {m li cf yf s : Sc} {Rl : Nat → RLs} {sd : Int32} (hl : LwA m li) (hH : HOK m) (hcf : ∀ i, i < 192 → cf i = m i) (hX : StyX m yf Rl) (h0 : stH m 0) (h1 : stH m 1) : ∀ (c k : Nat) (x : Sc), SA m (pyS li cf yf Rl s sd k).1 x → Val x →
    ∃ N, k ≤ N ∧ N ≤ k + c ∧ (∀ j, k ≤ j → j < N → sOver (pyS li cf yf Rl s sd j).1 li = 0) ∧ (N = k + c ∨ ¬ sOver (pyS li cf yf Rl s sd N).1 li = 0) ∧ (∀ j, k ≤ j → j < N → ((pyS li cf yf Rl s sd j).1 2 = 0 ∨ (pyS li cf yf Rl s sd j).1 2 = 1) ∧ ∃ p, p < 16 ∧ paV yf Rl (pyS li cf yf Rl s sd j).1 = nI p) ∧
      (pyX m c x (pyS li cf yf Rl s sd k).2 k).2 = N ∧ SA m (pyS li cf yf Rl s sd N).1 (pyX m c x (pyS li cf yf Rl s sd k).2 k).1 ∧ Val (pyX m c x (pyS li cf yf Rl s sd k).2 k).1
  | 0, k, x, hs, hx => ⟨k, Nat.le_refl _, by omega, fun j a b => absurd b (by omega), Or.inl rfl, fun j a b => absurd b (by omega), by rw [pyX], by rw [pyX]; exact hs, by rw [pyX]; exact hx⟩
  | c + 1, k, x, hs, hx => by
    have eo := over_eq hl hs.2.1 hs.2.2.1
    rw [pyX]
    by_cases ho : rOver m x = 0
    · rw [if_pos ho]
      obtain ⟨h2, p, hp, ep, eb⟩ := py_pa hX h0 h1 hs hx
      have hd := dr_eq (m := m) (cf := cf) (b := 12 * p) (dr := drO (drN (pyS li cf yf Rl s sd k).2)) (fun i hi => hcf _ (by omega)) 11 0 (by omega)
      have hdl := drH_le m (12 * p) (drO (drN (pyS li cf yf Rl s sd k).2)) 11 0
      have e1 : pyS li cf yf Rl s sd (k + 1) = (sStrike (pyS li cf yf Rl s sd k).1 li (iMin (nI (drH m (12 * p) (drO (drN (pyS li cf yf Rl s sd k).2)) 11 0)) 2) (nI (drH m (12 * p) (drO (drN (pyS li cf yf Rl s sd k).2)) 11 0) - 2), drN (pyS li cf yf Rl s sd k).2) := by
        rw [pyS_s, ep, nI_clamp (by omega), hd]
      rw [eb, ← drO_eq, ← drN_eq]
      generalize drH m (12 * p) (drO (drN (pyS li cf yf Rl s sd k).2)) 11 0 = o at *
      obtain ⟨hh, er⟩ := py_how o (by omega)
      have hs2 := SA.strike hl hH hs hx hh
      have hv2 : Val (rRal m x (raH (iMin (nI o) 2) (nI o - 2))) := Val_rRal hH hx (fun _ => raH_ln hh)
      rw [er] at hs2 hv2
      have hs3 : SA m (pyS li cf yf Rl s sd (k + 1)).1 (rRal m x (nI o)) := by rw [e1]; exact hs2
      have hd2 : drN (pyS li cf yf Rl s sd k).2 = (pyS li cf yf Rl s sd (k + 1)).2 := by rw [e1]
      rw [hd2]
      obtain ⟨N, a1, a2, a3, a4, a5, a6, a7, a8⟩ := py_run hl hH hcf hX h0 h1 c (k + 1) _ hs3 hv2
      refine ⟨N, by omega, by omega, fun j hj hj2 => ?_, by rcases a4 with h | h; exact Or.inl (by omega); exact Or.inr h, fun j hj hj2 => ?_, a6, a7, a8⟩
      · rcases Nat.eq_or_lt_of_le hj with rfl | hj
        · rw [eo]; exact ho
        · exact a3 j hj hj2
      · rcases Nat.eq_or_lt_of_le hj with rfl | hj
        · exact ⟨h2, p, hp, ep⟩
        · exact a5 j hj hj2
    · rw [if_neg ho]
      exact ⟨k, Nat.le_refl _, by omega, fun j a b => absurd b (by omega), Or.inr (by rw [eo]; exact ho), fun j a b => absurd b (by omega), rfl, hs, hx⟩
/-- play's answers -/
theorem an_play {m li cf yf s : Sc} {Rl : Nat → RLs} {sd : Int32} (hl : LwA m li) (hM : MOK m) (hcf : ∀ i, i < 192 → cf i = m i) (hX : StyX m yf Rl) (hs : SA m s (S m)) (n : Nat) :
    ∃ N, N ≤ n ∧ (∀ j, j < N → sOver (pyS li cf yf Rl s sd j).1 li = 0) ∧ (N = n ∨ ¬ sOver (pyS li cf yf Rl s sd N).1 li = 0) ∧ (∀ j, j < N → ((pyS li cf yf Rl s sd j).1 2 = 0 ∨ (pyS li cf yf Rl s sd j).1 2 = 1) ∧ ∃ p, p < 16 ∧ paV yf Rl (pyS li cf yf Rl s sd j).1 = nI p) ∧
      ∀ w, w < 11 → (if w = 10 then nI N else sTell (pyS li cf yf Rl s sd N).1 w) = pyV m sd (nI w) n := by
  obtain ⟨hV, hH, h0, h1⟩ := hM
  obtain ⟨N, a1, a2, a3, a4, a5, a6, a7, a8⟩ := py_run (sd := sd) (s := s) hl hH hcf hX h0 h1 n 0 (S m) hs hV
  refine ⟨N, by omega, fun j hj => a3 j (by omega) hj, by rwa [Nat.zero_add] at a4, fun j hj => a5 j (by omega) hj, fun w hw => ?_⟩
  have a6' : (pyX m n (S m) sd 0).2 = N := a6
  unfold pyV
  by_cases h : w = 10
  · rw [if_pos h, if_pos (by rw [h]; decide), a6']
  · rw [if_neg h, if_neg (fun z => h (nI_eqI (by omega) (by decide) (z.trans (by decide : (10 : Int32) = nI 10)))), nI_clamp (by omega)]
    exact tell_eq a7 a8 (by omega)
theorem StyX.A {m yf : Sc} {Rl : Nat → RLs} (h : StyX m yf Rl) : StyA m yf Rl := fun s j hj hc hs v hv => h s _ (U_Val m hj hc) hs v hv

