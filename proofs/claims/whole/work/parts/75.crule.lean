/-! ===== RuleReader ===== -/
abbrev rR (cd q : Nat) : List (Option Nat) := [some cd, none, none, some q]
/-- the code so far -/
def CoR (Cc : List Int32) (i co : Sc) : Prop := i 1 = nI Cc.length ∧ Cc.length ≤ 400 ∧ ∀ z, z < Cc.length → co z = Cc.getD z 0
theorem CoR_push {Cc : List Int32} {i co : Sc} {v : Int32} (h : CoR Cc i co) (hl : Cc.length < 400) : CoR (Cc ++ [v]) (upd i 1 (nI (Cc.length + 1))) (upd co Cc.length v) := by
  refine ⟨by rw [pk_us, List.length_append, List.length_singleton], by rw [List.length_append, List.length_singleton]; omega, fun z hz => ?_⟩
  rw [List.length_append, List.length_singleton] at hz
  by_cases hz2 : z = Cc.length
  · subst hz2
    rw [pk_us]
    simp [List.getD]
  · rw [pk_un hz2, h.2.2 z (by omega)]
    simp [List.getD, List.getElem?_append_left (show z < Cc.length by omega)]
theorem c_X5_write {l : Launch} {g : Gh} {r cd q : Nat} {i co : Sc} {v : Int32} {Cc : List Int32} (hC : CoR Cc i co) (hl : Cc.length < 400) : Cp l g yX5_write (Cond.code yX5_write cX5_write 2 none) 1 [.ref r, .int v] [(r, ob 5 i (rR cd q)), (cd, aI g 400 co)] none [(r, ob 5 (upd i 1 (nI (Cc.length + 1))) (rR cd q)), (cd, aI g 400 (upd co Cc.length v))] := by
  refine ct_of (M := mtX5_write) [some (.ref r), some (.int v)] rfl (by decide) (Nat.le_of_ble_eq_true rfl) (fun _ h => h) (fun a => ?_)
  have hlt : ¬ nI 400 ≤ i 1 := by rw [hC.1]; exact nI_ge hl (by decide)
  have e1 := hC.1
  rw [← nI_1, ← e1]
  generalize hs : Cc.length = s at *
  refine q_aload_n 0 1 dX5_write_0 rfl rfl rfl ?_
  refine q_getI 0 4 f_X5_19 dX5_write_1 rfl rfl rfl ?_
  refine q_aload_n 0 5 dX5_write_4 rfl rfl rfl ?_
  refine q_getR 0 8 f_X5_9 dX5_write_5 rfl rfl rfl rfl ?_
  refine q_alenI 1 _ 9 dX5_write_8 rfl rfl rfl ?_
  refine q_icmp_ge 29 12 dX5_write_9 (by decide) rfl (fun h9 => absurd h9 hlt) (fun h9 => ?_)
  refine q_aload_n 0 13 dX5_write_12 rfl rfl rfl ?_
  refine q_getR 0 16 f_X5_9 dX5_write_13 rfl rfl rfl rfl ?_
  refine q_aload_n 0 17 dX5_write_16 rfl rfl rfl ?_
  refine q_dup 18 dX5_write_17 rfl rfl ?_
  refine q_getI 0 21 f_X5_19 dX5_write_18 rfl rfl rfl ?_
  refine q_dup_x1 22 dX5_write_21 rfl rfl rfl ?_
  refine q_iconst 1 23 dX5_write_22 ic_1 rfl ?_
  refine q_iadd 24 dX5_write_23 rfl ?_
  refine q_putI 0 27 (w' := [_, _]) f_X5_19 ft_X5_1 dX5_write_24 rfl rfl rfl rfl ?_
  refine q_iload_n 1 28 dX5_write_27 rfl rfl rfl ?_
  refine q_iast 1 s 29 (w' := [_, _]) dX5_write_28 rfl ⟨e1, by omega, by decide⟩ rfl rfl ?_
  refine q_return dX5_write_29 rfl ?_
  exact pR.rf
abbrev isPa (v : Int32) : Prop := v = 16 ∨ v = 17 ∨ v = 18 ∨ v = 19 ∨ v = 6
def paB (v : Int32) : Int32 := if isPa v then 1 else 0
theorem c_X5_isPart {l : Launch} {g : Gh} {v : Int32} : Cp l g yX5_isPart (Cond.code yX5_isPart cX5_isPart 1 (some .boolean)) 1 [.int v] [] (some (.int (paB v))) [] := by
  refine ct_of (M := mtX5_isPart) [some (.int v)] rfl (by decide) (Nat.le_of_ble_eq_true rfl) (fun _ h => h) (fun a => ?_)
  refine q_iload_n 0 1 dX5_isPart_0 rfl rfl rfl ?_
  refine q_bipush 16 3 dX5_isPart_1 bc_16 rfl ?_
  refine q_icmp_eq 30 6 dX5_isPart_3 (by decide) rfl (fun h3 => ?_) (fun h3 => ?_)
  · refine q_iconst 1 31 dX5_isPart_30 ic_1 rfl ?_
    refine q_goto 35 dX5_isPart_31 (by decide) ?_
    refine q_zreturn dX5_isPart_35 rfl (Or.inr rfl) ?_
    exact pR.mk (by simp_all [paB, isPa]) rfl
  · refine q_iload_n 0 7 dX5_isPart_6 rfl rfl rfl ?_
    refine q_bipush 17 9 dX5_isPart_7 bc_17 rfl ?_
    refine q_icmp_eq 30 12 dX5_isPart_9 (by decide) rfl (fun h9 => ?_) (fun h9 => ?_)
    · refine q_iconst 1 31 dX5_isPart_30 ic_1 rfl ?_
      refine q_goto 35 dX5_isPart_31 (by decide) ?_
      refine q_zreturn dX5_isPart_35 rfl (Or.inr rfl) ?_
      exact pR.mk (by simp_all [paB, isPa]) rfl
    · refine q_iload_n 0 13 dX5_isPart_12 rfl rfl rfl ?_
      refine q_bipush 18 15 dX5_isPart_13 bc_18 rfl ?_
      refine q_icmp_eq 30 18 dX5_isPart_15 (by decide) rfl (fun h15 => ?_) (fun h15 => ?_)
      · refine q_iconst 1 31 dX5_isPart_30 ic_1 rfl ?_
        refine q_goto 35 dX5_isPart_31 (by decide) ?_
        refine q_zreturn dX5_isPart_35 rfl (Or.inr rfl) ?_
        exact pR.mk (by simp_all [paB, isPa]) rfl
      · refine q_iload_n 0 19 dX5_isPart_18 rfl rfl rfl ?_
        refine q_bipush 19 21 dX5_isPart_19 bc_19 rfl ?_
        refine q_icmp_eq 30 24 dX5_isPart_21 (by decide) rfl (fun h21 => ?_) (fun h21 => ?_)
        · refine q_iconst 1 31 dX5_isPart_30 ic_1 rfl ?_
          refine q_goto 35 dX5_isPart_31 (by decide) ?_
          refine q_zreturn dX5_isPart_35 rfl (Or.inr rfl) ?_
          exact pR.mk (by simp_all [paB, isPa]) rfl
        · refine q_iload_n 0 25 dX5_isPart_24 rfl rfl rfl ?_
          refine q_bipush 6 27 dX5_isPart_25 bc_6 rfl ?_
          refine q_icmp_ne 34 30 dX5_isPart_27 (by decide) rfl (fun h27 => ?_) (fun h27 => ?_)
          · refine q_iconst 0 35 dX5_isPart_34 ic_0 rfl ?_
            refine q_zreturn dX5_isPart_35 rfl (Or.inl rfl) ?_
            exact pR.mk (by simp_all [paB, isPa]) rfl
          · refine q_iconst 1 31 dX5_isPart_30 ic_1 rfl ?_
            refine q_goto 35 dX5_isPart_31 (by decide) ?_
            refine q_zreturn dX5_isPart_35 rfl (Or.inr rfl) ?_
            exact pR.mk (by simp_all [paB, isPa]) rfl
/-- a reading: whether, where, what was written -/
abbrev PR : Type := Int32 × Nat × List Int32
def okP (L : List Tok) (k : Nat) (R : PR) : Prop := (R.1 = 0 ∨ R.1 = 1) ∧ k ≤ R.2.1 ∧ R.2.1 ≤ L.length ∧ (¬ R.1 = 0 → R.2.2.length + k ≤ R.2.1)
def pl1 (m : Nat) : List Int32 := if m = 0 then [] else [143]
def sumC (L : List Tok) (e : Nat) : Nat → Nat → Nat → PR
  | 0, _, k => (0, k, [])
  | c + 1, m, k =>
    if isN L e k 0 999 then
      (if isT L e (k + 1) 143 then ((sumC L e c (m + 1) (k + 2)).1, (sumC L e c (m + 1) (k + 2)).2.1, (1000 + (tA L e k).2.2) :: (pl1 m ++ (sumC L e c (m + 1) (k + 2)).2.2)) else (1, k + 1, (1000 + (tA L e k).2.2) :: pl1 m))
    else if isPa (tA L e k).1 then
      (if isT L e (k + 1) 143 then ((sumC L e c (m + 1) (k + 2)).1, (sumC L e c (m + 1) (k + 2)).2.1, (tA L e k).1 :: (pl1 m ++ (sumC L e c (m + 1) (k + 2)).2.2)) else (1, k + 1, (tA L e k).1 :: pl1 m))
    else (0, k, [])
theorem tA_lt {L : List Tok} {e k : Nat} (h : ¬ (tA L e k).1 = 0) : k < L.length := by
  rcases Nat.lt_or_ge k L.length with h1 | h1
  · exact h1
  · rw [tA_end h1] at h; exact absurd rfl h
theorem isPa_lt {L : List Tok} {e k : Nat} (h : isPa (tA L e k).1) : k < L.length := by
  refine tA_lt (e := e) (fun h0 => ?_)
  rw [h0] at h
  rcases h with h | h | h | h | h <;> exact absurd h (by decide)
/-- a sum's reading, m parts read before: one '+' more is passed than written then -/
theorem sumC_ok (L : List Tok) (e : Nat) : ∀ c m k, k ≤ L.length → ((sumC L e c m k).1 = 0 ∨ (sumC L e c m k).1 = 1) ∧ k ≤ (sumC L e c m k).2.1 ∧ (sumC L e c m k).2.1 ≤ L.length ∧ (¬ (sumC L e c m k).1 = 0 → (sumC L e c m k).2.2.length + k ≤ (sumC L e c m k).2.1 + (pl1 m).length)
  | 0, m, k, hk => ⟨Or.inl rfl, Nat.le_refl _, hk, fun h => absurd rfl h⟩
  | c + 1, m, k, hk => by
    rw [sumC]
    have hp : (pl1 (m + 1)).length = 1 := rfl
    by_cases h1 : isN L e k 0 999
    · rw [if_pos h1]
      have hk1 := h1.1.1
      by_cases h2 : isT L e (k + 1) 143
      · rw [if_pos h2]
        obtain ⟨a1, a2, a3, a4⟩ := sumC_ok L e c (m + 1) (k + 2) (by have := h2.1; omega)
        refine ⟨a1, by dsimp only; omega, a3, fun h => ?_⟩
        have := a4 h
        dsimp only
        rw [List.length_cons, List.length_append]
        omega
      · rw [if_neg h2]
        exact ⟨Or.inr rfl, by dsimp only; omega, by dsimp only; omega, fun _ => by dsimp only; rw [List.length_cons]; omega⟩
    · rw [if_neg h1]
      by_cases h3 : isPa (tA L e k).1
      · rw [if_pos h3]
        have hk1 := isPa_lt h3
        by_cases h2 : isT L e (k + 1) 143
        · rw [if_pos h2]
          obtain ⟨a1, a2, a3, a4⟩ := sumC_ok L e c (m + 1) (k + 2) (by have := h2.1; omega)
          refine ⟨a1, by dsimp only; omega, a3, fun h => ?_⟩
          have := a4 h
          dsimp only
          rw [List.length_cons, List.length_append]
          omega
        · rw [if_neg h2]
          exact ⟨Or.inr rfl, by dsimp only; omega, by dsimp only; omega, fun _ => by dsimp only; rw [List.length_cons]; omega⟩
      · rw [if_neg h3]
        exact ⟨Or.inl rfl, Nat.le_refl _, hk, fun h => absurd rfl h⟩
theorem CoR_2 {Cc : List Int32} {i co : Sc} {v : Int32} (h : CoR Cc i co) : CoR Cc (upd i 2 v) co := h
theorem nI_pos0 {m : Nat} (h : m ≤ 400) : (nI m ≤ 0) ↔ m = 0 := by
  rw [show (0 : Int32) = nI 0 from rfl, nI_leI (by omega) (by decide)]
  omega
theorem app3 (a : List Int32) (v : Int32) (b c : List Int32) : a ++ [v] ++ b ++ c = a ++ (v :: (b ++ c)) := by simp
theorem c_X5_readSum {l : Launch} {g : Gh} {r cd q t b n x e : Nat} {j th be nu : Sc} {L : List Tok} (hR : RepT L e j th be nu) {i co : Sc} {Cc : List Int32} {k : Nat} (hk : k ≤ L.length) (hC : CoR Cc i co) (hl : Cc.length ≤ k) :
    Ce l g yX5_readSum (Cond.code yX5_readSum cX5_readSum 4 (some .boolean)) 2 [.ref r] [(r, ob 5 i (rR cd q)), (cd, aI g 400 co), (q, ob 7 (upd j 6 (nI k)) (rS t b n x)), (t, aI g 401 th), (b, aI g 401 be), (n, aI g 401 nu)]
      (fun _ : Sc × Sc => some (.int (sumC L e 400 0 k).1)) (fun z : Sc × Sc => [(r, ob 5 z.1 (rR cd q)), (cd, aI g 400 z.2), (q, ob 7 (upd j 6 (nI (sumC L e 400 0 k).2.1)) (rS t b n x)), (t, aI g 401 th), (b, aI g 401 be), (n, aI g 401 nu)]) (fun z : Sc × Sc => (¬ (sumC L e 400 0 k).1 = 0 → CoR (Cc ++ (sumC L e 400 0 k).2.2) z.1 z.2 ∧ z.1 2 = i 2)) := by
  refine ct_of (M := mtX5_readSum) [some (.ref r), none, none, none] rfl (by decide) (Nat.le_of_ble_eq_true rfl) (fun _ h => h) (fun a => ?_)
  have hL4 := hR.2.1
  have K2 : ∀ (c m : Nat), c + m = 400 → ∀ (k : Nat) (i1 co1 : Sc) (C1 : List Int32) (R : PR) (z2 z3 : Option Value), k ≤ L.length → CoR C1 i1 co1 → C1.length + (pl1 m).length ≤ k → i1 2 = i 2 → sumC L e c m k = R → WPs l g mtX5_readSum 2 0 0 (pE (fun _ : Sc × Sc => some (.int R.1)) (fun z : Sc × Sc => [(r, ob 5 z.1 (rR cd q)), (cd, aI g 400 z.2), (q, ob 7 (upd j 6 (nI R.2.1)) (rS t b n x)), (t, aI g 401 th), (b, aI g 401 be), (n, aI g 401 nu)]) (fun z : Sc × Sc => (¬ R.1 = 0 → CoR (C1 ++ R.2.2) z.1 z.2 ∧ z.1 2 = i 2))) noX a 2 [some (.ref r), some (.int (nI m)), z2, z3] [] [(r, ob 5 i1 (rR cd q)), (cd, aI g 400 co1), (q, ob 7 (upd j 6 (nI k)) (rS t b n x)), (t, aI g 401 th), (b, aI g 401 be), (n, aI g 401 nu)] 0 0 := by
    intro c
    induction c with
    | zero =>
      intro m hm k i1 co1 C1 R z2 z3 hk hC hl hi2 hr
      obtain rfl : m = 400 := by omega
      subst hr
      have hge : (400 : Int32) ≤ nI 400 := by decide
      refine q_iload_n 1 3 dX5_readSum_2 rfl rfl rfl ?_
      refine q_sipush 400 6 dX5_readSum_3 sc_400 rfl ?_
      refine q_icmp_ge 102 9 dX5_readSum_6 (by decide) rfl (fun h6 => ?_) (fun h6 => absurd hge h6)
      refine q_iconst 0 103 dX5_readSum_102 ic_0 rfl ?_
      refine q_zreturn dX5_readSum_103 rfl (Or.inl rfl) ?_
      exact pE.mk (_, _) (fun h => absurd rfl h) rfl rfl
    | succ c ih =>
      intro m hm k i1 co1 C1 R z2 z3 hk hC hl hi2 hr
      rw [sumC] at hr
      have hlt : ¬ (400 : Int32) ≤ nI m := nI_ge (b := 400) (by omega) (by decide)
      have hk4 : k ≤ 400 := by omega
      /- behind a part: seg written, place k + 1 -/
      have K70 : ∀ (v : Int32) (i2 co2 : Sc) (z2 z3 : Option Value), k < L.length → CoR (C1 ++ [v]) i2 co2 → i2 2 = i 2 → (if isT L e (k + 1) 143 then ((sumC L e c (m + 1) (k + 2)).1, (sumC L e c (m + 1) (k + 2)).2.1, v :: (pl1 m ++ (sumC L e c (m + 1) (k + 2)).2.2)) else (1, k + 1, v :: pl1 m)) = R → WPs l g mtX5_readSum 2 0 0 (pE (fun _ : Sc × Sc => some (.int R.1)) (fun z : Sc × Sc => [(r, ob 5 z.1 (rR cd q)), (cd, aI g 400 z.2), (q, ob 7 (upd j 6 (nI R.2.1)) (rS t b n x)), (t, aI g 401 th), (b, aI g 401 be), (n, aI g 401 nu)]) (fun z : Sc × Sc => (¬ R.1 = 0 → CoR (C1 ++ R.2.2) z.1 z.2 ∧ z.1 2 = i 2))) noX a 70 [some (.ref r), some (.int (nI m)), z2, z3] [] [(r, ob 5 i2 (rR cd q)), (cd, aI g 400 co2), (q, ob 7 (upd j 6 (nI (k + 1))) (rS t b n x)), (t, aI g 401 th), (b, aI g 401 be), (n, aI g 401 nu)] 0 0 := by
        intro v i2 co2 z2 z3 hkl hC2 h22 hR2
        have hlen2 : (C1 ++ [v]).length = C1.length + 1 := by simp
        have K81 : ∀ (i3 co3 : Sc), CoR (C1 ++ [v] ++ pl1 m) i3 co3 → i3 2 = i 2 → WPs l g mtX5_readSum 2 0 0 (pE (fun _ : Sc × Sc => some (.int R.1)) (fun z : Sc × Sc => [(r, ob 5 z.1 (rR cd q)), (cd, aI g 400 z.2), (q, ob 7 (upd j 6 (nI R.2.1)) (rS t b n x)), (t, aI g 401 th), (b, aI g 401 be), (n, aI g 401 nu)]) (fun z : Sc × Sc => (¬ R.1 = 0 → CoR (C1 ++ R.2.2) z.1 z.2 ∧ z.1 2 = i 2))) noX a 81 [some (.ref r), some (.int (nI m)), z2, z3] [] [(r, ob 5 i3 (rR cd q)), (cd, aI g 400 co3), (q, ob 7 (upd j 6 (nI (k + 1))) (rS t b n x)), (t, aI g 401 th), (b, aI g 401 be), (n, aI g 401 nu)] 0 0 := by
          intro i3 co3 hC3 h32
          by_cases h2 : isT L e (k + 1) 143
          · rw [if_pos h2] at hR2
            have hb : ¬ psB L e (k + 1) 143 = 0 := by rw [show psB L e (k + 1) 143 = 1 from if_pos h2]; decide
            have hkk : psK L e (k + 1) 143 = k + 2 := if_pos h2
            have K1 := fun z2 z3 => ih (m + 1) (by omega) (k + 2) i3 co3 (C1 ++ [v] ++ pl1 m) _ z2 z3 (by have := h2.1; omega) hC3 (by rw [List.length_append, hlen2]; show _ + 1 ≤ _; omega) h32 rfl
            rw [show (fun z : Sc × Sc => (¬ (sumC L e c (m + 1) (k + 2)).1 = 0 → CoR (C1 ++ [v] ++ pl1 m ++ (sumC L e c (m + 1) (k + 2)).2.2) z.1 z.2 ∧ z.1 2 = i 2)) = (fun z : Sc × Sc => (¬ (sumC L e c (m + 1) (k + 2)).1 = 0 → CoR (C1 ++ (v :: (pl1 m ++ (sumC L e c (m + 1) (k + 2)).2.2))) z.1 z.2 ∧ z.1 2 = i 2)) from by rw [app3]] at K1
            subst hR2
            clear ih
            refine q_aload_n 0 82 dX5_readSum_81 rfl rfl rfl ?_
            refine q_getR 0 85 f_X5_15 dX5_readSum_82 rfl rfl rfl rfl ?_
            refine q_sipush 143 88 dX5_readSum_85 sc_143 rfl ?_
            refine q_cVi 2 [2, 3, 4, 5] [0, 1] [0, 1, 2, 3, 4, 5] 91 (wr := [_, _]) (w1 := _) (ws' := [_, _, _, _, _, _]) (c_X7_passes hR (by omega)) m_X5_33 dX5_readSum_88 rfl rfl rfl rfl rfl rfl rfl rfl (by decide) (by decide) (by decide) (by decide) (Nat.le_of_ble_eq_true rfl) (by omega) (by omega) (by omega) rfl ?_
            refine q_if_ne 96 94 dX5_readSum_91 (by decide) rfl (fun h91 => ?_) (fun h91 => absurd h91 hb)
            rw [hkk]
            refine q_iinc 1 (nI (m + 1)) 99 (L' := [_, _, _, _]) dX5_readSum_96 rfl (inc1 (m)) (by decide) rfl rfl ?_
            refine q_goto 2 dX5_readSum_99 (by decide) ?_
            exact K1 _ _
          · rw [if_neg h2] at hR2
            have hb : psB L e (k + 1) 143 = 0 := if_neg h2
            have hkk : psK L e (k + 1) 143 = k + 1 := if_neg h2
            subst hR2
            clear ih
            refine q_aload_n 0 82 dX5_readSum_81 rfl rfl rfl ?_
            refine q_getR 0 85 f_X5_15 dX5_readSum_82 rfl rfl rfl rfl ?_
            refine q_sipush 143 88 dX5_readSum_85 sc_143 rfl ?_
            refine q_cVi 2 [2, 3, 4, 5] [0, 1] [0, 1, 2, 3, 4, 5] 91 (wr := [_, _]) (w1 := _) (ws' := [_, _, _, _, _, _]) (c_X7_passes hR (by omega)) m_X5_33 dX5_readSum_88 rfl rfl rfl rfl rfl rfl rfl rfl (by decide) (by decide) (by decide) (by decide) (Nat.le_of_ble_eq_true rfl) (by omega) (by omega) (by omega) rfl ?_
            refine q_if_ne 96 94 dX5_readSum_91 (by decide) rfl (fun h91 => absurd hb h91) (fun h91 => ?_)
            rw [hkk]
            refine q_iconst 1 95 dX5_readSum_94 ic_1 rfl ?_
            refine q_zreturn dX5_readSum_95 rfl (Or.inr rfl) ?_
            exact pE.mk (_, _) (fun _ => ⟨by have h9 := hC3; rw [List.append_assoc] at h9; exact h9, h32⟩) rfl rfl
        clear ih
        by_cases hm0 : m = 0
        · have hle : nI m ≤ 0 := (nI_pos0 (by omega)).mpr hm0
          have K1 := K81 i2 co2 (by rw [show pl1 m = [] from if_pos hm0, List.append_nil]; exact hC2) h22
          clear K81
          refine q_iload_n 1 71 dX5_readSum_70 rfl rfl rfl ?_
          refine q_if_le 81 74 dX5_readSum_71 (by decide) rfl (fun h71 => ?_) (fun h71 => absurd hle h71)
          exact K1
        · have hle : ¬ nI m ≤ 0 := fun h => hm0 ((nI_pos0 (by omega)).mp h)
          have hp1 : pl1 m = [143] := if_neg hm0
          rw [hp1, List.length_singleton] at hl
          have hw := CoR_push (v := 143) hC2 (by omega)
          have K1 := K81 (upd i2 1 (nI ((C1 ++ [v]).length + 1))) (upd co2 (C1 ++ [v]).length 143) (by rw [hp1]; exact hw) h22
          clear K81
          refine q_iload_n 1 71 dX5_readSum_70 rfl rfl rfl ?_
          refine q_if_le 81 74 dX5_readSum_71 (by decide) rfl (fun h71 => absurd h71 hle) (fun h71 => ?_)
          refine q_aload_n 0 75 dX5_readSum_74 rfl rfl rfl ?_
          refine q_sipush 143 78 dX5_readSum_75 sc_143 rfl ?_
          refine q_cVv 0 [0, 1] [2, 3, 4, 5] [4, 5, 0, 1, 2, 3] 81 (wr := [_, _, _, _]) (w1 := _) (ws' := [_, _, _, _, _, _]) (c_X5_write hC2 (by omega)) m_X5_56 dX5_readSum_78 rfl rfl rfl rfl rfl rfl rfl rfl (by decide) (by decide) (by decide) (by decide) (Nat.le_of_ble_eq_true rfl) (by omega) (by omega) (by omega) rfl ?_
          exact K1
      clear ih
      by_cases h1 : isN L e k 0 999
      · rw [if_pos h1] at hr
        obtain ⟨n1, n2⟩ := pn_yes h1
        have hne : ¬ pnV L e k 0 999 = -1 := by
          obtain ⟨v, hv, ev⟩ := nat_to (n := 999) (Int32.not_lt.mp h1.2.1) h1.2.2 (by decide)
          rw [n1, ev]
          exact nI_nm1 (by omega)
        have hC4 : C1.length < 400 := by have := h1.1.1; omega
        have K1 := fun z2 z3 => K70 (1000 + (tA L e k).2.2) _ _ z2 z3 h1.1.1 (CoR_push (v := 1000 + (tA L e k).2.2) hC hC4) (show upd i1 1 _ 2 = i 2 from hi2) hr
        clear K70
        rw [← n1] at K1
        refine q_iload_n 1 3 dX5_readSum_2 rfl rfl rfl ?_
        refine q_sipush 400 6 dX5_readSum_3 sc_400 rfl ?_
        refine q_icmp_ge 102 9 dX5_readSum_6 (by decide) rfl (fun h6 => absurd h6 hlt) (fun h6 => ?_)
        refine q_aload_n 0 10 dX5_readSum_9 rfl rfl rfl ?_
        refine q_getR 0 13 f_X5_15 dX5_readSum_10 rfl rfl rfl rfl ?_
        refine q_cVi 2 [2, 3, 4, 5] [0, 1] [0, 1, 2, 3, 4, 5] 16 (wr := [_, _]) (w1 := _) (ws' := [_, _, _, _, _, _]) (c_X7_thing hR hk) m_X5_23 dX5_readSum_13 rfl rfl rfl rfl rfl rfl rfl rfl (by decide) (by decide) (by decide) (by decide) (Nat.le_of_ble_eq_true rfl) (by omega) (by omega) (by omega) rfl ?_
        refine q_istore_n 2 17 (L' := [_, _, _, _]) dX5_readSum_16 rfl (by decide) rfl rfl ?_
        refine q_aload_n 0 18 dX5_readSum_17 rfl rfl rfl ?_
        refine q_getR 0 21 f_X5_15 dX5_readSum_18 rfl rfl rfl rfl ?_
        refine q_iconst 0 22 dX5_readSum_21 ic_0 rfl ?_
        refine q_sipush 999 25 dX5_readSum_22 sc_999 rfl ?_
        refine q_cVi 2 [2, 3, 4, 5] [0, 1] [0, 1, 2, 3, 4, 5] 28 (wr := [_, _]) (w1 := _) (ws' := [_, _, _, _, _, _]) (c_X7_passNumber hR hk) m_X5_52 dX5_readSum_25 rfl rfl rfl rfl rfl rfl rfl rfl (by decide) (by decide) (by decide) (by decide) (Nat.le_of_ble_eq_true rfl) (by omega) (by omega) (by omega) rfl ?_
        rw [n2]
        refine q_istore_n 3 29 (L' := [_, _, _, _]) dX5_readSum_28 rfl (by decide) rfl rfl ?_
        refine q_iload_n 3 30 dX5_readSum_29 rfl rfl rfl ?_
        refine q_iconst (-1) 31 dX5_readSum_30 ic_m1 rfl ?_
        refine q_icmp_eq 46 34 dX5_readSum_31 (by decide) rfl (fun h31 => absurd h31 hne) (fun h31 => ?_)
        refine q_aload_n 0 35 dX5_readSum_34 rfl rfl rfl ?_
        refine q_sipush 1000 38 dX5_readSum_35 sc_1000 rfl ?_
        refine q_iload_n 3 39 dX5_readSum_38 rfl rfl rfl ?_
        refine q_iadd 40 dX5_readSum_39 rfl ?_
        refine q_cVv 0 [0, 1] [2, 3, 4, 5] [4, 5, 0, 1, 2, 3] 43 (wr := [_, _, _, _]) (w1 := _) (ws' := [_, _, _, _, _, _]) (c_X5_write hC hC4) m_X5_56 dX5_readSum_40 rfl rfl rfl rfl rfl rfl rfl rfl (by decide) (by decide) (by decide) (by decide) (Nat.le_of_ble_eq_true rfl) (by omega) (by omega) (by omega) rfl ?_
        refine q_goto 70 dX5_readSum_43 (by decide) ?_
        exact K1 _ _
      · rw [if_neg h1] at hr
        obtain ⟨n1, n2⟩ := pn_no h1
        by_cases h3 : isPa (tA L e k).1
        · rw [if_pos h3] at hr
          have hkl := isPa_lt h3
          have hpa : ¬ paB (tA L e k).1 = 0 := by rw [show paB (tA L e k).1 = 1 from if_pos h3]; decide
          have hC4 : C1.length < 400 := by omega
          have K1 := fun z2 z3 => K70 (tA L e k).1 _ _ z2 z3 hkl (CoR_push (v := (tA L e k).1) hC hC4) (show upd i1 1 _ 2 = i 2 from hi2) hr
          have hpk : pK1 L k = k + 1 := if_pos hkl
          clear K70
          refine q_iload_n 1 3 dX5_readSum_2 rfl rfl rfl ?_
          refine q_sipush 400 6 dX5_readSum_3 sc_400 rfl ?_
          refine q_icmp_ge 102 9 dX5_readSum_6 (by decide) rfl (fun h6 => absurd h6 hlt) (fun h6 => ?_)
          refine q_aload_n 0 10 dX5_readSum_9 rfl rfl rfl ?_
          refine q_getR 0 13 f_X5_15 dX5_readSum_10 rfl rfl rfl rfl ?_
          refine q_cVi 2 [2, 3, 4, 5] [0, 1] [0, 1, 2, 3, 4, 5] 16 (wr := [_, _]) (w1 := _) (ws' := [_, _, _, _, _, _]) (c_X7_thing hR hk) m_X5_23 dX5_readSum_13 rfl rfl rfl rfl rfl rfl rfl rfl (by decide) (by decide) (by decide) (by decide) (Nat.le_of_ble_eq_true rfl) (by omega) (by omega) (by omega) rfl ?_
          refine q_istore_n 2 17 (L' := [_, _, _, _]) dX5_readSum_16 rfl (by decide) rfl rfl ?_
          refine q_aload_n 0 18 dX5_readSum_17 rfl rfl rfl ?_
          refine q_getR 0 21 f_X5_15 dX5_readSum_18 rfl rfl rfl rfl ?_
          refine q_iconst 0 22 dX5_readSum_21 ic_0 rfl ?_
          refine q_sipush 999 25 dX5_readSum_22 sc_999 rfl ?_
          refine q_cVi 2 [2, 3, 4, 5] [0, 1] [0, 1, 2, 3, 4, 5] 28 (wr := [_, _]) (w1 := _) (ws' := [_, _, _, _, _, _]) (c_X7_passNumber hR hk) m_X5_52 dX5_readSum_25 rfl rfl rfl rfl rfl rfl rfl rfl (by decide) (by decide) (by decide) (by decide) (Nat.le_of_ble_eq_true rfl) (by omega) (by omega) (by omega) rfl ?_
          rw [n2]
          refine q_istore_n 3 29 (L' := [_, _, _, _]) dX5_readSum_28 rfl (by decide) rfl rfl ?_
          refine q_iload_n 3 30 dX5_readSum_29 rfl rfl rfl ?_
          refine q_iconst (-1) 31 dX5_readSum_30 ic_m1 rfl ?_
          refine q_icmp_eq 46 34 dX5_readSum_31 (by decide) rfl (fun h31 => ?_) (fun h31 => absurd n1 h31)
          refine q_iload_n 2 47 dX5_readSum_46 rfl rfl rfl ?_
          refine q_cSi [] [0, 1, 2, 3, 4, 5] [0, 1, 2, 3, 4, 5] 50 (wr := [_, _, _, _, _, _]) (w1 := _) (ws' := [_, _, _, _, _, _]) c_X5_isPart m_X5_79 dX5_readSum_47 rfl rfl rfl rfl rfl (by decide) (by decide) (by decide) (by decide) (Nat.le_of_ble_eq_true rfl) (by omega) (by omega) (by omega) rfl ?_
          refine q_if_eq 68 53 dX5_readSum_50 (by decide) rfl (fun h50 => absurd h50 hpa) (fun h50 => ?_)
          refine q_aload_n 0 54 dX5_readSum_53 rfl rfl rfl ?_
          refine q_iload_n 2 55 dX5_readSum_54 rfl rfl rfl ?_
          refine q_cVv 0 [0, 1] [2, 3, 4, 5] [4, 5, 0, 1, 2, 3] 58 (wr := [_, _, _, _]) (w1 := _) (ws' := [_, _, _, _, _, _]) (c_X5_write hC hC4) m_X5_56 dX5_readSum_55 rfl rfl rfl rfl rfl rfl rfl rfl (by decide) (by decide) (by decide) (by decide) (Nat.le_of_ble_eq_true rfl) (by omega) (by omega) (by omega) rfl ?_
          refine q_aload_n 0 59 dX5_readSum_58 rfl rfl rfl ?_
          refine q_getR 0 62 f_X5_15 dX5_readSum_59 rfl rfl rfl rfl ?_
          refine q_cVv 2 [2, 3, 4, 5] [0, 1] [0, 1, 2, 3, 4, 5] 65 (wr := [_, _]) (w1 := _) (ws' := [_, _, _, _, _, _]) (c_X7_pass hR hk) m_X5_70 dX5_readSum_62 rfl rfl rfl rfl rfl rfl rfl rfl (by decide) (by decide) (by decide) (by decide) (Nat.le_of_ble_eq_true rfl) (by omega) (by omega) (by omega) rfl ?_
          rw [hpk]
          refine q_goto 70 dX5_readSum_65 (by decide) ?_
          exact K1 _ _
        · rw [if_neg h3] at hr
          have hpa : paB (tA L e k).1 = 0 := if_neg h3
          subst hr
          clear K70
          refine q_iload_n 1 3 dX5_readSum_2 rfl rfl rfl ?_
          refine q_sipush 400 6 dX5_readSum_3 sc_400 rfl ?_
          refine q_icmp_ge 102 9 dX5_readSum_6 (by decide) rfl (fun h6 => absurd h6 hlt) (fun h6 => ?_)
          refine q_aload_n 0 10 dX5_readSum_9 rfl rfl rfl ?_
          refine q_getR 0 13 f_X5_15 dX5_readSum_10 rfl rfl rfl rfl ?_
          refine q_cVi 2 [2, 3, 4, 5] [0, 1] [0, 1, 2, 3, 4, 5] 16 (wr := [_, _]) (w1 := _) (ws' := [_, _, _, _, _, _]) (c_X7_thing hR hk) m_X5_23 dX5_readSum_13 rfl rfl rfl rfl rfl rfl rfl rfl (by decide) (by decide) (by decide) (by decide) (Nat.le_of_ble_eq_true rfl) (by omega) (by omega) (by omega) rfl ?_
          refine q_istore_n 2 17 (L' := [_, _, _, _]) dX5_readSum_16 rfl (by decide) rfl rfl ?_
          refine q_aload_n 0 18 dX5_readSum_17 rfl rfl rfl ?_
          refine q_getR 0 21 f_X5_15 dX5_readSum_18 rfl rfl rfl rfl ?_
          refine q_iconst 0 22 dX5_readSum_21 ic_0 rfl ?_
          refine q_sipush 999 25 dX5_readSum_22 sc_999 rfl ?_
          refine q_cVi 2 [2, 3, 4, 5] [0, 1] [0, 1, 2, 3, 4, 5] 28 (wr := [_, _]) (w1 := _) (ws' := [_, _, _, _, _, _]) (c_X7_passNumber hR hk) m_X5_52 dX5_readSum_25 rfl rfl rfl rfl rfl rfl rfl rfl (by decide) (by decide) (by decide) (by decide) (Nat.le_of_ble_eq_true rfl) (by omega) (by omega) (by omega) rfl ?_
          rw [n2]
          refine q_istore_n 3 29 (L' := [_, _, _, _]) dX5_readSum_28 rfl (by decide) rfl rfl ?_
          refine q_iload_n 3 30 dX5_readSum_29 rfl rfl rfl ?_
          refine q_iconst (-1) 31 dX5_readSum_30 ic_m1 rfl ?_
          refine q_icmp_eq 46 34 dX5_readSum_31 (by decide) rfl (fun h31 => ?_) (fun h31 => absurd n1 h31)
          refine q_iload_n 2 47 dX5_readSum_46 rfl rfl rfl ?_
          refine q_cSi [] [0, 1, 2, 3, 4, 5] [0, 1, 2, 3, 4, 5] 50 (wr := [_, _, _, _, _, _]) (w1 := _) (ws' := [_, _, _, _, _, _]) c_X5_isPart m_X5_79 dX5_readSum_47 rfl rfl rfl rfl rfl (by decide) (by decide) (by decide) (by decide) (Nat.le_of_ble_eq_true rfl) (by omega) (by omega) (by omega) rfl ?_
          refine q_if_eq 68 53 dX5_readSum_50 (by decide) rfl (fun h50 => ?_) (fun h50 => absurd hpa h50)
          refine q_iconst 0 69 dX5_readSum_68 ic_0 rfl ?_
          refine q_zreturn dX5_readSum_69 rfl (Or.inl rfl) ?_
          exact pE.mk (_, _) (fun h => absurd rfl h) rfl rfl
  have K1 := fun z2 z3 => K2 400 0 rfl k i co Cc _ z2 z3 hk hC hl rfl rfl
  clear K2
  generalize sumC L e 400 0 k = R9 at *
  refine q_iconst 0 1 dX5_readSum_0 ic_0 rfl ?_
  refine q_istore_n 1 2 (L' := [_, _, _, _]) dX5_readSum_1 rfl (by decide) rfl rfl ?_
  exact K1 _ _
/-- a comparison -/
def cmpC (L : List Tok) (e k : Nat) : PR :=
  let s1 := sumC L e 400 0 k
  if s1.1 = 0 then (0, s1.2.1, []) else
  let sg := (tA L e s1.2.1).1
  if sg = 160 ∨ sg = 162 then
    let s2 := sumC L e 400 0 (s1.2.1 + 1)
    if s2.1 = 0 then (0, s2.2.1, []) else (1, s2.2.1, s1.2.2 ++ s2.2.2 ++ [sg])
  else (0, s1.2.1, [])
theorem cmpC_ok {L : List Tok} {e k : Nat} (hk : k ≤ L.length) : okP L k (cmpC L e k) := by
  unfold cmpC okP
  dsimp only
  obtain ⟨a1, a2, a3, a4⟩ := sumC_ok L e 400 0 k hk
  generalize sumC L e 400 0 k = s1 at *
  split
  · exact ⟨Or.inl rfl, a2, a3, fun h => absurd rfl h⟩
  · rename_i h1
    have a4 : s1.2.2.length + k ≤ s1.2.1 + 0 := a4 h1
    split
    · rename_i h2
      have hlt : s1.2.1 < L.length := tA_lt (e := e) (fun h0 => by rw [h0] at h2; rcases h2 with h | h <;> exact absurd h (by decide))
      obtain ⟨b1, b2, b3, b4⟩ := sumC_ok L e 400 0 (s1.2.1 + 1) hlt
      generalize sumC L e 400 0 (s1.2.1 + 1) = s2 at *
      split
      · exact ⟨Or.inl rfl, by dsimp only; omega, b3, fun h => absurd rfl h⟩
      · rename_i h3
        have b4 : s2.2.2.length + (s1.2.1 + 1) ≤ s2.2.1 + 0 := b4 h3
        refine ⟨Or.inr rfl, by dsimp only; omega, b3, fun _ => ?_⟩
        dsimp only
        rw [List.length_append, List.length_append, List.length_singleton]
        omega
    · exact ⟨Or.inl rfl, a2, a3, fun h => absurd rfl h⟩
theorem c_X5_readCompared {l : Launch} {g : Gh} {r cd q t b n x e : Nat} {j th be nu : Sc} {L : List Tok} (hR : RepT L e j th be nu) {i co : Sc} {Cc : List Int32} {k : Nat} (hk : k ≤ L.length) (hC : CoR Cc i co) (hl : Cc.length ≤ k) :
    Ce l g yX5_readCompared (Cond.code yX5_readCompared cX5_readCompared 2 (some .boolean)) 3 [.ref r] [(r, ob 5 i (rR cd q)), (cd, aI g 400 co), (q, ob 7 (upd j 6 (nI k)) (rS t b n x)), (t, aI g 401 th), (b, aI g 401 be), (n, aI g 401 nu)]
      (fun _ : Sc × Sc => some (.int (cmpC L e k).1)) (fun z : Sc × Sc => [(r, ob 5 z.1 (rR cd q)), (cd, aI g 400 z.2), (q, ob 7 (upd j 6 (nI (cmpC L e k).2.1)) (rS t b n x)), (t, aI g 401 th), (b, aI g 401 be), (n, aI g 401 nu)]) (fun z : Sc × Sc => (¬ (cmpC L e k).1 = 0 → CoR (Cc ++ (cmpC L e k).2.2) z.1 z.2 ∧ z.1 2 = i 2)) := by
  refine ct_of (M := mtX5_readCompared) [some (.ref r), none] rfl (by decide) (Nat.le_of_ble_eq_true rfl) (fun _ h => h) (fun a => ?_)
  have hL4 := hR.2.1
  unfold cmpC
  dsimp only
  obtain ⟨a1, a2, a3, a4⟩ := sumC_ok L e 400 0 k hk
  have hc1 := c_X5_readSum (l := l) (g := g) (r := r) (cd := cd) (q := q) (t := t) (b := b) (n := n) (x := x) hR hk hC hl
  generalize sumC L e 400 0 k = s1 at *
  obtain ⟨o1, k1, g1⟩ := s1
  dsimp only at a1 a2 a3 a4 hc1 ⊢
  by_cases h1 : o1 = 0
  · rw [if_pos h1]
    refine q_aload_n 0 1 dX5_readCompared_0 rfl rfl rfl ?_
    refine q_xVi 0 [0, 1, 2, 3, 4, 5] [] [0, 1, 2, 3, 4, 5] 4 (wr := []) (w1 := _) (ws' := fun _ => [_, _, _, _, _, _]) hc1 m_X5_76 dX5_readCompared_1 rfl rfl rfl rfl rfl rfl rfl (fun _ => rfl) (by decide) (by decide) (by decide) (by decide) (Nat.le_of_ble_eq_true rfl) (by omega) (by omega) (by omega) rfl (fun z1 hx1 => ?_)
    obtain ⟨i1, co1⟩ := z1
    dsimp only at hx1 ⊢
    refine q_if_ne 9 7 dX5_readCompared_4 (by decide) rfl (fun h4 => absurd h1 h4) (fun h4 => ?_)
    refine q_iconst 0 8 dX5_readCompared_7 ic_0 rfl ?_
    refine q_zreturn dX5_readCompared_8 rfl (Or.inl rfl) ?_
    exact pE.mk (_, _) (fun h => absurd rfl h) rfl rfl
  · rw [if_neg h1]
    have a4 : g1.length + k ≤ k1 + 0 := a4 h1
    by_cases h2 : (tA L e k1).1 = 160 ∨ (tA L e k1).1 = 162
    · rw [if_pos h2]
      have hlt : k1 < L.length := tA_lt (e := e) (fun h0 => by rw [h0] at h2; rcases h2 with h | h <;> exact absurd h (by decide))
      have hpk : pK1 L k1 = k1 + 1 := if_pos hlt
      obtain ⟨b1, b2, b3, b4⟩ := sumC_ok L e 400 0 (k1 + 1) hlt
      have hc2 := fun (i1 co1 : Sc) (hC1 : CoR (Cc ++ g1) i1 co1) => c_X5_readSum (l := l) (g := g) (r := r) (cd := cd) (q := q) (t := t) (b := b) (n := n) (x := x) hR (k := k1 + 1) hlt hC1 (by rw [List.length_append]; omega)
      generalize sumC L e 400 0 (k1 + 1) = s2 at *
      obtain ⟨o2, k2, g2⟩ := s2
      dsimp only at b1 b2 b3 b4 hc2 ⊢
      have K33 : ∀ (i1 co1 : Sc), CoR (Cc ++ g1) i1 co1 → i1 2 = i 2 → WPs l g mtX5_readCompared 3 0 0 (pE (fun _ : Sc × Sc => some (.int (if o2 = 0 then ((0 : Int32), k2, ([] : List Int32)) else (1, k2, g1 ++ g2 ++ [(tA L e k1).1])).1)) (fun z : Sc × Sc => [(r, ob 5 z.1 (rR cd q)), (cd, aI g 400 z.2), (q, ob 7 (upd j 6 (nI (if o2 = 0 then ((0 : Int32), k2, ([] : List Int32)) else (1, k2, g1 ++ g2 ++ [(tA L e k1).1])).2.1)) (rS t b n x)), (t, aI g 401 th), (b, aI g 401 be), (n, aI g 401 nu)]) (fun z : Sc × Sc => (¬ (if o2 = 0 then ((0 : Int32), k2, ([] : List Int32)) else (1, k2, g1 ++ g2 ++ [(tA L e k1).1])).1 = 0 → CoR (Cc ++ (if o2 = 0 then ((0 : Int32), k2, ([] : List Int32)) else (1, k2, g1 ++ g2 ++ [(tA L e k1).1])).2.2) z.1 z.2 ∧ z.1 2 = i 2))) noX a 33 [some (.ref r), some (.int (tA L e k1).1)] [] [(r, ob 5 i1 (rR cd q)), (cd, aI g 400 co1), (q, ob 7 (upd j 6 (nI k1)) (rS t b n x)), (t, aI g 401 th), (b, aI g 401 be), (n, aI g 401 nu)] 0 0 := by
        intro i1 co1 hC1 h12
        by_cases h3 : o2 = 0
        · rw [if_pos h3]
          refine q_aload_n 0 34 dX5_readCompared_33 rfl rfl rfl ?_
          refine q_getR 0 37 f_X5_15 dX5_readCompared_34 rfl rfl rfl rfl ?_
          refine q_cVv 2 [2, 3, 4, 5] [0, 1] [0, 1, 2, 3, 4, 5] 40 (wr := [_, _]) (w1 := _) (ws' := [_, _, _, _, _, _]) (c_X7_pass hR (by omega)) m_X5_70 dX5_readCompared_37 rfl rfl rfl rfl rfl rfl rfl rfl (by decide) (by decide) (by decide) (by decide) (Nat.le_of_ble_eq_true rfl) (by omega) (by omega) (by omega) rfl ?_
          rw [hpk]
          refine q_aload_n 0 41 dX5_readCompared_40 rfl rfl rfl ?_
          refine q_xVi 0 [0, 1, 2, 3, 4, 5] [] [0, 1, 2, 3, 4, 5] 44 (wr := []) (w1 := _) (ws' := fun _ => [_, _, _, _, _, _]) (hc2 i1 co1 hC1) m_X5_76 dX5_readCompared_41 rfl rfl rfl rfl rfl rfl rfl (fun _ => rfl) (by decide) (by decide) (by decide) (by decide) (Nat.le_of_ble_eq_true rfl) (by omega) (by omega) (by omega) rfl (fun z2 hx2 => ?_)
          obtain ⟨i2, co2⟩ := z2
          dsimp only at hx2 ⊢
          refine q_if_ne 49 47 dX5_readCompared_44 (by decide) rfl (fun h44 => absurd h3 h44) (fun h44 => ?_)
          refine q_iconst 0 48 dX5_readCompared_47 ic_0 rfl ?_
          refine q_zreturn dX5_readCompared_48 rfl (Or.inl rfl) ?_
          exact pE.mk (_, _) (fun h => absurd rfl h) rfl rfl
        · rw [if_neg h3]
          have b4 : g2.length + (k1 + 1) ≤ k2 + 0 := b4 h3
          have hlen : (Cc ++ g1 ++ g2).length < 400 := by rw [List.length_append, List.length_append]; omega
          refine q_aload_n 0 34 dX5_readCompared_33 rfl rfl rfl ?_
          refine q_getR 0 37 f_X5_15 dX5_readCompared_34 rfl rfl rfl rfl ?_
          refine q_cVv 2 [2, 3, 4, 5] [0, 1] [0, 1, 2, 3, 4, 5] 40 (wr := [_, _]) (w1 := _) (ws' := [_, _, _, _, _, _]) (c_X7_pass hR (by omega)) m_X5_70 dX5_readCompared_37 rfl rfl rfl rfl rfl rfl rfl rfl (by decide) (by decide) (by decide) (by decide) (Nat.le_of_ble_eq_true rfl) (by omega) (by omega) (by omega) rfl ?_
          rw [hpk]
          refine q_aload_n 0 41 dX5_readCompared_40 rfl rfl rfl ?_
          refine q_xVi 0 [0, 1, 2, 3, 4, 5] [] [0, 1, 2, 3, 4, 5] 44 (wr := []) (w1 := _) (ws' := fun _ => [_, _, _, _, _, _]) (hc2 i1 co1 hC1) m_X5_76 dX5_readCompared_41 rfl rfl rfl rfl rfl rfl rfl (fun _ => rfl) (by decide) (by decide) (by decide) (by decide) (Nat.le_of_ble_eq_true rfl) (by omega) (by omega) (by omega) rfl (fun z2 hx2 => ?_)
          obtain ⟨i2, co2⟩ := z2
          dsimp only at hx2 ⊢
          refine q_if_ne 49 47 dX5_readCompared_44 (by decide) rfl (fun h44 => ?_) (fun h44 => absurd h44 h3)
          refine q_aload_n 0 50 dX5_readCompared_49 rfl rfl rfl ?_
          refine q_iload_n 1 51 dX5_readCompared_50 rfl rfl rfl ?_
          refine q_cVv 0 [0, 1] [2, 3, 4, 5] [4, 5, 0, 1, 2, 3] 54 (wr := [_, _, _, _]) (w1 := _) (ws' := [_, _, _, _, _, _]) (c_X5_write (hx2 h3).1 hlen) m_X5_56 dX5_readCompared_51 rfl rfl rfl rfl rfl rfl rfl rfl (by decide) (by decide) (by decide) (by decide) (Nat.le_of_ble_eq_true rfl) (by omega) (by omega) (by omega) rfl ?_
          refine q_iconst 1 55 dX5_readCompared_54 ic_1 rfl ?_
          refine q_zreturn dX5_readCompared_55 rfl (Or.inr rfl) ?_
          exact pE.mk (upd i2 1 (nI ((Cc ++ g1 ++ g2).length + 1)), upd co2 (Cc ++ g1 ++ g2).length (tA L e k1).1) (fun _ => ⟨by have h9 := CoR_push (v := (tA L e k1).1) (hx2 h3).1 hlen; rw [List.append_assoc, List.append_assoc] at h9; rw [List.append_assoc]; exact h9, (hx2 h3).2.trans h12⟩) rfl rfl
      clear hc2
      refine q_aload_n 0 1 dX5_readCompared_0 rfl rfl rfl ?_
      refine q_xVi 0 [0, 1, 2, 3, 4, 5] [] [0, 1, 2, 3, 4, 5] 4 (wr := []) (w1 := _) (ws' := fun _ => [_, _, _, _, _, _]) hc1 m_X5_76 dX5_readCompared_1 rfl rfl rfl rfl rfl rfl rfl (fun _ => rfl) (by decide) (by decide) (by decide) (by decide) (Nat.le_of_ble_eq_true rfl) (by omega) (by omega) (by omega) rfl (fun z1 hx1 => ?_)
      obtain ⟨i1, co1⟩ := z1
      dsimp only at hx1 ⊢
      refine q_if_ne 9 7 dX5_readCompared_4 (by decide) rfl (fun h4 => ?_) (fun h4 => absurd h4 h1)
      refine q_aload_n 0 10 dX5_readCompared_9 rfl rfl rfl ?_
      refine q_getR 0 13 f_X5_15 dX5_readCompared_10 rfl rfl rfl rfl ?_
      refine q_cVi 2 [2, 3, 4, 5] [0, 1] [0, 1, 2, 3, 4, 5] 16 (wr := [_, _]) (w1 := _) (ws' := [_, _, _, _, _, _]) (c_X7_thing hR a3) m_X5_23 dX5_readCompared_13 rfl rfl rfl rfl rfl rfl rfl rfl (by decide) (by decide) (by decide) (by decide) (Nat.le_of_ble_eq_true rfl) (by omega) (by omega) (by omega) rfl ?_
      refine q_istore_n 1 17 (L' := [_, _]) dX5_readCompared_16 rfl (by decide) rfl rfl ?_
      refine q_iload_n 1 18 dX5_readCompared_17 rfl rfl rfl ?_
      refine q_sipush 160 21 dX5_readCompared_18 sc_160 rfl ?_
      refine q_icmp_eq 33 24 dX5_readCompared_21 (by decide) rfl (fun hs1 => ?_) (fun hs1 => ?_)
      · exact K33 _ _ (hx1 h1).1 (hx1 h1).2
      · refine q_iload_n 1 25 dX5_readCompared_24 rfl rfl rfl ?_
        refine q_sipush 162 28 dX5_readCompared_25 sc_162 rfl ?_
        refine q_icmp_eq 33 31 dX5_readCompared_28 (by decide) rfl (fun h28 => ?_) (fun h28 => absurd (h2.resolve_left hs1) h28)
        exact K33 _ _ (hx1 h1).1 (hx1 h1).2
    · rw [if_neg h2]
      refine q_aload_n 0 1 dX5_readCompared_0 rfl rfl rfl ?_
      refine q_xVi 0 [0, 1, 2, 3, 4, 5] [] [0, 1, 2, 3, 4, 5] 4 (wr := []) (w1 := _) (ws' := fun _ => [_, _, _, _, _, _]) hc1 m_X5_76 dX5_readCompared_1 rfl rfl rfl rfl rfl rfl rfl (fun _ => rfl) (by decide) (by decide) (by decide) (by decide) (Nat.le_of_ble_eq_true rfl) (by omega) (by omega) (by omega) rfl (fun z1 hx1 => ?_)
      obtain ⟨i1, co1⟩ := z1
      dsimp only at hx1 ⊢
      refine q_if_ne 9 7 dX5_readCompared_4 (by decide) rfl (fun h4 => ?_) (fun h4 => absurd h4 h1)
      refine q_aload_n 0 10 dX5_readCompared_9 rfl rfl rfl ?_
      refine q_getR 0 13 f_X5_15 dX5_readCompared_10 rfl rfl rfl rfl ?_
      refine q_cVi 2 [2, 3, 4, 5] [0, 1] [0, 1, 2, 3, 4, 5] 16 (wr := [_, _]) (w1 := _) (ws' := [_, _, _, _, _, _]) (c_X7_thing hR a3) m_X5_23 dX5_readCompared_13 rfl rfl rfl rfl rfl rfl rfl rfl (by decide) (by decide) (by decide) (by decide) (Nat.le_of_ble_eq_true rfl) (by omega) (by omega) (by omega) rfl ?_
      refine q_istore_n 1 17 (L' := [_, _]) dX5_readCompared_16 rfl (by decide) rfl rfl ?_
      refine q_iload_n 1 18 dX5_readCompared_17 rfl rfl rfl ?_
      refine q_sipush 160 21 dX5_readCompared_18 sc_160 rfl ?_
      refine q_icmp_eq 33 24 dX5_readCompared_21 (by decide) rfl (fun h21 => absurd h21 (fun z => h2 (Or.inl z))) (fun h21 => ?_)
      refine q_iload_n 1 25 dX5_readCompared_24 rfl rfl rfl ?_
      refine q_sipush 162 28 dX5_readCompared_25 sc_162 rfl ?_
      refine q_icmp_eq 33 31 dX5_readCompared_28 (by decide) rfl (fun h28 => absurd h28 (fun z => h2 (Or.inr z))) (fun h28 => ?_)
      refine q_iconst 0 32 dX5_readCompared_31 ic_0 rfl ?_
      refine q_zreturn dX5_readCompared_32 rfl (Or.inl rfl) ?_
      exact pE.mk (_, _) (fun h => absurd rfl h) rfl rfl

