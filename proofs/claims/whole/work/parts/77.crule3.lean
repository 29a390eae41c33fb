/-! ===== RuleReader: heads, lines, the whole ===== -/
theorem CoR_at {Cc D : List Int32} {i co : Sc} {v w : Int32} (h : CoR (Cc ++ v :: D) i co) : CoR (Cc ++ w :: D) i (upd co Cc.length w) := by
  obtain ⟨h1, h2, h3⟩ := h
  have hl : (Cc ++ w :: D).length = (Cc ++ v :: D).length := by simp
  refine ⟨by rw [hl]; exact h1, by rw [hl]; exact h2, fun z hz => ?_⟩
  rw [hl] at hz
  by_cases hz2 : z = Cc.length
  · subst hz2
    rw [pk_us]
    simp [List.getD]
  · rw [pk_un hz2, h3 z hz]
    rcases Nat.lt_or_ge z Cc.length with h | h
    · simp [List.getD, List.getElem?_append_left h]
    · obtain ⟨y, rfl⟩ : ∃ y, z = Cc.length + (y + 1) := ⟨z - Cc.length - 1, by omega⟩
      simp [List.getD, List.getElem?_append_right]
abbrev hdO (L : List Tok) (e k : Nat) : Prop := isT L e k 9 ∧ isN L e (k + 1) 0 3
def hdK (L : List Tok) (e k : Nat) : Nat := if isT L e k 9 then (if isN L e (k + 1) 0 3 then k + 2 else k + 1) else k
theorem c_X5_readHead {l : Launch} {g : Gh} {r cd q t b n x e : Nat} {j th be nu : Sc} {L : List Tok} (hR : RepT L e j th be nu) {i co : Sc} {Cc : List Int32} {k : Nat} (hk : k ≤ L.length) (hC : CoR Cc i co) (hl : Cc.length ≤ k) :
    Ce l g yX5_readHead (Cond.code yX5_readHead cX5_readHead 2 (some .boolean)) 2 [.ref r] [(r, ob 5 i (rR cd q)), (cd, aI g 400 co), (q, ob 7 (upd j 6 (nI k)) (rS t b n x)), (t, aI g 401 th), (b, aI g 401 be), (n, aI g 401 nu)] (fun _ : Sc × Sc => some (.int (if hdO L e k then 1 else 0))) (fun z : Sc × Sc => [(r, ob 5 z.1 (rR cd q)), (cd, aI g 400 z.2), (q, ob 7 (upd j 6 (nI (hdK L e k))) (rS t b n x)), (t, aI g 401 th), (b, aI g 401 be), (n, aI g 401 nu)]) (fun z : Sc × Sc => (hdO L e k → CoR (Cc ++ [(tA L e (k + 1)).2.2, 0]) z.1 z.2 ∧ z.1 2 = nI (Cc.length + 1))) := by
  refine ct_of (M := mtX5_readHead) [some (.ref r), none] rfl (by decide) (Nat.le_of_ble_eq_true rfl) (fun _ h => h) (fun a => ?_)
  have hL4 := hR.2.1
  unfold hdK
  by_cases h1 : isT L e k 9
  · rw [if_pos h1]
    have hb : ¬ psB L e k 9 = 0 := by rw [show psB L e k 9 = 1 from if_pos h1]; decide
    have hkk : psK L e k 9 = k + 1 := if_pos h1
    by_cases h2 : isN L e (k + 1) 0 3
    · rw [if_pos h2, if_pos ⟨h1, h2⟩]
      obtain ⟨n1, n2⟩ := pn_yes h2
      have hne : ¬ pnV L e (k + 1) 0 3 = -1 := by
        obtain ⟨v, hv, ev⟩ := nat_to (n := 3) (Int32.not_lt.mp h2.2.1) h2.2.2 (by decide)
        rw [n1, ev]
        exact nI_nm1 (by omega)
      have hlen : Cc.length < 400 := by have := h2.1.1; omega
      have hC1 := CoR_push (v := pnV L e (k + 1) 0 3) hC hlen
      have hlen2 : (Cc ++ [pnV L e (k + 1) 0 3]).length = Cc.length + 1 := by simp
      have hlen3 : (Cc ++ [pnV L e (k + 1) 0 3]).length < 400 := by have := h2.1.1; omega
      have hC2 := CoR_push (v := 0) (CoR_2 (v := nI (Cc.length + 1)) hC1) hlen3
      rw [List.append_assoc, n1] at hC2
      rw [n1] at hC1 hlen2 hlen3
      rw [hlen2] at hC2
      have hne' := hne
      rw [n1] at hne'
      refine q_aload_n 0 1 dX5_readHead_0 rfl rfl rfl ?_
      refine q_getR 0 4 f_X5_15 dX5_readHead_1 rfl rfl rfl rfl ?_
      refine q_bipush 9 6 dX5_readHead_4 bc_9 rfl ?_
      refine q_cVi 2 [2, 3, 4, 5] [0, 1] [0, 1, 2, 3, 4, 5] 9 (wr := [_, _]) (w1 := _) (ws' := [_, _, _, _, _, _]) (c_X7_passes hR hk) m_X5_33 dX5_readHead_6 rfl rfl rfl rfl rfl rfl rfl rfl (by decide) (by decide) (by decide) (by decide) (Nat.le_of_ble_eq_true rfl) (by omega) (by omega) (by omega) rfl ?_
      refine q_if_ne 14 12 dX5_readHead_9 (by decide) rfl (fun h9 => ?_) (fun h9 => absurd h9 hb)
      rw [hkk]
      refine q_aload_n 0 15 dX5_readHead_14 rfl rfl rfl ?_
      refine q_getR 0 18 f_X5_15 dX5_readHead_15 rfl rfl rfl rfl ?_
      refine q_iconst 0 19 dX5_readHead_18 ic_0 rfl ?_
      refine q_iconst 3 20 dX5_readHead_19 ic_3 rfl ?_
      refine q_cVi 2 [2, 3, 4, 5] [0, 1] [0, 1, 2, 3, 4, 5] 23 (wr := [_, _]) (w1 := _) (ws' := [_, _, _, _, _, _]) (c_X7_passNumber hR h1.1) m_X5_52 dX5_readHead_20 rfl rfl rfl rfl rfl rfl rfl rfl (by decide) (by decide) (by decide) (by decide) (Nat.le_of_ble_eq_true rfl) (by omega) (by omega) (by omega) rfl ?_
      rw [n1, n2]
      refine q_istore_n 1 24 (L' := [_, _]) dX5_readHead_23 rfl (by decide) rfl rfl ?_
      refine q_iload_n 1 25 dX5_readHead_24 rfl rfl rfl ?_
      refine q_iconst (-1) 26 dX5_readHead_25 ic_m1 rfl ?_
      refine q_icmp_ne 31 29 dX5_readHead_26 (by decide) rfl (fun h26 => ?_) (fun h26 => absurd h26 hne')
      refine q_aload_n 0 32 dX5_readHead_31 rfl rfl rfl ?_
      refine q_iload_n 1 33 dX5_readHead_32 rfl rfl rfl ?_
      refine q_cVv 0 [0, 1] [2, 3, 4, 5] [4, 5, 0, 1, 2, 3] 36 (wr := [_, _, _, _]) (w1 := _) (ws' := [_, _, _, _, _, _]) (c_X5_write hC hlen) m_X5_56 dX5_readHead_33 rfl rfl rfl rfl rfl rfl rfl rfl (by decide) (by decide) (by decide) (by decide) (Nat.le_of_ble_eq_true rfl) (by omega) (by omega) (by omega) rfl ?_
      refine q_aload_n 0 37 dX5_readHead_36 rfl rfl rfl ?_
      refine q_aload_n 0 38 dX5_readHead_37 rfl rfl rfl ?_
      refine q_getI 0 41 f_X5_19 dX5_readHead_38 rfl rfl rfl ?_
      rw [show upd i 1 (nI (Cc.length + 1)) 1 = nI (Cc.length + 1) from rfl]
      refine q_putI 0 44 (w' := [_, _, _, _, _, _]) f_X5_43 ft_X5_2 dX5_readHead_41 rfl rfl rfl rfl ?_
      refine q_aload_n 0 45 dX5_readHead_44 rfl rfl rfl ?_
      refine q_iconst 0 46 dX5_readHead_45 ic_0 rfl ?_
      refine q_cVv 0 [0, 1] [2, 3, 4, 5] [4, 5, 0, 1, 2, 3] 49 (wr := [_, _, _, _]) (w1 := _) (ws' := [_, _, _, _, _, _]) (c_X5_write (CoR_2 (v := nI (Cc.length + 1)) hC1) hlen3) m_X5_56 dX5_readHead_46 rfl rfl rfl rfl rfl rfl rfl rfl (by decide) (by decide) (by decide) (by decide) (Nat.le_of_ble_eq_true rfl) (by omega) (by omega) (by omega) rfl ?_
      rw [hlen2]
      refine q_iconst 1 50 dX5_readHead_49 ic_1 rfl ?_
      refine q_zreturn dX5_readHead_50 rfl (Or.inr rfl) ?_
      exact pE.mk (_, _) (fun _ => ⟨hC2, rfl⟩) rfl rfl
    · rw [if_neg h2, if_neg (fun z => h2 z.2)]
      obtain ⟨n1, n2⟩ := pn_no h2
      refine q_aload_n 0 1 dX5_readHead_0 rfl rfl rfl ?_
      refine q_getR 0 4 f_X5_15 dX5_readHead_1 rfl rfl rfl rfl ?_
      refine q_bipush 9 6 dX5_readHead_4 bc_9 rfl ?_
      refine q_cVi 2 [2, 3, 4, 5] [0, 1] [0, 1, 2, 3, 4, 5] 9 (wr := [_, _]) (w1 := _) (ws' := [_, _, _, _, _, _]) (c_X7_passes hR hk) m_X5_33 dX5_readHead_6 rfl rfl rfl rfl rfl rfl rfl rfl (by decide) (by decide) (by decide) (by decide) (Nat.le_of_ble_eq_true rfl) (by omega) (by omega) (by omega) rfl ?_
      refine q_if_ne 14 12 dX5_readHead_9 (by decide) rfl (fun h9 => ?_) (fun h9 => absurd h9 hb)
      rw [hkk]
      refine q_aload_n 0 15 dX5_readHead_14 rfl rfl rfl ?_
      refine q_getR 0 18 f_X5_15 dX5_readHead_15 rfl rfl rfl rfl ?_
      refine q_iconst 0 19 dX5_readHead_18 ic_0 rfl ?_
      refine q_iconst 3 20 dX5_readHead_19 ic_3 rfl ?_
      refine q_cVi 2 [2, 3, 4, 5] [0, 1] [0, 1, 2, 3, 4, 5] 23 (wr := [_, _]) (w1 := _) (ws' := [_, _, _, _, _, _]) (c_X7_passNumber hR h1.1) m_X5_52 dX5_readHead_20 rfl rfl rfl rfl rfl rfl rfl rfl (by decide) (by decide) (by decide) (by decide) (Nat.le_of_ble_eq_true rfl) (by omega) (by omega) (by omega) rfl ?_
      rw [n2]
      refine q_istore_n 1 24 (L' := [_, _]) dX5_readHead_23 rfl (by decide) rfl rfl ?_
      refine q_iload_n 1 25 dX5_readHead_24 rfl rfl rfl ?_
      refine q_iconst (-1) 26 dX5_readHead_25 ic_m1 rfl ?_
      refine q_icmp_ne 31 29 dX5_readHead_26 (by decide) rfl (fun h26 => absurd n1 h26) (fun h26 => ?_)
      refine q_iconst 0 30 dX5_readHead_29 ic_0 rfl ?_
      refine q_zreturn dX5_readHead_30 rfl (Or.inl rfl) ?_
      exact pE.mk (_, _) (fun h => absurd h.2 h2) rfl rfl
  · rw [if_neg h1, if_neg (fun z => h1 z.1)]
    have hb : psB L e k 9 = 0 := if_neg h1
    have hkk : psK L e k 9 = k := if_neg h1
    refine q_aload_n 0 1 dX5_readHead_0 rfl rfl rfl ?_
    refine q_getR 0 4 f_X5_15 dX5_readHead_1 rfl rfl rfl rfl ?_
    refine q_bipush 9 6 dX5_readHead_4 bc_9 rfl ?_
    refine q_cVi 2 [2, 3, 4, 5] [0, 1] [0, 1, 2, 3, 4, 5] 9 (wr := [_, _]) (w1 := _) (ws' := [_, _, _, _, _, _]) (c_X7_passes hR hk) m_X5_33 dX5_readHead_6 rfl rfl rfl rfl rfl rfl rfl rfl (by decide) (by decide) (by decide) (by decide) (Nat.le_of_ble_eq_true rfl) (by omega) (by omega) (by omega) rfl ?_
    refine q_if_ne 14 12 dX5_readHead_9 (by decide) rfl (fun h9 => absurd hb h9) (fun h9 => ?_)
    rw [hkk]
    refine q_iconst 0 13 dX5_readHead_12 ic_0 rfl ?_
    refine q_zreturn dX5_readHead_13 rfl (Or.inl rfl) ?_
    exact pE.mk (_, _) (fun h => absurd h.1 h1) rfl rfl
/-- a condition, if there is one -/
def cdC (L : List Tok) (e k : Nat) : PR := if isT L e k 10 then anyC L e (atC L e 6) (k + 1) else (1, k, [])
theorem cdC_ok {L : List Tok} {e k : Nat} (hk : k ≤ L.length) : okP L k (cdC L e k) := by
  unfold cdC
  by_cases h : isT L e k 10
  · rw [if_pos h]
    obtain ⟨a1, a2, a3, a4⟩ := anyC_ok (e := e) (fun k hk => atC_ok (e := e) 6 k hk) (k + 1) h.1
    exact ⟨a1, by omega, a3, fun h => by have := a4 h; omega⟩
  · rw [if_neg h]
    exact ⟨Or.inr rfl, Nat.le_refl _, hk, fun _ => by show 0 + k ≤ k; omega⟩
/-- a line of a rule -/
def lnC (L : List Tok) (e k : Nat) : PR := if hdO L e k then (if (cdC L e (k + 2)).1 = 0 then (0, (cdC L e (k + 2)).2.1, []) else (1, (cdC L e (k + 2)).2.1, (tA L e (k + 1)).2.2 :: nI (cdC L e (k + 2)).2.2.length :: (cdC L e (k + 2)).2.2)) else (0, hdK L e k, [])
theorem lnC_ok {L : List Tok} {e k : Nat} (hk : k ≤ L.length) : okP L k (lnC L e k) := by
  unfold lnC
  by_cases h : hdO L e k
  · rw [if_pos h]
    obtain ⟨a1, a2, a3, a4⟩ := cdC_ok (e := e) (show k + 2 ≤ L.length from h.2.1.1)
    by_cases h2 : (cdC L e (k + 2)).1 = 0
    · rw [if_pos h2]
      exact ⟨Or.inl rfl, by dsimp only; omega, a3, fun h => absurd rfl h⟩
    · rw [if_neg h2]
      have a4 := a4 h2
      refine ⟨Or.inr rfl, by dsimp only; omega, a3, fun _ => ?_⟩
      dsimp only
      rw [List.length_cons, List.length_cons]
      omega
  · rw [if_neg h]
    refine ⟨Or.inl rfl, ?_, ?_, fun h => absurd rfl h⟩
    · show k ≤ hdK L e k
      unfold hdK
      repeat' split
      all_goals omega
    · show hdK L e k ≤ L.length
      unfold hdK
      by_cases h1 : isT L e k 9
      · rw [if_pos h1, if_neg (fun z => h ⟨h1, z⟩)]
        exact h1.1
      · rw [if_neg h1]; exact hk
def rdC (L : List Tok) (e : Nat) : Nat → Nat → PR
  | 0, k => (nI (tA L e k).2.1, k, [])
  | c + 1, k => if (lnC L e k).1 = 0 then (nI (tA L e (lnC L e k).2.1).2.1, (lnC L e k).2.1, []) else if (tA L e (lnC L e k).2.1).1 = 0 then (-1, (lnC L e k).2.1, (lnC L e k).2.2) else if isT L e (lnC L e k).2.1 159 then ((rdC L e c ((lnC L e k).2.1 + 1)).1, (rdC L e c ((lnC L e k).2.1 + 1)).2.1, (lnC L e k).2.2 ++ (rdC L e c ((lnC L e k).2.1 + 1)).2.2) else (nI (tA L e (lnC L e k).2.1).2.1, (lnC L e k).2.1, [])
def rdR (L : List Tok) (e : Nat) : PR := if (tA L e 0).1 = 0 then (-1, 0, []) else rdC L e 12 0
theorem c_X5_read {l : Launch} {g : Gh} {r cd q t b n x e : Nat} {j th be nu : Sc} {L : List Tok} {i co : Sc} {y : Option Nat} (hR : RepT L e j th be nu) (hbe : ∀ k, k ≤ L.length → (tA L e k).2.1 ≤ 400) :
    Ce l g yX5_read (Cond.code yX5_read cX5_read 3 (some .int)) 31 [.ref r, .ref q] [(r, ob 5 i [some cd, none, none, y]), (cd, aI g 400 co), (q, ob 7 (upd j 6 (nI 0)) (rS t b n x)), (t, aI g 401 th), (b, aI g 401 be), (n, aI g 401 nu)]
      (fun _ : Sc × Sc => some (.int (rdR L e).1)) (fun z : Sc × Sc => [(r, ob 5 z.1 (rR cd q)), (cd, aI g 400 z.2), (q, ob 7 (upd j 6 (nI (rdR L e).2.1)) (rS t b n x)), (t, aI g 401 th), (b, aI g 401 be), (n, aI g 401 nu)]) (fun z : Sc × Sc => ((rdR L e).1 = -1 → CoR (rdR L e).2.2 z.1 z.2)) := by
  refine ct_of (M := mtX5_read) [some (.ref r), some (.ref q), none] rfl (by decide) (Nat.le_of_ble_eq_true rfl) (fun _ h => h) (fun a => ?_)
  have hL4 := hR.2.1
  have K24 : ∀ (c m : Nat), c + m = 12 → ∀ (k : Nat) (i1 co1 : Sc) (C1 C0 : List Int32) (R R0 : PR), k ≤ L.length → CoR C1 i1 co1 → C1.length ≤ k → rdC L e c k = R → R0.1 = R.1 → R0.2.1 = R.2.1 → (R.1 = -1 → C0 ++ R0.2.2 = C1 ++ R.2.2) → WPs l g mtX5_read 31 0 0 (pE (fun _ : Sc × Sc => some (.int R0.1)) (fun z : Sc × Sc => [(r, ob 5 z.1 (rR cd q)), (cd, aI g 400 z.2), (q, ob 7 (upd j 6 (nI R0.2.1)) (rS t b n x)), (t, aI g 401 th), (b, aI g 401 be), (n, aI g 401 nu)]) (fun z : Sc × Sc => (R0.1 = -1 → CoR (C0 ++ R0.2.2) z.1 z.2))) noX a 24 [some (.ref r), some (.ref q), some (.int (nI m))] [] [(r, ob 5 i1 (rR cd q)), (cd, aI g 400 co1), (q, ob 7 (upd j 6 (nI k)) (rS t b n x)), (t, aI g 401 th), (b, aI g 401 be), (n, aI g 401 nu)] 0 0 := by
    intro c
    induction c with
    | zero =>
      intro m hm k i1 co1 C1 C0 R R0 hk hC hl hr e1 e2 e3
      obtain rfl : m = 12 := by omega
      subst hr
      rw [rdC] at e1 e2
      dsimp only at e1 e2
      rw [e1, e2]
      have hge : (12 : Int32) ≤ nI 12 := by decide
      have hb := hbe k hk
      refine q_iload_n 2 25 dX5_read_24 rfl rfl rfl ?_
      refine q_bipush 12 27 dX5_read_25 bc_12 rfl ?_
      refine q_icmp_ge 136 30 dX5_read_27 (by decide) rfl (fun h27 => ?_) (fun h27 => absurd hge h27)
      refine q_aload_n 0 137 dX5_read_136 rfl rfl rfl ?_
      refine q_getR 0 140 f_X5_15 dX5_read_137 rfl rfl rfl rfl ?_
      refine q_cVi 2 [2, 3, 4, 5] [0, 1] [0, 1, 2, 3, 4, 5] 143 (wr := [_, _]) (w1 := _) (ws' := [_, _, _, _, _, _]) (c_X7_place hR hk) m_X5_40 dX5_read_140 rfl rfl rfl rfl rfl rfl rfl rfl (by decide) (by decide) (by decide) (by decide) (Nat.le_of_ble_eq_true rfl) (by omega) (by omega) (by omega) rfl ?_
      refine q_ireturn dX5_read_143 rfl ?_
      exact pE.mk (_, _) (fun h => absurd h (nI_nm1 (by omega))) rfl rfl
    | succ c ih =>
      intro m hm k i1 co1 C1 C0 R R0 hk hC hl hr e1 e2 e3
      rw [rdC] at hr
      have hlt : ¬ (12 : Int32) ≤ nI m := nI_ge (b := 12) (by omega) (by decide)
      obtain ⟨l1, l2, l3, l4⟩ := lnC_ok (e := e) hk
      /- a line that is wrong -/
      have Kw : ∀ (k9 : Nat) (i2 co2 : Sc), k9 = (lnC L e k).2.1 → (lnC L e k).1 = 0 → WPs l g mtX5_read 31 0 0 (pE (fun _ : Sc × Sc => some (.int R0.1)) (fun z : Sc × Sc => [(r, ob 5 z.1 (rR cd q)), (cd, aI g 400 z.2), (q, ob 7 (upd j 6 (nI R0.2.1)) (rS t b n x)), (t, aI g 401 th), (b, aI g 401 be), (n, aI g 401 nu)]) (fun z : Sc × Sc => (R0.1 = -1 → CoR (C0 ++ R0.2.2) z.1 z.2))) noX a 57 [some (.ref r), some (.ref q), some (.int (nI m))] [] [(r, ob 5 i2 (rR cd q)), (cd, aI g 400 co2), (q, ob 7 (upd j 6 (nI k9)) (rS t b n x)), (t, aI g 401 th), (b, aI g 401 be), (n, aI g 401 nu)] 0 0 := by
        intro k9 i2 co2 hk9 h0
        rw [if_pos h0] at hr
        subst hr
        dsimp only at e1 e2
        rw [e1, e2]
        subst hk9
        have hb := hbe _ l3
        clear ih
        refine q_aload_n 0 58 dX5_read_57 rfl rfl rfl ?_
        refine q_getR 0 61 f_X5_15 dX5_read_58 rfl rfl rfl rfl ?_
        refine q_cVi 2 [2, 3, 4, 5] [0, 1] [0, 1, 2, 3, 4, 5] 64 (wr := [_, _]) (w1 := _) (ws' := [_, _, _, _, _, _]) (c_X7_place hR l3) m_X5_40 dX5_read_61 rfl rfl rfl rfl rfl rfl rfl rfl (by decide) (by decide) (by decide) (by decide) (Nat.le_of_ble_eq_true rfl) (by omega) (by omega) (by omega) rfl ?_
        refine q_ireturn dX5_read_64 rfl ?_
        exact pE.mk (_, _) (fun h => absurd h (nI_nm1 (by omega))) rfl rfl
      /- a line that is right: the code has its head and condition -/
      have K65 : ∀ (k9 : Nat) (i2 co2 : Sc) (seg : List Int32), k9 = (lnC L e k).2.1 → ¬ (lnC L e k).1 = 0 → (lnC L e k).2.2 = (tA L e (k + 1)).2.2 :: nI seg.length :: seg → CoR (C1 ++ [(tA L e (k + 1)).2.2] ++ 0 :: seg) i2 co2 → i2 2 = nI (C1.length + 1) → WPs l g mtX5_read 31 0 0 (pE (fun _ : Sc × Sc => some (.int R0.1)) (fun z : Sc × Sc => [(r, ob 5 z.1 (rR cd q)), (cd, aI g 400 z.2), (q, ob 7 (upd j 6 (nI R0.2.1)) (rS t b n x)), (t, aI g 401 th), (b, aI g 401 be), (n, aI g 401 nu)]) (fun z : Sc × Sc => (R0.1 = -1 → CoR (C0 ++ R0.2.2) z.1 z.2))) noX a 65 [some (.ref r), some (.ref q), some (.int (nI m))] [] [(r, ob 5 i2 (rR cd q)), (cd, aI g 400 co2), (q, ob 7 (upd j 6 (nI k9)) (rS t b n x)), (t, aI g 401 th), (b, aI g 401 be), (n, aI g 401 nu)] 0 0 := by
        intro k9 i2 co2 seg hk9 h0 hseg hC2 h22
        rw [if_neg h0] at hr
        have l4 := l4 h0
        rw [hseg, List.length_cons, List.length_cons] at l4
        have hlen1 : (C1 ++ [(tA L e (k + 1)).2.2]).length = C1.length + 1 := by simp
        have hC3 := CoR_at (w := nI seg.length) hC2
        rw [hlen1] at hC3
        have hC4 : CoR (C1 ++ (lnC L e k).2.2) i2 (upd co2 (C1.length + 1) (nI seg.length)) := by
          rw [hseg]
          have h9 := hC3
          rw [List.append_assoc] at h9
          exact h9
        have hsz : i2 1 = nI (C1.length + 2 + seg.length) := by
          rw [hC2.1]
          congr 1
          rw [List.length_append, hlen1, List.length_cons]
          omega
        have hsub : i2 1 - i2 2 - 1 = nI seg.length := by
          rw [hsz, h22, show C1.length + 2 + seg.length = C1.length + 1 + (seg.length + 1) by omega, pk_sub (by omega), show C1.length + 1 + (seg.length + 1) - (C1.length + 1) = seg.length + 1 by omega]
          exact nI_pred _
        have hhd : ¬ nI 400 ≤ i2 2 := by rw [h22]; exact nI_ge (by omega) (by decide)
        subst hk9
        clear hseg hC2 hC3
        have K97 : ∀ co3 : Sc, CoR (C1 ++ (lnC L e k).2.2) i2 co3 → WPs l g mtX5_read 31 0 0 (pE (fun _ : Sc × Sc => some (.int R0.1)) (fun z : Sc × Sc => [(r, ob 5 z.1 (rR cd q)), (cd, aI g 400 z.2), (q, ob 7 (upd j 6 (nI R0.2.1)) (rS t b n x)), (t, aI g 401 th), (b, aI g 401 be), (n, aI g 401 nu)]) (fun z : Sc × Sc => (R0.1 = -1 → CoR (C0 ++ R0.2.2) z.1 z.2))) noX a 97 [some (.ref r), some (.ref q), some (.int (nI m))] [] [(r, ob 5 i2 (rR cd q)), (cd, aI g 400 co3), (q, ob 7 (upd j 6 (nI (lnC L e k).2.1)) (rS t b n x)), (t, aI g 401 th), (b, aI g 401 be), (n, aI g 401 nu)] 0 0 := by
          intro co3 hC5
          by_cases h1 : (tA L e (lnC L e k).2.1).1 = 0
          · rw [if_pos h1] at hr
            subst hr
            dsimp only at e1 e2 e3
            rw [e1, e2, e3 rfl]
            clear ih
            refine q_aload_n 0 98 dX5_read_97 rfl rfl rfl ?_
            refine q_getR 0 101 f_X5_15 dX5_read_98 rfl rfl rfl rfl ?_
            refine q_cVi 2 [2, 3, 4, 5] [0, 1] [0, 1, 2, 3, 4, 5] 104 (wr := [_, _]) (w1 := _) (ws' := [_, _, _, _, _, _]) (c_X7_thing hR l3) m_X5_23 dX5_read_101 rfl rfl rfl rfl rfl rfl rfl rfl (by decide) (by decide) (by decide) (by decide) (Nat.le_of_ble_eq_true rfl) (by omega) (by omega) (by omega) rfl ?_
            refine q_if_ne 109 107 dX5_read_104 (by decide) rfl (fun h104 => absurd h1 h104) (fun h104 => ?_)
            refine q_iconst (-1) 108 dX5_read_107 ic_m1 rfl ?_
            refine q_ireturn dX5_read_108 rfl ?_
            exact pE.mk (_, _) (fun _ => hC5) rfl rfl
          · rw [if_neg h1] at hr
            by_cases h2 : isT L e (lnC L e k).2.1 159
            · rw [if_pos h2] at hr
              have hb : ¬ psB L e (lnC L e k).2.1 159 = 0 := by rw [show psB L e (lnC L e k).2.1 159 = 1 from if_pos h2]; decide
              have hkk : psK L e (lnC L e k).2.1 159 = (lnC L e k).2.1 + 1 := if_pos h2
              subst hr
              dsimp only at e1 e2 e3
              have K1 := ih (m + 1) (by omega) ((lnC L e k).2.1 + 1) i2 co3 (C1 ++ (lnC L e k).2.2) C0 _ R0 h2.1 hC5 (by rw [List.length_append]; have := (lnC_ok (e := e) hk).2.2.2 h0; omega) rfl e1 e2 (fun h => by rw [e3 h, List.append_assoc])
              clear ih e1 e2 e3
              generalize (lnC L e k).2.1 = k5 at *
              refine q_aload_n 0 98 dX5_read_97 rfl rfl rfl ?_
              refine q_getR 0 101 f_X5_15 dX5_read_98 rfl rfl rfl rfl ?_
              refine q_cVi 2 [2, 3, 4, 5] [0, 1] [0, 1, 2, 3, 4, 5] 104 (wr := [_, _]) (w1 := _) (ws' := [_, _, _, _, _, _]) (c_X7_thing hR l3) m_X5_23 dX5_read_101 rfl rfl rfl rfl rfl rfl rfl rfl (by decide) (by decide) (by decide) (by decide) (Nat.le_of_ble_eq_true rfl) (by omega) (by omega) (by omega) rfl ?_
              refine q_if_ne 109 107 dX5_read_104 (by decide) rfl (fun h104 => ?_) (fun h104 => absurd h104 h1)
              refine q_aload_n 0 110 dX5_read_109 rfl rfl rfl ?_
              refine q_getR 0 113 f_X5_15 dX5_read_110 rfl rfl rfl rfl ?_
              refine q_sipush 159 116 dX5_read_113 sc_159 rfl ?_
              refine q_cVi 2 [2, 3, 4, 5] [0, 1] [0, 1, 2, 3, 4, 5] 119 (wr := [_, _]) (w1 := _) (ws' := [_, _, _, _, _, _]) (c_X7_passes hR l3) m_X5_33 dX5_read_116 rfl rfl rfl rfl rfl rfl rfl rfl (by decide) (by decide) (by decide) (by decide) (Nat.le_of_ble_eq_true rfl) (by omega) (by omega) (by omega) rfl ?_
              refine q_if_ne 130 122 dX5_read_119 (by decide) rfl (fun h119 => ?_) (fun h119 => absurd h119 hb)
              rw [hkk]
              refine q_iinc 2 (nI (m + 1)) 133 (L' := [_, _, _]) dX5_read_130 rfl (inc1 (m)) (by decide) rfl rfl ?_
              refine q_goto 24 dX5_read_133 (by decide) ?_
              exact K1
            · rw [if_neg h2] at hr
              have hb : psB L e (lnC L e k).2.1 159 = 0 := if_neg h2
              have hkk : psK L e (lnC L e k).2.1 159 = (lnC L e k).2.1 := if_neg h2
              subst hr
              dsimp only at e1 e2 e3
              rw [e1, e2]
              have hb9 := hbe _ l3
              clear ih
              refine q_aload_n 0 98 dX5_read_97 rfl rfl rfl ?_
              refine q_getR 0 101 f_X5_15 dX5_read_98 rfl rfl rfl rfl ?_
              refine q_cVi 2 [2, 3, 4, 5] [0, 1] [0, 1, 2, 3, 4, 5] 104 (wr := [_, _]) (w1 := _) (ws' := [_, _, _, _, _, _]) (c_X7_thing hR l3) m_X5_23 dX5_read_101 rfl rfl rfl rfl rfl rfl rfl rfl (by decide) (by decide) (by decide) (by decide) (Nat.le_of_ble_eq_true rfl) (by omega) (by omega) (by omega) rfl ?_
              refine q_if_ne 109 107 dX5_read_104 (by decide) rfl (fun h104 => ?_) (fun h104 => absurd h104 h1)
              refine q_aload_n 0 110 dX5_read_109 rfl rfl rfl ?_
              refine q_getR 0 113 f_X5_15 dX5_read_110 rfl rfl rfl rfl ?_
              refine q_sipush 159 116 dX5_read_113 sc_159 rfl ?_
              refine q_cVi 2 [2, 3, 4, 5] [0, 1] [0, 1, 2, 3, 4, 5] 119 (wr := [_, _]) (w1 := _) (ws' := [_, _, _, _, _, _]) (c_X7_passes hR l3) m_X5_33 dX5_read_116 rfl rfl rfl rfl rfl rfl rfl rfl (by decide) (by decide) (by decide) (by decide) (Nat.le_of_ble_eq_true rfl) (by omega) (by omega) (by omega) rfl ?_
              refine q_if_ne 130 122 dX5_read_119 (by decide) rfl (fun h119 => absurd hb h119) (fun h119 => ?_)
              rw [hkk]
              refine q_aload_n 0 123 dX5_read_122 rfl rfl rfl ?_
              refine q_getR 0 126 f_X5_15 dX5_read_123 rfl rfl rfl rfl ?_
              refine q_cVi 2 [2, 3, 4, 5] [0, 1] [0, 1, 2, 3, 4, 5] 129 (wr := [_, _]) (w1 := _) (ws' := [_, _, _, _, _, _]) (c_X7_place hR l3) m_X5_40 dX5_read_126 rfl rfl rfl rfl rfl rfl rfl rfl (by decide) (by decide) (by decide) (by decide) (Nat.le_of_ble_eq_true rfl) (by omega) (by omega) (by omega) rfl ?_
              refine q_ireturn dX5_read_129 rfl ?_
              exact pE.mk (_, _) (fun h => absurd h (nI_nm1 (by omega))) rfl rfl
        have K1 := K97 _ hC4
        clear K97 ih hr
        generalize hc1 : C1.length + 1 = c1 at *
        refine q_aload_n 0 66 dX5_read_65 rfl rfl rfl ?_
        refine q_getI 0 69 f_X5_43 dX5_read_66 rfl rfl rfl ?_
        refine q_aload_n 0 70 dX5_read_69 rfl rfl rfl ?_
        refine q_getR 0 73 f_X5_9 dX5_read_70 rfl rfl rfl rfl ?_
        refine q_alenI 1 _ 74 dX5_read_73 rfl rfl rfl ?_
        refine q_icmp_ge 97 77 dX5_read_74 (by decide) rfl (fun h74 => absurd h74 hhd) (fun h74 => ?_)
        refine q_aload_n 0 78 dX5_read_77 rfl rfl rfl ?_
        refine q_getR 0 81 f_X5_9 dX5_read_78 rfl rfl rfl rfl ?_
        refine q_aload_n 0 82 dX5_read_81 rfl rfl rfl ?_
        refine q_getI 0 85 f_X5_43 dX5_read_82 rfl rfl rfl ?_
        refine q_aload_n 0 86 dX5_read_85 rfl rfl rfl ?_
        refine q_getI 0 89 f_X5_19 dX5_read_86 rfl rfl rfl ?_
        refine q_aload_n 0 90 dX5_read_89 rfl rfl rfl ?_
        refine q_getI 0 93 f_X5_43 dX5_read_90 rfl rfl rfl ?_
        refine q_isub 94 dX5_read_93 rfl ?_
        refine q_iconst 1 95 dX5_read_94 ic_1 rfl ?_
        refine q_isub 96 dX5_read_95 rfl ?_
        rw [hsub]
        refine q_iast 1 c1 97 (w' := [_, _, _, _, _, _]) dX5_read_96 rfl ⟨h22, by omega, by decide⟩ rfl rfl ?_
        exact K1
      clear ih hr e1 e2 e3
      by_cases h1 : hdO L e k
      · have hkd : hdK L e k = k + 2 := by unfold hdK; rw [if_pos h1.1, if_pos h1.2]
        have h3k : k + 2 ≤ L.length := h1.2.1.1
        have hcn : (cdC L e (k + 2)).1 = 0 → (lnC L e k).1 = 0 ∧ (lnC L e k).2.1 = (cdC L e (k + 2)).2.1 := fun h => by unfold lnC; rw [if_pos h1, if_pos h]; exact ⟨rfl, rfl⟩
        have hcy : ¬ (cdC L e (k + 2)).1 = 0 → ¬ (lnC L e k).1 = 0 ∧ (lnC L e k).2.1 = (cdC L e (k + 2)).2.1 ∧ (lnC L e k).2.2 = (tA L e (k + 1)).2.2 :: nI (cdC L e (k + 2)).2.2.length :: (cdC L e (k + 2)).2.2 := fun h => by unfold lnC; rw [if_pos h1, if_neg h]; exact ⟨one_ne0, rfl, rfl⟩
        by_cases h2 : isT L e (k + 2) 10
        · have hb : ¬ psB L e (k + 2) 10 = 0 := by rw [show psB L e (k + 2) 10 = 1 from if_pos h2]; decide
          have hkk : psK L e (k + 2) 10 = k + 3 := if_pos h2
          have hcd : cdC L e (k + 2) = anyC L e (atC L e 6) (k + 3) := if_pos h2
          rw [hcd] at hcn hcy
          have hcA := fun (i2 co2 : Sc) (hC2 : CoR (C1 ++ [(tA L e (k + 1)).2.2, 0]) i2 co2) => c_X5_any (l := l) (g := g) (r := r) (cd := cd) (q := q) (t := t) (b := b) (n := n) (x := x) hR (k + 3) i2 co2 _ h2.1 hC2 (by rw [List.length_append]; show _ + 2 ≤ _; omega)
          have hK65 := fun (i3 co3 : Sc) (h : ¬ (anyC L e (atC L e 6) (k + 3)).1 = 0) (hc : CoR (C1 ++ [(tA L e (k + 1)).2.2, 0] ++ (anyC L e (atC L e 6) (k + 3)).2.2) i3 co3) (h22 : i3 2 = nI (C1.length + 1)) => K65 _ i3 co3 _ (hcy h).2.1.symm (hcy h).1 (hcy h).2.2 (by have h9 := hc; rw [List.append_assoc] at h9; rw [List.append_assoc]; exact h9) h22
          have hKw := fun (i3 co3 : Sc) (h : (anyC L e (atC L e 6) (k + 3)).1 = 0) => Kw _ i3 co3 (hcn h).2.symm (hcn h).1
          clear K65 Kw hcn hcy hcd
          generalize anyC L e (atC L e 6) (k + 3) = f1 at *
          by_cases h0 : f1.1 = 0
          · skip
            refine q_iload_n 2 25 dX5_read_24 rfl rfl rfl ?_
            refine q_bipush 12 27 dX5_read_25 bc_12 rfl ?_
            refine q_icmp_ge 136 30 dX5_read_27 (by decide) rfl (fun h27 => absurd h27 hlt) (fun h27 => ?_)
            refine q_aload_n 0 31 dX5_read_30 rfl rfl rfl ?_
            refine q_xVi 0 [0, 1, 2, 3, 4, 5] [] [0, 1, 2, 3, 4, 5] 34 (wr := []) (w1 := _) (ws' := fun _ => [_, _, _, _, _, _]) (c_X5_readHead hR hk hC hl) m_X5_29 dX5_read_31 rfl rfl rfl rfl rfl rfl rfl (fun _ => rfl) (by decide) (by decide) (by decide) (by decide) (Nat.le_of_ble_eq_true rfl) (by omega) (by omega) (by omega) rfl (fun z31 hz31 => ?_)
            obtain ⟨i31, co31⟩ := z31
            dsimp only at hz31 ⊢
            rw [if_pos h1, hkd]
            refine q_if_eq 57 37 dX5_read_34 (by decide) rfl (fun h34 => absurd h34 (by decide)) (fun h34 => ?_)
            refine q_aload_n 0 38 dX5_read_37 rfl rfl rfl ?_
            refine q_getR 0 41 f_X5_15 dX5_read_38 rfl rfl rfl rfl ?_
            refine q_bipush 10 43 dX5_read_41 bc_10 rfl ?_
            refine q_cVi 2 [2, 3, 4, 5] [0, 1] [0, 1, 2, 3, 4, 5] 46 (wr := [_, _]) (w1 := _) (ws' := [_, _, _, _, _, _]) (c_X7_passes hR h3k) m_X5_33 dX5_read_43 rfl rfl rfl rfl rfl rfl rfl rfl (by decide) (by decide) (by decide) (by decide) (Nat.le_of_ble_eq_true rfl) (by omega) (by omega) (by omega) rfl ?_
            refine q_if_eq 65 49 dX5_read_46 (by decide) rfl (fun h46 => absurd h46 hb) (fun h46 => ?_)
            rw [hkk]
            refine q_aload_n 0 50 dX5_read_49 rfl rfl rfl ?_
            refine q_iconst 0 51 dX5_read_50 ic_0 rfl ?_
            refine q_xVi 0 [0, 1, 2, 3, 4, 5] [] [0, 1, 2, 3, 4, 5] 54 (wr := []) (w1 := _) (ws' := fun _ => [_, _, _, _, _, _]) (hcA i31 co31 (hz31 h1).1) m_X5_37 dX5_read_51 rfl rfl rfl rfl rfl rfl rfl (fun _ => rfl) (by decide) (by decide) (by decide) (by decide) (Nat.le_of_ble_eq_true rfl) (by omega) (by omega) (by omega) rfl (fun z1 hz1 => ?_)
            obtain ⟨i2, co2⟩ := z1
            dsimp only at hz1 ⊢
            refine q_if_ne 65 57 dX5_read_54 (by decide) rfl (fun h54 => absurd h0 h54) (fun h54 => ?_)
            exact hKw _ _ h0
          · skip
            refine q_iload_n 2 25 dX5_read_24 rfl rfl rfl ?_
            refine q_bipush 12 27 dX5_read_25 bc_12 rfl ?_
            refine q_icmp_ge 136 30 dX5_read_27 (by decide) rfl (fun h27 => absurd h27 hlt) (fun h27 => ?_)
            refine q_aload_n 0 31 dX5_read_30 rfl rfl rfl ?_
            refine q_xVi 0 [0, 1, 2, 3, 4, 5] [] [0, 1, 2, 3, 4, 5] 34 (wr := []) (w1 := _) (ws' := fun _ => [_, _, _, _, _, _]) (c_X5_readHead hR hk hC hl) m_X5_29 dX5_read_31 rfl rfl rfl rfl rfl rfl rfl (fun _ => rfl) (by decide) (by decide) (by decide) (by decide) (Nat.le_of_ble_eq_true rfl) (by omega) (by omega) (by omega) rfl (fun z31 hz31 => ?_)
            obtain ⟨i31, co31⟩ := z31
            dsimp only at hz31 ⊢
            rw [if_pos h1, hkd]
            refine q_if_eq 57 37 dX5_read_34 (by decide) rfl (fun h34 => absurd h34 (by decide)) (fun h34 => ?_)
            refine q_aload_n 0 38 dX5_read_37 rfl rfl rfl ?_
            refine q_getR 0 41 f_X5_15 dX5_read_38 rfl rfl rfl rfl ?_
            refine q_bipush 10 43 dX5_read_41 bc_10 rfl ?_
            refine q_cVi 2 [2, 3, 4, 5] [0, 1] [0, 1, 2, 3, 4, 5] 46 (wr := [_, _]) (w1 := _) (ws' := [_, _, _, _, _, _]) (c_X7_passes hR h3k) m_X5_33 dX5_read_43 rfl rfl rfl rfl rfl rfl rfl rfl (by decide) (by decide) (by decide) (by decide) (Nat.le_of_ble_eq_true rfl) (by omega) (by omega) (by omega) rfl ?_
            refine q_if_eq 65 49 dX5_read_46 (by decide) rfl (fun h46 => absurd h46 hb) (fun h46 => ?_)
            rw [hkk]
            refine q_aload_n 0 50 dX5_read_49 rfl rfl rfl ?_
            refine q_iconst 0 51 dX5_read_50 ic_0 rfl ?_
            refine q_xVi 0 [0, 1, 2, 3, 4, 5] [] [0, 1, 2, 3, 4, 5] 54 (wr := []) (w1 := _) (ws' := fun _ => [_, _, _, _, _, _]) (hcA i31 co31 (hz31 h1).1) m_X5_37 dX5_read_51 rfl rfl rfl rfl rfl rfl rfl (fun _ => rfl) (by decide) (by decide) (by decide) (by decide) (Nat.le_of_ble_eq_true rfl) (by omega) (by omega) (by omega) rfl (fun z1 hz1 => ?_)
            obtain ⟨i2, co2⟩ := z1
            dsimp only at hz1 ⊢
            refine q_if_ne 65 57 dX5_read_54 (by decide) rfl (fun h54 => ?_) (fun h54 => absurd h54 h0)
            exact hK65 _ _ h0 (hz1 h0).1 ((hz1 h0).2.trans (hz31 h1).2)
        · have hb : psB L e (k + 2) 10 = 0 := if_neg h2
          have hkk : psK L e (k + 2) 10 = k + 2 := if_neg h2
          have hcd : cdC L e (k + 2) = (1, k + 2, []) := if_neg h2
          rw [hcd] at hcy
          have hy := hcy one_ne0
          have hK65 := fun (i3 co3 : Sc) (hc : CoR (C1 ++ [(tA L e (k + 1)).2.2, 0]) i3 co3) (h22 : i3 2 = nI (C1.length + 1)) => K65 _ i3 co3 _ hy.2.1.symm hy.1 hy.2.2 (by rw [List.append_assoc]; exact hc) h22
          clear K65 Kw hcn hcy hcd hy
          refine q_iload_n 2 25 dX5_read_24 rfl rfl rfl ?_
          refine q_bipush 12 27 dX5_read_25 bc_12 rfl ?_
          refine q_icmp_ge 136 30 dX5_read_27 (by decide) rfl (fun h27 => absurd h27 hlt) (fun h27 => ?_)
          refine q_aload_n 0 31 dX5_read_30 rfl rfl rfl ?_
          refine q_xVi 0 [0, 1, 2, 3, 4, 5] [] [0, 1, 2, 3, 4, 5] 34 (wr := []) (w1 := _) (ws' := fun _ => [_, _, _, _, _, _]) (c_X5_readHead hR hk hC hl) m_X5_29 dX5_read_31 rfl rfl rfl rfl rfl rfl rfl (fun _ => rfl) (by decide) (by decide) (by decide) (by decide) (Nat.le_of_ble_eq_true rfl) (by omega) (by omega) (by omega) rfl (fun z31 hz31 => ?_)
          obtain ⟨i31, co31⟩ := z31
          dsimp only at hz31 ⊢
          rw [if_pos h1, hkd]
          refine q_if_eq 57 37 dX5_read_34 (by decide) rfl (fun h34 => absurd h34 (by decide)) (fun h34 => ?_)
          refine q_aload_n 0 38 dX5_read_37 rfl rfl rfl ?_
          refine q_getR 0 41 f_X5_15 dX5_read_38 rfl rfl rfl rfl ?_
          refine q_bipush 10 43 dX5_read_41 bc_10 rfl ?_
          refine q_cVi 2 [2, 3, 4, 5] [0, 1] [0, 1, 2, 3, 4, 5] 46 (wr := [_, _]) (w1 := _) (ws' := [_, _, _, _, _, _]) (c_X7_passes hR h3k) m_X5_33 dX5_read_43 rfl rfl rfl rfl rfl rfl rfl rfl (by decide) (by decide) (by decide) (by decide) (Nat.le_of_ble_eq_true rfl) (by omega) (by omega) (by omega) rfl ?_
          refine q_if_eq 65 49 dX5_read_46 (by decide) rfl (fun h46 => ?_) (fun h46 => absurd hb h46)
          rw [hkk]
          exact hK65 _ _ (hz31 h1).1 (hz31 h1).2
      · have hln : (lnC L e k).1 = 0 ∧ (lnC L e k).2.1 = hdK L e k := by unfold lnC; rw [if_neg h1]; exact ⟨rfl, rfl⟩
        have hKw := fun (i3 co3 : Sc) => Kw _ i3 co3 hln.2.symm hln.1
        clear K65 Kw
        refine q_iload_n 2 25 dX5_read_24 rfl rfl rfl ?_
        refine q_bipush 12 27 dX5_read_25 bc_12 rfl ?_
        refine q_icmp_ge 136 30 dX5_read_27 (by decide) rfl (fun h27 => absurd h27 hlt) (fun h27 => ?_)
        refine q_aload_n 0 31 dX5_read_30 rfl rfl rfl ?_
        refine q_xVi 0 [0, 1, 2, 3, 4, 5] [] [0, 1, 2, 3, 4, 5] 34 (wr := []) (w1 := _) (ws' := fun _ => [_, _, _, _, _, _]) (c_X5_readHead hR hk hC hl) m_X5_29 dX5_read_31 rfl rfl rfl rfl rfl rfl rfl (fun _ => rfl) (by decide) (by decide) (by decide) (by decide) (Nat.le_of_ble_eq_true rfl) (by omega) (by omega) (by omega) rfl (fun z31 hx31 => ?_)
        obtain ⟨i31, co31⟩ := z31
        dsimp only at hx31 ⊢
        rw [if_neg h1]
        refine q_if_eq 57 37 dX5_read_34 (by decide) rfl (fun h34 => ?_) (fun h34 => absurd rfl h34)
        exact hKw _ _
  unfold rdR
  by_cases h0 : (tA L e 0).1 = 0
  · rw [if_pos h0]
    clear K24
    refine q_aload_n 0 1 dX5_read_0 rfl rfl rfl ?_
    refine q_aload_n 1 2 dX5_read_1 rfl rfl rfl ?_
    refine q_putR 0 5 (w' := [_, _, _, _, _, _]) (r' := [_, _, _, _]) f_X5_15 ft_X5_3 dX5_read_2 rfl rfl (Nat.le_of_ble_eq_true rfl) rfl rfl rfl rfl rfl ?_
    refine q_aload_n 0 6 dX5_read_5 rfl rfl rfl ?_
    refine q_iconst 0 7 dX5_read_6 ic_0 rfl ?_
    refine q_putI 0 10 (w' := [_, _, _, _, _, _]) f_X5_19 ft_X5_1 dX5_read_7 rfl rfl rfl rfl ?_
    refine q_aload_n 0 11 dX5_read_10 rfl rfl rfl ?_
    refine q_getR 0 14 f_X5_15 dX5_read_11 rfl rfl rfl rfl ?_
    refine q_cVi 2 [2, 3, 4, 5] [0, 1] [0, 1, 2, 3, 4, 5] 17 (wr := [_, _]) (w1 := _) (ws' := [_, _, _, _, _, _]) (c_X7_thing hR (Nat.zero_le _)) m_X5_23 dX5_read_14 rfl rfl rfl rfl rfl rfl rfl rfl (by decide) (by decide) (by decide) (by decide) (Nat.le_of_ble_eq_true rfl) (by omega) (by omega) (by omega) rfl ?_
    refine q_if_ne 22 20 dX5_read_17 (by decide) rfl (fun h17 => absurd h0 h17) (fun h17 => ?_)
    refine q_iconst (-1) 21 dX5_read_20 ic_m1 rfl ?_
    refine q_ireturn dX5_read_21 rfl ?_
    exact pE.mk (_, _) (fun _ => ⟨rfl, Nat.zero_le _, fun z hz => absurd hz (Nat.not_lt_zero _)⟩) rfl rfl
  · rw [if_neg h0]
    have K1 := K24 12 0 rfl 0 (upd i 1 0) co [] [] _ (rdC L e 12 0) (Nat.zero_le _) ⟨rfl, Nat.zero_le _, fun z hz => absurd hz (Nat.not_lt_zero _)⟩ (Nat.le_refl _) rfl rfl rfl (fun _ => rfl)
    rw [List.nil_append] at K1
    clear K24
    generalize rdC L e 12 0 = R9 at *
    refine q_aload_n 0 1 dX5_read_0 rfl rfl rfl ?_
    refine q_aload_n 1 2 dX5_read_1 rfl rfl rfl ?_
    refine q_putR 0 5 (w' := [_, _, _, _, _, _]) (r' := [_, _, _, _]) f_X5_15 ft_X5_3 dX5_read_2 rfl rfl (Nat.le_of_ble_eq_true rfl) rfl rfl rfl rfl rfl ?_
    refine q_aload_n 0 6 dX5_read_5 rfl rfl rfl ?_
    refine q_iconst 0 7 dX5_read_6 ic_0 rfl ?_
    refine q_putI 0 10 (w' := [_, _, _, _, _, _]) f_X5_19 ft_X5_1 dX5_read_7 rfl rfl rfl rfl ?_
    refine q_aload_n 0 11 dX5_read_10 rfl rfl rfl ?_
    refine q_getR 0 14 f_X5_15 dX5_read_11 rfl rfl rfl rfl ?_
    refine q_cVi 2 [2, 3, 4, 5] [0, 1] [0, 1, 2, 3, 4, 5] 17 (wr := [_, _]) (w1 := _) (ws' := [_, _, _, _, _, _]) (c_X7_thing hR (Nat.zero_le _)) m_X5_23 dX5_read_14 rfl rfl rfl rfl rfl rfl rfl rfl (by decide) (by decide) (by decide) (by decide) (Nat.le_of_ble_eq_true rfl) (by omega) (by omega) (by omega) rfl ?_
    refine q_if_ne 22 20 dX5_read_17 (by decide) rfl (fun h17 => ?_) (fun h17 => absurd h17 h0)
    refine q_iconst 0 23 dX5_read_22 ic_0 rfl ?_
    refine q_istore_n 2 24 (L' := [_, _, _]) dX5_read_23 rfl (by decide) rfl rfl ?_
    exact K1
theorem c_X5_written {l : Launch} {g : Gh} {r cd q : Nat} {i co : Sc} {Cc : List Int32} (hC : CoR Cc i co) (hl : Cc.length < 400) : Cn l g yX5_written (Cond.code yX5_written cX5_written 1 (some (.array .int))) 3 1 Cc.length [.ref r] [(r, ob 5 i (rR cd q)), (cd, aI g 400 co)] (fun a : Nat => some (.ref a)) (fun a : Nat => [(r, ob 5 i (rR cd q)), (cd, aI g 400 co), (a, aI g Cc.length (ext co 400 Cc.length))]) (fun _ k m => k = 1 ∧ m = Cc.length) := by
  refine ct_of (M := mtX5_written) [some (.ref r)] rfl (by decide) (Nat.le_of_ble_eq_true rfl) (fun _ h => h) (fun a => ?_)
  have e1 := hC.1
  generalize hs : Cc.length = s at *
  refine q_aload_n 0 1 dX5_written_0 rfl rfl rfl ?_
  refine q_getR 0 4 f_X5_9 dX5_written_1 rfl rfl rfl rfl ?_
  refine q_aload_n 0 5 dX5_written_4 rfl rfl rfl ?_
  refine q_getI 0 8 f_X5_19 dX5_written_5 rfl rfl rfl ?_
  rw [e1]
  refine q_ySr [1] [0] [0, 1, 2] 11 (wr := [_]) (w1 := _) (ws' := fun _ => [_, _, _]) (c_copyI (n := 400) (N := s) (by decide) (by omega) (by omega)) m_X5_46 dX5_written_8 rfl rfl rfl rfl (fun _ => rfl) (by decide) (by decide) (by decide) (by decide) (Nat.le_of_ble_eq_true rfl) (by omega) (by omega) (by omega) rfl (fun q98 k8 n8 hx8 => ?_)
  refine q_areturn dX5_written_11 rfl (Or.inr ⟨_, rfl⟩) ?_
  exact pX.mk q98 (by obtain ⟨h1, h2⟩ := hx8; exact ⟨by omega, by omega⟩) rfl rfl
theorem c_X5_init {l : Launch} {g : Gh} {r : Nat} : Cn l g yX5_init (Cond.code yX5_init cX5_init 1 none) 1 1 400 [.ref r] [(r, ob 5 (fun _ => 0) (List.replicate 4 none))] (fun _ : Nat => none) (fun z : Nat => [(r, ob 5 (fun _ => 0) [some z, none, none, none]), (z, aI g 400 (fun _ => 0))]) (fun _ k m => k = 1 ∧ m = 400) := by
  refine ct_of (M := mtX5_init) [some (.ref r)] rfl (by decide) (Nat.le_of_ble_eq_true rfl) (fun _ h => h) (fun a => ?_)
  refine q_aload_n 0 1 dX5_init_0 rfl rfl rfl ?_
  refine q_objInit 4 m_X5_3 dX5_init_1 (Nat.le_of_ble_eq_true rfl) (by decide) rfl ?_
  refine q_aload_n 0 5 dX5_init_4 rfl rfl rfl ?_
  refine q_sipush 400 8 dX5_init_5 sc_400 rfl ?_
  refine q_newI (N := 400) 10 dX5_init_8 rfl (by decide) (by omega) (by omega) rfl (fun q8 => ?_)
  refine q_putRF 0 13 (w' := [_, _]) (r' := [_, _, _, _]) f_X5_9 ft_X5_0 rfl rfl dX5_init_10 rfl rfl (Nat.le_of_ble_eq_true rfl) rfl rfl rfl rfl rfl ?_
  refine q_return dX5_init_13 rfl ?_
  exact pX.mk _ ⟨rfl, rfl⟩ rfl rfl

