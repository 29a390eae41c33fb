/-! ===== games, begin, score ===== -/
def gaT (a b : Int32) : Int32 := if rIn a 0 6 = 0 ∨ rIn b 0 6 = 0 then 1 else 0
def gaM (m : Nat → Int32) (a b : Int32) : Nat → Int32 := if gaT a b = 0 then upd (upd m 208 a) 209 b else m
theorem p_games {l : Launch} {g : Gh} {q : Nat} {A : Nat → Nat} {i m : Nat → Int32} {a1 a2 : Int32} : Cp l g yX12_games (Cond.code yX12_games cX12_games 3 none) 3 [.ref q, .int a1, .int a2] [(q, ob 12 (i) (rM A)), (A 1, aI g 2616 (m))] none [(q, ob 12 (upd i 0 (gaT a1 a2)) (rM A)), (A 1, aI g 2616 (gaM m a1 a2))] := by
  refine ct_of (M := mtX12_games) [some (.ref q), some (.int a1), some (.int a2)] rfl (by decide) (Nat.le_of_ble_eq_true rfl) (fun _ h => h) (fun a => ?_)
  unfold gaM
  by_cases ha : rIn a1 0 6 = 0
  · rw [show gaT a1 a2 = 1 from if_pos (Or.inl ha), if_neg one_ne0]
    refine q_aload_n 0 1 dX12_games_0 rfl rfl rfl ?_
    refine q_iload_n 1 2 dX12_games_1 rfl rfl rfl ?_
    refine q_iconst 0 3 dX12_games_2 ic_0 rfl ?_
    refine q_bipush 6 5 dX12_games_3 bc_6 rfl ?_
    refine q_cSi [] [0, 1] [0, 1] 8 (wr := [_, _]) (w1 := _) (ws' := [_, _]) c_isIn m_X12_70 dX12_games_5 rfl rfl rfl rfl rfl (by decide) (by decide) (by decide) (by decide) (Nat.le_of_ble_eq_true rfl) (by omega) (by omega) (by omega) rfl ?_
    refine q_if_eq 21 11 dX12_games_8 (by decide) rfl (fun h8 => ?_) (fun h8 => absurd ha h8)
    refine q_iconst 1 22 dX12_games_21 ic_1 rfl ?_
    refine q_goto 26 dX12_games_22 (by decide) ?_
    refine q_putI 0 29 (w' := [_, _]) f_X12_67 ft_X12_0 dX12_games_26 rfl rfl rfl rfl ?_
    refine q_aload_n 0 30 dX12_games_29 rfl rfl rfl ?_
    refine q_getI 0 33 f_X12_67 dX12_games_30 rfl rfl rfl ?_
    refine q_if_le 37 36 dX12_games_33 (by decide) rfl (fun h33 => absurd h33 (by show ¬ (1 : Int32) ≤ 0; decide)) (fun h33 => ?_)
    refine q_return dX12_games_36 rfl ?_
    exact pR.rf
  · by_cases hb : rIn a2 0 6 = 0
    · rw [show gaT a1 a2 = 1 from if_pos (Or.inr hb), if_neg one_ne0]
      refine q_aload_n 0 1 dX12_games_0 rfl rfl rfl ?_
      refine q_iload_n 1 2 dX12_games_1 rfl rfl rfl ?_
      refine q_iconst 0 3 dX12_games_2 ic_0 rfl ?_
      refine q_bipush 6 5 dX12_games_3 bc_6 rfl ?_
      refine q_cSi [] [0, 1] [0, 1] 8 (wr := [_, _]) (w1 := _) (ws' := [_, _]) c_isIn m_X12_70 dX12_games_5 rfl rfl rfl rfl rfl (by decide) (by decide) (by decide) (by decide) (Nat.le_of_ble_eq_true rfl) (by omega) (by omega) (by omega) rfl ?_
      refine q_if_eq 21 11 dX12_games_8 (by decide) rfl (fun h8 => absurd h8 ha) (fun h8 => ?_)
      refine q_iload_n 2 12 dX12_games_11 rfl rfl rfl ?_
      refine q_iconst 0 13 dX12_games_12 ic_0 rfl ?_
      refine q_bipush 6 15 dX12_games_13 bc_6 rfl ?_
      refine q_cSi [] [0, 1] [0, 1] 18 (wr := [_, _]) (w1 := _) (ws' := [_, _]) c_isIn m_X12_70 dX12_games_15 rfl rfl rfl rfl rfl (by decide) (by decide) (by decide) (by decide) (Nat.le_of_ble_eq_true rfl) (by omega) (by omega) (by omega) rfl ?_
      refine q_if_ne 25 21 dX12_games_18 (by decide) rfl (fun h18 => absurd hb h18) (fun h18 => ?_)
      refine q_iconst 1 22 dX12_games_21 ic_1 rfl ?_
      refine q_goto 26 dX12_games_22 (by decide) ?_
      refine q_putI 0 29 (w' := [_, _]) f_X12_67 ft_X12_0 dX12_games_26 rfl rfl rfl rfl ?_
      refine q_aload_n 0 30 dX12_games_29 rfl rfl rfl ?_
      refine q_getI 0 33 f_X12_67 dX12_games_30 rfl rfl rfl ?_
      refine q_if_le 37 36 dX12_games_33 (by decide) rfl (fun h33 => absurd h33 (by show ¬ (1 : Int32) ≤ 0; decide)) (fun h33 => ?_)
      refine q_return dX12_games_36 rfl ?_
      exact pR.rf
    · rw [show gaT a1 a2 = 0 from if_neg (fun z => z.elim ha hb), if_pos rfl]
      refine q_aload_n 0 1 dX12_games_0 rfl rfl rfl ?_
      refine q_iload_n 1 2 dX12_games_1 rfl rfl rfl ?_
      refine q_iconst 0 3 dX12_games_2 ic_0 rfl ?_
      refine q_bipush 6 5 dX12_games_3 bc_6 rfl ?_
      refine q_cSi [] [0, 1] [0, 1] 8 (wr := [_, _]) (w1 := _) (ws' := [_, _]) c_isIn m_X12_70 dX12_games_5 rfl rfl rfl rfl rfl (by decide) (by decide) (by decide) (by decide) (Nat.le_of_ble_eq_true rfl) (by omega) (by omega) (by omega) rfl ?_
      refine q_if_eq 21 11 dX12_games_8 (by decide) rfl (fun h8 => absurd h8 ha) (fun h8 => ?_)
      refine q_iload_n 2 12 dX12_games_11 rfl rfl rfl ?_
      refine q_iconst 0 13 dX12_games_12 ic_0 rfl ?_
      refine q_bipush 6 15 dX12_games_13 bc_6 rfl ?_
      refine q_cSi [] [0, 1] [0, 1] 18 (wr := [_, _]) (w1 := _) (ws' := [_, _]) c_isIn m_X12_70 dX12_games_15 rfl rfl rfl rfl rfl (by decide) (by decide) (by decide) (by decide) (Nat.le_of_ble_eq_true rfl) (by omega) (by omega) (by omega) rfl ?_
      refine q_if_ne 25 21 dX12_games_18 (by decide) rfl (fun h18 => ?_) (fun h18 => absurd h18 hb)
      refine q_iconst 0 26 dX12_games_25 ic_0 rfl ?_
      refine q_putI 0 29 (w' := [_, _]) f_X12_67 ft_X12_0 dX12_games_26 rfl rfl rfl rfl ?_
      refine q_aload_n 0 30 dX12_games_29 rfl rfl rfl ?_
      refine q_getI 0 33 f_X12_67 dX12_games_30 rfl rfl rfl ?_
      refine q_if_le 37 36 dX12_games_33 (by decide) rfl (fun h33 => ?_) (fun h33 => absurd (by show (0 : Int32) ≤ 0; decide) h33)
      refine q_aload_n 0 38 dX12_games_37 rfl rfl rfl ?_
      refine q_getR 0 41 f_X12_7 dX12_games_38 rfl rfl rfl rfl ?_
      refine q_sipush 208 44 dX12_games_41 sc_208 rfl ?_
      refine q_iload_n 1 45 dX12_games_44 rfl rfl rfl ?_
      refine q_iast 1 208 46 (w' := [_, _]) dX12_games_45 rfl ⟨rfl, by omega, by decide⟩ rfl rfl ?_
      refine q_aload_n 0 47 dX12_games_46 rfl rfl rfl ?_
      refine q_getR 0 50 f_X12_7 dX12_games_47 rfl rfl rfl rfl ?_
      refine q_sipush 209 53 dX12_games_50 sc_209 rfl ?_
      refine q_iload_n 2 54 dX12_games_53 rfl rfl rfl ?_
      refine q_iast 1 209 55 (w' := [_, _]) dX12_games_54 rfl ⟨rfl, by omega, by decide⟩ rfl rfl ?_
      refine q_return dX12_games_55 rfl ?_
      exact pR.rf
def beT (a b : Int32) : Int32 := if rIn a 0 3 = 0 ∨ rIn b 0 3 = 0 then 1 else 0
def beM (m : Nat → Int32) (a b : Int32) : Nat → Int32 := if beT a b = 0 then upd (upd m 197 a) 198 b else m
theorem p_begin {l : Launch} {g : Gh} {q : Nat} {A : Nat → Nat} {i m : Nat → Int32} {a1 a2 : Int32} : Cp l g yX12_begin (Cond.code yX12_begin cX12_begin 3 none) 3 [.ref q, .int a1, .int a2] [(q, ob 12 (i) (rM A)), (A 1, aI g 2616 (m))] none [(q, ob 12 (upd i 0 (beT a1 a2)) (rM A)), (A 1, aI g 2616 (beM m a1 a2))] := by
  refine ct_of (M := mtX12_begin) [some (.ref q), some (.int a1), some (.int a2)] rfl (by decide) (Nat.le_of_ble_eq_true rfl) (fun _ h => h) (fun a => ?_)
  unfold beM
  by_cases ha : rIn a1 0 3 = 0
  · rw [show beT a1 a2 = 1 from if_pos (Or.inl ha), if_neg one_ne0]
    refine q_aload_n 0 1 dX12_begin_0 rfl rfl rfl ?_
    refine q_iload_n 1 2 dX12_begin_1 rfl rfl rfl ?_
    refine q_iconst 0 3 dX12_begin_2 ic_0 rfl ?_
    refine q_iconst 3 4 dX12_begin_3 ic_3 rfl ?_
    refine q_cSi [] [0, 1] [0, 1] 7 (wr := [_, _]) (w1 := _) (ws' := [_, _]) c_isIn m_X12_70 dX12_begin_4 rfl rfl rfl rfl rfl (by decide) (by decide) (by decide) (by decide) (Nat.le_of_ble_eq_true rfl) (by omega) (by omega) (by omega) rfl ?_
    refine q_if_eq 19 10 dX12_begin_7 (by decide) rfl (fun h7 => ?_) (fun h7 => absurd ha h7)
    refine q_iconst 1 20 dX12_begin_19 ic_1 rfl ?_
    refine q_goto 24 dX12_begin_20 (by decide) ?_
    refine q_putI 0 27 (w' := [_, _]) f_X12_67 ft_X12_0 dX12_begin_24 rfl rfl rfl rfl ?_
    refine q_aload_n 0 28 dX12_begin_27 rfl rfl rfl ?_
    refine q_getI 0 31 f_X12_67 dX12_begin_28 rfl rfl rfl ?_
    refine q_if_le 35 34 dX12_begin_31 (by decide) rfl (fun h31 => absurd h31 (by show ¬ (1 : Int32) ≤ 0; decide)) (fun h31 => ?_)
    refine q_return dX12_begin_34 rfl ?_
    exact pR.rf
  · by_cases hb : rIn a2 0 3 = 0
    · rw [show beT a1 a2 = 1 from if_pos (Or.inr hb), if_neg one_ne0]
      refine q_aload_n 0 1 dX12_begin_0 rfl rfl rfl ?_
      refine q_iload_n 1 2 dX12_begin_1 rfl rfl rfl ?_
      refine q_iconst 0 3 dX12_begin_2 ic_0 rfl ?_
      refine q_iconst 3 4 dX12_begin_3 ic_3 rfl ?_
      refine q_cSi [] [0, 1] [0, 1] 7 (wr := [_, _]) (w1 := _) (ws' := [_, _]) c_isIn m_X12_70 dX12_begin_4 rfl rfl rfl rfl rfl (by decide) (by decide) (by decide) (by decide) (Nat.le_of_ble_eq_true rfl) (by omega) (by omega) (by omega) rfl ?_
      refine q_if_eq 19 10 dX12_begin_7 (by decide) rfl (fun h7 => absurd h7 ha) (fun h7 => ?_)
      refine q_iload_n 2 11 dX12_begin_10 rfl rfl rfl ?_
      refine q_iconst 0 12 dX12_begin_11 ic_0 rfl ?_
      refine q_iconst 3 13 dX12_begin_12 ic_3 rfl ?_
      refine q_cSi [] [0, 1] [0, 1] 16 (wr := [_, _]) (w1 := _) (ws' := [_, _]) c_isIn m_X12_70 dX12_begin_13 rfl rfl rfl rfl rfl (by decide) (by decide) (by decide) (by decide) (Nat.le_of_ble_eq_true rfl) (by omega) (by omega) (by omega) rfl ?_
      refine q_if_ne 23 19 dX12_begin_16 (by decide) rfl (fun h16 => absurd hb h16) (fun h16 => ?_)
      refine q_iconst 1 20 dX12_begin_19 ic_1 rfl ?_
      refine q_goto 24 dX12_begin_20 (by decide) ?_
      refine q_putI 0 27 (w' := [_, _]) f_X12_67 ft_X12_0 dX12_begin_24 rfl rfl rfl rfl ?_
      refine q_aload_n 0 28 dX12_begin_27 rfl rfl rfl ?_
      refine q_getI 0 31 f_X12_67 dX12_begin_28 rfl rfl rfl ?_
      refine q_if_le 35 34 dX12_begin_31 (by decide) rfl (fun h31 => absurd h31 (by show ¬ (1 : Int32) ≤ 0; decide)) (fun h31 => ?_)
      refine q_return dX12_begin_34 rfl ?_
      exact pR.rf
    · rw [show beT a1 a2 = 0 from if_neg (fun z => z.elim ha hb), if_pos rfl]
      refine q_aload_n 0 1 dX12_begin_0 rfl rfl rfl ?_
      refine q_iload_n 1 2 dX12_begin_1 rfl rfl rfl ?_
      refine q_iconst 0 3 dX12_begin_2 ic_0 rfl ?_
      refine q_iconst 3 4 dX12_begin_3 ic_3 rfl ?_
      refine q_cSi [] [0, 1] [0, 1] 7 (wr := [_, _]) (w1 := _) (ws' := [_, _]) c_isIn m_X12_70 dX12_begin_4 rfl rfl rfl rfl rfl (by decide) (by decide) (by decide) (by decide) (Nat.le_of_ble_eq_true rfl) (by omega) (by omega) (by omega) rfl ?_
      refine q_if_eq 19 10 dX12_begin_7 (by decide) rfl (fun h7 => absurd h7 ha) (fun h7 => ?_)
      refine q_iload_n 2 11 dX12_begin_10 rfl rfl rfl ?_
      refine q_iconst 0 12 dX12_begin_11 ic_0 rfl ?_
      refine q_iconst 3 13 dX12_begin_12 ic_3 rfl ?_
      refine q_cSi [] [0, 1] [0, 1] 16 (wr := [_, _]) (w1 := _) (ws' := [_, _]) c_isIn m_X12_70 dX12_begin_13 rfl rfl rfl rfl rfl (by decide) (by decide) (by decide) (by decide) (Nat.le_of_ble_eq_true rfl) (by omega) (by omega) (by omega) rfl ?_
      refine q_if_ne 23 19 dX12_begin_16 (by decide) rfl (fun h16 => ?_) (fun h16 => absurd h16 hb)
      refine q_iconst 0 24 dX12_begin_23 ic_0 rfl ?_
      refine q_putI 0 27 (w' := [_, _]) f_X12_67 ft_X12_0 dX12_begin_24 rfl rfl rfl rfl ?_
      refine q_aload_n 0 28 dX12_begin_27 rfl rfl rfl ?_
      refine q_getI 0 31 f_X12_67 dX12_begin_28 rfl rfl rfl ?_
      refine q_if_le 35 34 dX12_begin_31 (by decide) rfl (fun h31 => ?_) (fun h31 => absurd (by show (0 : Int32) ≤ 0; decide) h31)
      refine q_aload_n 0 36 dX12_begin_35 rfl rfl rfl ?_
      refine q_getR 0 39 f_X12_7 dX12_begin_36 rfl rfl rfl rfl ?_
      refine q_sipush 197 42 dX12_begin_39 sc_197 rfl ?_
      refine q_iload_n 1 43 dX12_begin_42 rfl rfl rfl ?_
      refine q_iast 1 197 44 (w' := [_, _]) dX12_begin_43 rfl ⟨rfl, by omega, by decide⟩ rfl rfl ?_
      refine q_aload_n 0 45 dX12_begin_44 rfl rfl rfl ?_
      refine q_getR 0 48 f_X12_7 dX12_begin_45 rfl rfl rfl rfl ?_
      refine q_sipush 198 51 dX12_begin_48 sc_198 rfl ?_
      refine q_iload_n 2 52 dX12_begin_51 rfl rfl rfl ?_
      refine q_iast 1 198 53 (w' := [_, _]) dX12_begin_52 rfl ⟨rfl, by omega, by decide⟩ rfl rfl ?_
      refine q_return dX12_begin_53 rfl ?_
      exact pR.rf
abbrev scB (a b : Int32) : Prop := (¬ rIn a (-3) 3 = 0 ∧ ¬ rIn b (-3) 3 = 0) ∨ (a = 4 ∧ b = 3) ∨ (a = 3 ∧ b = 4)
def scT (a b s : Int32) : Int32 := if rIn s 0 1 = 0 then 1 else if scB a b then 0 else 2
def scM (m : Nat → Int32) (a b s : Int32) : Nat → Int32 := if scT a b s = 0 then upd (upd (upd (upd (upd m 201 a) 202 b) 203 s) 204 0) 207 0 else m
theorem p_score {l : Launch} {g : Gh} {q : Nat} {A : Nat → Nat} {i m : Nat → Int32} {a1 a2 s : Int32} : Cp l g yX12_score (Cond.code yX12_score cX12_score 5 none) 3 [.ref q, .int a1, .int a2, .int s] [(q, ob 12 (i) (rM A)), (A 1, aI g 2616 (m))] none [(q, ob 12 (upd i 0 (scT a1 a2 s)) (rM A)), (A 1, aI g 2616 (scM m a1 a2 s))] := by
  refine ct_of (M := mtX12_score) [some (.ref q), some (.int a1), some (.int a2), some (.int s), none] rfl (by decide) (Nat.le_of_ble_eq_true rfl) (fun _ h => h) (fun a => ?_)
  have K1 : scB a1 a2 → WPs l g mtX12_score 3 0 0 (pR none [(q, ob 12 (upd i 0 (scT a1 a2 s)) (rM A)), (A 1, aI g 2616 (scM m a1 a2 s))]) noX a 45 [some (.ref q), some (.int a1), some (.int a2), some (.int s), none] [.int 1] [(q, ob 12 (i) (rM A)), (A 1, aI g 2616 (m))] 0 0 := by
    intro hB
    unfold scM
    by_cases hs : rIn s 0 1 = 0
    · rw [show scT a1 a2 s = 1 from if_pos hs, if_neg one_ne0]
      refine q_istore 4 47 (L' := [_, _, _, _, _]) dX12_score_45 (by decide) rfl rfl ?_
      refine q_aload_n 0 48 dX12_score_47 rfl rfl rfl ?_
      refine q_iload_n 3 49 dX12_score_48 rfl rfl rfl ?_
      refine q_cSi [] [0, 1] [0, 1] 52 (wr := [_, _]) (w1 := _) (ws' := [_, _]) c_isPlayer m_X12_197 dX12_score_49 rfl rfl rfl rfl rfl (by decide) (by decide) (by decide) (by decide) (Nat.le_of_ble_eq_true rfl) (by omega) (by omega) (by omega) rfl ?_
      refine q_if_ne 59 55 dX12_score_52 (by decide) rfl (fun h52 => absurd hs h52) (fun h52 => ?_)
      refine q_iconst 1 56 dX12_score_55 ic_1 rfl ?_
      refine q_goto 69 dX12_score_56 (by decide) ?_
      refine q_putI 0 72 (w' := [_, _]) f_X12_67 ft_X12_0 dX12_score_69 rfl rfl rfl rfl ?_
      refine q_aload_n 0 73 dX12_score_72 rfl rfl rfl ?_
      refine q_getI 0 76 f_X12_67 dX12_score_73 rfl rfl rfl ?_
      refine q_if_le 80 79 dX12_score_76 (by decide) rfl (fun h76 => absurd h76 (by show ¬ (1 : Int32) ≤ 0; decide)) (fun h76 => ?_)
      refine q_return dX12_score_79 rfl ?_
      exact pR.rf
    · rw [show scT a1 a2 s = 0 from (if_neg hs).trans (if_pos hB), if_pos rfl]
      refine q_istore 4 47 (L' := [_, _, _, _, _]) dX12_score_45 (by decide) rfl rfl ?_
      refine q_aload_n 0 48 dX12_score_47 rfl rfl rfl ?_
      refine q_iload_n 3 49 dX12_score_48 rfl rfl rfl ?_
      refine q_cSi [] [0, 1] [0, 1] 52 (wr := [_, _]) (w1 := _) (ws' := [_, _]) c_isPlayer m_X12_197 dX12_score_49 rfl rfl rfl rfl rfl (by decide) (by decide) (by decide) (by decide) (Nat.le_of_ble_eq_true rfl) (by omega) (by omega) (by omega) rfl ?_
      refine q_if_ne 59 55 dX12_score_52 (by decide) rfl (fun h52 => ?_) (fun h52 => absurd h52 hs)
      refine q_iload 4 61 dX12_score_59 rfl rfl ?_
      refine q_if_ne 68 64 dX12_score_61 (by decide) rfl (fun h61 => ?_) (fun h61 => absurd h61 one_ne0)
      refine q_iconst 0 69 dX12_score_68 ic_0 rfl ?_
      refine q_putI 0 72 (w' := [_, _]) f_X12_67 ft_X12_0 dX12_score_69 rfl rfl rfl rfl ?_
      refine q_aload_n 0 73 dX12_score_72 rfl rfl rfl ?_
      refine q_getI 0 76 f_X12_67 dX12_score_73 rfl rfl rfl ?_
      refine q_if_le 80 79 dX12_score_76 (by decide) rfl (fun h76 => ?_) (fun h76 => absurd (by show (0 : Int32) ≤ 0; decide) h76)
      refine q_aload_n 0 81 dX12_score_80 rfl rfl rfl ?_
      refine q_getR 0 84 f_X12_7 dX12_score_81 rfl rfl rfl rfl ?_
      refine q_sipush 201 87 dX12_score_84 sc_201 rfl ?_
      refine q_iload_n 1 88 dX12_score_87 rfl rfl rfl ?_
      refine q_iast 1 201 89 (w' := [_, _]) dX12_score_88 rfl ⟨rfl, by omega, by decide⟩ rfl rfl ?_
      refine q_aload_n 0 90 dX12_score_89 rfl rfl rfl ?_
      refine q_getR 0 93 f_X12_7 dX12_score_90 rfl rfl rfl rfl ?_
      refine q_sipush 202 96 dX12_score_93 sc_202 rfl ?_
      refine q_iload_n 2 97 dX12_score_96 rfl rfl rfl ?_
      refine q_iast 1 202 98 (w' := [_, _]) dX12_score_97 rfl ⟨rfl, by omega, by decide⟩ rfl rfl ?_
      refine q_aload_n 0 99 dX12_score_98 rfl rfl rfl ?_
      refine q_getR 0 102 f_X12_7 dX12_score_99 rfl rfl rfl rfl ?_
      refine q_sipush 203 105 dX12_score_102 sc_203 rfl ?_
      refine q_iload_n 3 106 dX12_score_105 rfl rfl rfl ?_
      refine q_iast 1 203 107 (w' := [_, _]) dX12_score_106 rfl ⟨rfl, by omega, by decide⟩ rfl rfl ?_
      refine q_aload_n 0 108 dX12_score_107 rfl rfl rfl ?_
      refine q_getR 0 111 f_X12_7 dX12_score_108 rfl rfl rfl rfl ?_
      refine q_sipush 204 114 dX12_score_111 sc_204 rfl ?_
      refine q_iconst 0 115 dX12_score_114 ic_0 rfl ?_
      refine q_iast 1 204 116 (w' := [_, _]) dX12_score_115 rfl ⟨rfl, by omega, by decide⟩ rfl rfl ?_
      refine q_aload_n 0 117 dX12_score_116 rfl rfl rfl ?_
      refine q_getR 0 120 f_X12_7 dX12_score_117 rfl rfl rfl rfl ?_
      refine q_sipush 207 123 dX12_score_120 sc_207 rfl ?_
      refine q_iconst 0 124 dX12_score_123 ic_0 rfl ?_
      refine q_iast 1 207 125 (w' := [_, _]) dX12_score_124 rfl ⟨rfl, by omega, by decide⟩ rfl rfl ?_
      refine q_return dX12_score_125 rfl ?_
      exact pR.rf
  have K0 : ¬ scB a1 a2 → WPs l g mtX12_score 3 0 0 (pR none [(q, ob 12 (upd i 0 (scT a1 a2 s)) (rM A)), (A 1, aI g 2616 (scM m a1 a2 s))]) noX a 45 [some (.ref q), some (.int a1), some (.int a2), some (.int s), none] [.int 0] [(q, ob 12 (i) (rM A)), (A 1, aI g 2616 (m))] 0 0 := by
    intro hB
    unfold scM
    by_cases hs : rIn s 0 1 = 0
    · rw [show scT a1 a2 s = 1 from if_pos hs, if_neg one_ne0]
      refine q_istore 4 47 (L' := [_, _, _, _, _]) dX12_score_45 (by decide) rfl rfl ?_
      refine q_aload_n 0 48 dX12_score_47 rfl rfl rfl ?_
      refine q_iload_n 3 49 dX12_score_48 rfl rfl rfl ?_
      refine q_cSi [] [0, 1] [0, 1] 52 (wr := [_, _]) (w1 := _) (ws' := [_, _]) c_isPlayer m_X12_197 dX12_score_49 rfl rfl rfl rfl rfl (by decide) (by decide) (by decide) (by decide) (Nat.le_of_ble_eq_true rfl) (by omega) (by omega) (by omega) rfl ?_
      refine q_if_ne 59 55 dX12_score_52 (by decide) rfl (fun h52 => absurd hs h52) (fun h52 => ?_)
      refine q_iconst 1 56 dX12_score_55 ic_1 rfl ?_
      refine q_goto 69 dX12_score_56 (by decide) ?_
      refine q_putI 0 72 (w' := [_, _]) f_X12_67 ft_X12_0 dX12_score_69 rfl rfl rfl rfl ?_
      refine q_aload_n 0 73 dX12_score_72 rfl rfl rfl ?_
      refine q_getI 0 76 f_X12_67 dX12_score_73 rfl rfl rfl ?_
      refine q_if_le 80 79 dX12_score_76 (by decide) rfl (fun h76 => absurd h76 (by show ¬ (1 : Int32) ≤ 0; decide)) (fun h76 => ?_)
      refine q_return dX12_score_79 rfl ?_
      exact pR.rf
    · rw [show scT a1 a2 s = 2 from (if_neg hs).trans (if_neg hB), if_neg (by decide)]
      refine q_istore 4 47 (L' := [_, _, _, _, _]) dX12_score_45 (by decide) rfl rfl ?_
      refine q_aload_n 0 48 dX12_score_47 rfl rfl rfl ?_
      refine q_iload_n 3 49 dX12_score_48 rfl rfl rfl ?_
      refine q_cSi [] [0, 1] [0, 1] 52 (wr := [_, _]) (w1 := _) (ws' := [_, _]) c_isPlayer m_X12_197 dX12_score_49 rfl rfl rfl rfl rfl (by decide) (by decide) (by decide) (by decide) (Nat.le_of_ble_eq_true rfl) (by omega) (by omega) (by omega) rfl ?_
      refine q_if_ne 59 55 dX12_score_52 (by decide) rfl (fun h52 => ?_) (fun h52 => absurd h52 hs)
      refine q_iload 4 61 dX12_score_59 rfl rfl ?_
      refine q_if_ne 68 64 dX12_score_61 (by decide) rfl (fun h61 => absurd rfl h61) (fun h61 => ?_)
      refine q_iconst 2 65 dX12_score_64 ic_2 rfl ?_
      refine q_goto 69 dX12_score_65 (by decide) ?_
      refine q_putI 0 72 (w' := [_, _]) f_X12_67 ft_X12_0 dX12_score_69 rfl rfl rfl rfl ?_
      refine q_aload_n 0 73 dX12_score_72 rfl rfl rfl ?_
      refine q_getI 0 76 f_X12_67 dX12_score_73 rfl rfl rfl ?_
      refine q_if_le 80 79 dX12_score_76 (by decide) rfl (fun h76 => absurd h76 (by show ¬ (2 : Int32) ≤ 0; decide)) (fun h76 => ?_)
      refine q_return dX12_score_79 rfl ?_
      exact pR.rf
  refine q_iload_n 1 1 dX12_score_0 rfl rfl rfl ?_
  refine q_bipush (-3) 3 dX12_score_1 bc_m3 rfl ?_
  refine q_iconst 3 4 dX12_score_3 ic_3 rfl ?_
  refine q_cSi [] [0, 1] [0, 1] 7 (wr := [_, _]) (w1 := _) (ws' := [_, _]) c_isIn m_X12_70 dX12_score_4 rfl rfl rfl rfl rfl (by decide) (by decide) (by decide) (by decide) (Nat.le_of_ble_eq_true rfl) (by omega) (by omega) (by omega) rfl ?_
  refine q_if_eq 20 10 dX12_score_7 (by decide) rfl (fun h7 => ?_) (fun h7 => ?_)
  · refine q_iload_n 1 21 dX12_score_20 rfl rfl rfl ?_
    refine q_iconst 4 22 dX12_score_21 ic_4 rfl ?_
    refine q_icmp_ne 30 25 dX12_score_22 (by decide) rfl (fun h22 => ?_) (fun h22 => ?_)
    · refine q_iload_n 1 31 dX12_score_30 rfl rfl rfl ?_
      refine q_iconst 3 32 dX12_score_31 ic_3 rfl ?_
      refine q_icmp_ne 44 35 dX12_score_32 (by decide) rfl (fun h32 => ?_) (fun h32 => ?_)
      · refine q_iconst 0 45 dX12_score_44 ic_0 rfl ?_
        first
          | (refine K1 ?_; simp_all [scB]; done)
          | (refine K0 ?_; simp_all [scB]; done)
      · refine q_iload_n 2 36 dX12_score_35 rfl rfl rfl ?_
        refine q_iconst 4 37 dX12_score_36 ic_4 rfl ?_
        refine q_icmp_ne 44 40 dX12_score_37 (by decide) rfl (fun h37 => ?_) (fun h37 => ?_)
        · refine q_iconst 0 45 dX12_score_44 ic_0 rfl ?_
          first
            | (refine K1 ?_; simp_all [scB]; done)
            | (refine K0 ?_; simp_all [scB]; done)
        · refine q_iconst 1 41 dX12_score_40 ic_1 rfl ?_
          refine q_goto 45 dX12_score_41 (by decide) ?_
          first
            | (refine K1 ?_; simp_all [scB]; done)
            | (refine K0 ?_; simp_all [scB]; done)
    · refine q_iload_n 2 26 dX12_score_25 rfl rfl rfl ?_
      refine q_iconst 3 27 dX12_score_26 ic_3 rfl ?_
      refine q_icmp_eq 40 30 dX12_score_27 (by decide) rfl (fun h27 => ?_) (fun h27 => ?_)
      · refine q_iconst 1 41 dX12_score_40 ic_1 rfl ?_
        refine q_goto 45 dX12_score_41 (by decide) ?_
        first
          | (refine K1 ?_; simp_all [scB]; done)
          | (refine K0 ?_; simp_all [scB]; done)
      · refine q_iload_n 1 31 dX12_score_30 rfl rfl rfl ?_
        refine q_iconst 3 32 dX12_score_31 ic_3 rfl ?_
        refine q_icmp_ne 44 35 dX12_score_32 (by decide) rfl (fun h32 => ?_) (fun h32 => ?_)
        · refine q_iconst 0 45 dX12_score_44 ic_0 rfl ?_
          first
            | (refine K1 ?_; simp_all [scB]; done)
            | (refine K0 ?_; simp_all [scB]; done)
        · refine q_iload_n 2 36 dX12_score_35 rfl rfl rfl ?_
          refine q_iconst 4 37 dX12_score_36 ic_4 rfl ?_
          refine q_icmp_ne 44 40 dX12_score_37 (by decide) rfl (fun h37 => ?_) (fun h37 => ?_)
          · refine q_iconst 0 45 dX12_score_44 ic_0 rfl ?_
            first
              | (refine K1 ?_; simp_all [scB]; done)
              | (refine K0 ?_; simp_all [scB]; done)
          · refine q_iconst 1 41 dX12_score_40 ic_1 rfl ?_
            refine q_goto 45 dX12_score_41 (by decide) ?_
            first
              | (refine K1 ?_; simp_all [scB]; done)
              | (refine K0 ?_; simp_all [scB]; done)
  · refine q_iload_n 2 11 dX12_score_10 rfl rfl rfl ?_
    refine q_bipush (-3) 13 dX12_score_11 bc_m3 rfl ?_
    refine q_iconst 3 14 dX12_score_13 ic_3 rfl ?_
    refine q_cSi [] [0, 1] [0, 1] 17 (wr := [_, _]) (w1 := _) (ws' := [_, _]) c_isIn m_X12_70 dX12_score_14 rfl rfl rfl rfl rfl (by decide) (by decide) (by decide) (by decide) (Nat.le_of_ble_eq_true rfl) (by omega) (by omega) (by omega) rfl ?_
    refine q_if_ne 40 20 dX12_score_17 (by decide) rfl (fun h17 => ?_) (fun h17 => ?_)
    · refine q_iconst 1 41 dX12_score_40 ic_1 rfl ?_
      refine q_goto 45 dX12_score_41 (by decide) ?_
      first
        | (refine K1 ?_; simp_all [scB]; done)
        | (refine K0 ?_; simp_all [scB]; done)
    · refine q_iload_n 1 21 dX12_score_20 rfl rfl rfl ?_
      refine q_iconst 4 22 dX12_score_21 ic_4 rfl ?_
      refine q_icmp_ne 30 25 dX12_score_22 (by decide) rfl (fun h22 => ?_) (fun h22 => ?_)
      · refine q_iload_n 1 31 dX12_score_30 rfl rfl rfl ?_
        refine q_iconst 3 32 dX12_score_31 ic_3 rfl ?_
        refine q_icmp_ne 44 35 dX12_score_32 (by decide) rfl (fun h32 => ?_) (fun h32 => ?_)
        · refine q_iconst 0 45 dX12_score_44 ic_0 rfl ?_
          first
            | (refine K1 ?_; simp_all [scB]; done)
            | (refine K0 ?_; simp_all [scB]; done)
        · refine q_iload_n 2 36 dX12_score_35 rfl rfl rfl ?_
          refine q_iconst 4 37 dX12_score_36 ic_4 rfl ?_
          refine q_icmp_ne 44 40 dX12_score_37 (by decide) rfl (fun h37 => ?_) (fun h37 => ?_)
          · refine q_iconst 0 45 dX12_score_44 ic_0 rfl ?_
            first
              | (refine K1 ?_; simp_all [scB]; done)
              | (refine K0 ?_; simp_all [scB]; done)
          · refine q_iconst 1 41 dX12_score_40 ic_1 rfl ?_
            refine q_goto 45 dX12_score_41 (by decide) ?_
            first
              | (refine K1 ?_; simp_all [scB]; done)
              | (refine K0 ?_; simp_all [scB]; done)
      · refine q_iload_n 2 26 dX12_score_25 rfl rfl rfl ?_
        refine q_iconst 3 27 dX12_score_26 ic_3 rfl ?_
        refine q_icmp_eq 40 30 dX12_score_27 (by decide) rfl (fun h27 => ?_) (fun h27 => ?_)
        · refine q_iconst 1 41 dX12_score_40 ic_1 rfl ?_
          refine q_goto 45 dX12_score_41 (by decide) ?_
          first
            | (refine K1 ?_; simp_all [scB]; done)
            | (refine K0 ?_; simp_all [scB]; done)
        · refine q_iload_n 1 31 dX12_score_30 rfl rfl rfl ?_
          refine q_iconst 3 32 dX12_score_31 ic_3 rfl ?_
          refine q_icmp_ne 44 35 dX12_score_32 (by decide) rfl (fun h32 => ?_) (fun h32 => ?_)
          · refine q_iconst 0 45 dX12_score_44 ic_0 rfl ?_
            first
              | (refine K1 ?_; simp_all [scB]; done)
              | (refine K0 ?_; simp_all [scB]; done)
          · refine q_iload_n 2 36 dX12_score_35 rfl rfl rfl ?_
            refine q_iconst 4 37 dX12_score_36 ic_4 rfl ?_
            refine q_icmp_ne 44 40 dX12_score_37 (by decide) rfl (fun h37 => ?_) (fun h37 => ?_)
            · refine q_iconst 0 45 dX12_score_44 ic_0 rfl ?_
              first
                | (refine K1 ?_; simp_all [scB]; done)
                | (refine K0 ?_; simp_all [scB]; done)
            · refine q_iconst 1 41 dX12_score_40 ic_1 rfl ?_
              refine q_goto 45 dX12_score_41 (by decide) ?_
              first
                | (refine K1 ?_; simp_all [scB]; done)
                | (refine K0 ?_; simp_all [scB]; done)

