/-! ===== rally ===== -/
def raT (m X : Nat → Int32) (hw ln : Int32) : Int32 := if hw = 2 ∧ rIn ln 0 9 = 0 then 1 else if rIn hw 0 2 = 0 then 2 else if rOver m X = 0 then 0 else 3
def raH (hw ln : Int32) : Int32 := if hw = 2 then 2 + ln else hw
theorem p_rally0 {l : Launch} {g : Gh} {q : Nat} {A : Nat → Nat} {i m x : Nat → Int32} {hw ln : Int32} (hth : ¬ raT m (rTake m x) hw ln = 0) : Cp l g yX12_rally (Cond.code yX12_rally cX12_rally 4 (some .int)) 4 [.ref q, .int hw, .int ln] [(q, ob 12 (i) (rM A)), (A 1, aI g 2616 (m)), (A 16, aI g 9 (x))] (some (.int 0)) [(q, ob 12 (upd i 0 (raT m (rTake m x) hw ln)) (rM A)), (A 1, aI g 2616 (m)), (A 16, aI g 9 ((rTake m x)))] := by
  refine ct_of (M := mtX12_rally) [some (.ref q), some (.int hw), some (.int ln), none] rfl (by decide) (Nat.le_of_ble_eq_true rfl) (fun _ h => h) (fun a => ?_)
  by_cases h2 : hw = 2
  · by_cases hl : rIn ln 0 9 = 0
    · rw [show raT m (rTake m x) hw ln = 1 from if_pos ⟨h2, hl⟩]
      refine q_aload_n 0 1 dX12_rally_0 rfl rfl rfl ?_
      refine q_cVv 0 [0, 1, 2] [] [0, 1, 2] 4 (wr := []) (w1 := _) (ws' := [_, _, _]) c_M_takes m_X12_200 dX12_rally_1 rfl rfl rfl rfl rfl rfl rfl rfl (by decide) (by decide) (by decide) (by decide) (Nat.le_of_ble_eq_true rfl) (by omega) (by omega) (by omega) rfl ?_
      refine q_aload_n 0 5 dX12_rally_4 rfl rfl rfl ?_
      refine q_iload_n 1 6 dX12_rally_5 rfl rfl rfl ?_
      refine q_iconst 2 7 dX12_rally_6 ic_2 rfl ?_
      refine q_icmp_ne 24 10 dX12_rally_7 (by decide) rfl (fun h7 => absurd h2 h7) (fun h7 => ?_)
      refine q_iload_n 2 11 dX12_rally_10 rfl rfl rfl ?_
      refine q_iconst 0 12 dX12_rally_11 ic_0 rfl ?_
      refine q_bipush 9 14 dX12_rally_12 bc_9 rfl ?_
      refine q_cSi [] [0, 1, 2] [0, 1, 2] 17 (wr := [_, _, _]) (w1 := _) (ws' := [_, _, _]) c_isIn m_X12_70 dX12_rally_14 rfl rfl rfl rfl rfl (by decide) (by decide) (by decide) (by decide) (Nat.le_of_ble_eq_true rfl) (by omega) (by omega) (by omega) rfl ?_
      refine q_if_ne 24 20 dX12_rally_17 (by decide) rfl (fun h17 => absurd hl h17) (fun h17 => ?_)
      refine q_iconst 1 21 dX12_rally_20 ic_1 rfl ?_
      refine q_goto 49 dX12_rally_21 (by decide) ?_
      refine q_putI 0 52 (w' := [_, _, _]) f_X12_67 ft_X12_0 dX12_rally_49 rfl rfl rfl rfl ?_
      refine q_aload_n 0 53 dX12_rally_52 rfl rfl rfl ?_
      refine q_getI 0 56 f_X12_67 dX12_rally_53 rfl rfl rfl ?_
      refine q_if_le 61 59 dX12_rally_56 (by decide) rfl (fun h56 => absurd h56 (by show ¬ (1 : Int32) ≤ 0; decide)) (fun h56 => ?_)
      refine q_iconst 0 60 dX12_rally_59 ic_0 rfl ?_
      refine q_ireturn dX12_rally_60 rfl ?_
      exact pR.rf
    · have hi : ¬ rIn hw 0 2 = 0 := by rw [h2]; decide
      have e1 : raT m (rTake m x) hw ln = if rOver m (rTake m x) = 0 then 0 else 3 := (if_neg (fun z => hl z.2)).trans (if_neg hi)
      have ho : ¬ rOver m (rTake m x) = 0 := fun h => hth (e1.trans (if_pos h))
      rw [show raT m (rTake m x) hw ln = 3 from e1.trans (if_neg ho)]
      refine q_aload_n 0 1 dX12_rally_0 rfl rfl rfl ?_
      refine q_cVv 0 [0, 1, 2] [] [0, 1, 2] 4 (wr := []) (w1 := _) (ws' := [_, _, _]) c_M_takes m_X12_200 dX12_rally_1 rfl rfl rfl rfl rfl rfl rfl rfl (by decide) (by decide) (by decide) (by decide) (Nat.le_of_ble_eq_true rfl) (by omega) (by omega) (by omega) rfl ?_
      refine q_aload_n 0 5 dX12_rally_4 rfl rfl rfl ?_
      refine q_iload_n 1 6 dX12_rally_5 rfl rfl rfl ?_
      refine q_iconst 2 7 dX12_rally_6 ic_2 rfl ?_
      refine q_icmp_ne 24 10 dX12_rally_7 (by decide) rfl (fun h7 => absurd h2 h7) (fun h7 => ?_)
      refine q_iload_n 2 11 dX12_rally_10 rfl rfl rfl ?_
      refine q_iconst 0 12 dX12_rally_11 ic_0 rfl ?_
      refine q_bipush 9 14 dX12_rally_12 bc_9 rfl ?_
      refine q_cSi [] [0, 1, 2] [0, 1, 2] 17 (wr := [_, _, _]) (w1 := _) (ws' := [_, _, _]) c_isIn m_X12_70 dX12_rally_14 rfl rfl rfl rfl rfl (by decide) (by decide) (by decide) (by decide) (Nat.le_of_ble_eq_true rfl) (by omega) (by omega) (by omega) rfl ?_
      refine q_if_ne 24 20 dX12_rally_17 (by decide) rfl (fun h17 => ?_) (fun h17 => absurd h17 hl)
      refine q_iload_n 1 25 dX12_rally_24 rfl rfl rfl ?_
      refine q_iconst 0 26 dX12_rally_25 ic_0 rfl ?_
      refine q_iconst 2 27 dX12_rally_26 ic_2 rfl ?_
      refine q_cSi [] [0, 1, 2] [0, 1, 2] 30 (wr := [_, _, _]) (w1 := _) (ws' := [_, _, _]) c_isIn m_X12_70 dX12_rally_27 rfl rfl rfl rfl rfl (by decide) (by decide) (by decide) (by decide) (Nat.le_of_ble_eq_true rfl) (by omega) (by omega) (by omega) rfl ?_
      refine q_if_ne 37 33 dX12_rally_30 (by decide) rfl (fun h30 => ?_) (fun h30 => absurd h30 hi)
      refine q_aload_n 0 38 dX12_rally_37 rfl rfl rfl ?_
      refine q_cVi 0 [0, 1, 2] [] [0, 1, 2] 41 (wr := []) (w1 := _) (ws' := [_, _, _]) c_M_isOver m_X12_227 dX12_rally_38 rfl rfl rfl rfl rfl rfl rfl rfl (by decide) (by decide) (by decide) (by decide) (Nat.le_of_ble_eq_true rfl) (by omega) (by omega) (by omega) rfl ?_
      refine q_if_eq 48 44 dX12_rally_41 (by decide) rfl (fun h41 => absurd h41 ho) (fun h41 => ?_)
      refine q_iconst 3 45 dX12_rally_44 ic_3 rfl ?_
      refine q_goto 49 dX12_rally_45 (by decide) ?_
      refine q_putI 0 52 (w' := [_, _, _]) f_X12_67 ft_X12_0 dX12_rally_49 rfl rfl rfl rfl ?_
      refine q_aload_n 0 53 dX12_rally_52 rfl rfl rfl ?_
      refine q_getI 0 56 f_X12_67 dX12_rally_53 rfl rfl rfl ?_
      refine q_if_le 61 59 dX12_rally_56 (by decide) rfl (fun h56 => absurd h56 (by show ¬ (3 : Int32) ≤ 0; decide)) (fun h56 => ?_)
      refine q_iconst 0 60 dX12_rally_59 ic_0 rfl ?_
      refine q_ireturn dX12_rally_60 rfl ?_
      exact pR.rf
  · have e0 : raT m (rTake m x) hw ln = if rIn hw 0 2 = 0 then 2 else if rOver m (rTake m x) = 0 then 0 else 3 := if_neg (fun z => h2 z.1)
    by_cases hi : rIn hw 0 2 = 0
    · rw [show raT m (rTake m x) hw ln = 2 from e0.trans (if_pos hi)]
      refine q_aload_n 0 1 dX12_rally_0 rfl rfl rfl ?_
      refine q_cVv 0 [0, 1, 2] [] [0, 1, 2] 4 (wr := []) (w1 := _) (ws' := [_, _, _]) c_M_takes m_X12_200 dX12_rally_1 rfl rfl rfl rfl rfl rfl rfl rfl (by decide) (by decide) (by decide) (by decide) (Nat.le_of_ble_eq_true rfl) (by omega) (by omega) (by omega) rfl ?_
      refine q_aload_n 0 5 dX12_rally_4 rfl rfl rfl ?_
      refine q_iload_n 1 6 dX12_rally_5 rfl rfl rfl ?_
      refine q_iconst 2 7 dX12_rally_6 ic_2 rfl ?_
      refine q_icmp_ne 24 10 dX12_rally_7 (by decide) rfl (fun h7 => ?_) (fun h7 => absurd h7 h2)
      refine q_iload_n 1 25 dX12_rally_24 rfl rfl rfl ?_
      refine q_iconst 0 26 dX12_rally_25 ic_0 rfl ?_
      refine q_iconst 2 27 dX12_rally_26 ic_2 rfl ?_
      refine q_cSi [] [0, 1, 2] [0, 1, 2] 30 (wr := [_, _, _]) (w1 := _) (ws' := [_, _, _]) c_isIn m_X12_70 dX12_rally_27 rfl rfl rfl rfl rfl (by decide) (by decide) (by decide) (by decide) (Nat.le_of_ble_eq_true rfl) (by omega) (by omega) (by omega) rfl ?_
      refine q_if_ne 37 33 dX12_rally_30 (by decide) rfl (fun h30 => absurd hi h30) (fun h30 => ?_)
      refine q_iconst 2 34 dX12_rally_33 ic_2 rfl ?_
      refine q_goto 49 dX12_rally_34 (by decide) ?_
      refine q_putI 0 52 (w' := [_, _, _]) f_X12_67 ft_X12_0 dX12_rally_49 rfl rfl rfl rfl ?_
      refine q_aload_n 0 53 dX12_rally_52 rfl rfl rfl ?_
      refine q_getI 0 56 f_X12_67 dX12_rally_53 rfl rfl rfl ?_
      refine q_if_le 61 59 dX12_rally_56 (by decide) rfl (fun h56 => absurd h56 (by show ¬ (2 : Int32) ≤ 0; decide)) (fun h56 => ?_)
      refine q_iconst 0 60 dX12_rally_59 ic_0 rfl ?_
      refine q_ireturn dX12_rally_60 rfl ?_
      exact pR.rf
    · have ho : ¬ rOver m (rTake m x) = 0 := fun h => hth (e0.trans ((if_neg hi).trans (if_pos h)))
      rw [show raT m (rTake m x) hw ln = 3 from e0.trans ((if_neg hi).trans (if_neg ho))]
      refine q_aload_n 0 1 dX12_rally_0 rfl rfl rfl ?_
      refine q_cVv 0 [0, 1, 2] [] [0, 1, 2] 4 (wr := []) (w1 := _) (ws' := [_, _, _]) c_M_takes m_X12_200 dX12_rally_1 rfl rfl rfl rfl rfl rfl rfl rfl (by decide) (by decide) (by decide) (by decide) (Nat.le_of_ble_eq_true rfl) (by omega) (by omega) (by omega) rfl ?_
      refine q_aload_n 0 5 dX12_rally_4 rfl rfl rfl ?_
      refine q_iload_n 1 6 dX12_rally_5 rfl rfl rfl ?_
      refine q_iconst 2 7 dX12_rally_6 ic_2 rfl ?_
      refine q_icmp_ne 24 10 dX12_rally_7 (by decide) rfl (fun h7 => ?_) (fun h7 => absurd h7 h2)
      refine q_iload_n 1 25 dX12_rally_24 rfl rfl rfl ?_
      refine q_iconst 0 26 dX12_rally_25 ic_0 rfl ?_
      refine q_iconst 2 27 dX12_rally_26 ic_2 rfl ?_
      refine q_cSi [] [0, 1, 2] [0, 1, 2] 30 (wr := [_, _, _]) (w1 := _) (ws' := [_, _, _]) c_isIn m_X12_70 dX12_rally_27 rfl rfl rfl rfl rfl (by decide) (by decide) (by decide) (by decide) (Nat.le_of_ble_eq_true rfl) (by omega) (by omega) (by omega) rfl ?_
      refine q_if_ne 37 33 dX12_rally_30 (by decide) rfl (fun h30 => ?_) (fun h30 => absurd h30 hi)
      refine q_aload_n 0 38 dX12_rally_37 rfl rfl rfl ?_
      refine q_cVi 0 [0, 1, 2] [] [0, 1, 2] 41 (wr := []) (w1 := _) (ws' := [_, _, _]) c_M_isOver m_X12_227 dX12_rally_38 rfl rfl rfl rfl rfl rfl rfl rfl (by decide) (by decide) (by decide) (by decide) (Nat.le_of_ble_eq_true rfl) (by omega) (by omega) (by omega) rfl ?_
      refine q_if_eq 48 44 dX12_rally_41 (by decide) rfl (fun h41 => absurd h41 ho) (fun h41 => ?_)
      refine q_iconst 3 45 dX12_rally_44 ic_3 rfl ?_
      refine q_goto 49 dX12_rally_45 (by decide) ?_
      refine q_putI 0 52 (w' := [_, _, _]) f_X12_67 ft_X12_0 dX12_rally_49 rfl rfl rfl rfl ?_
      refine q_aload_n 0 53 dX12_rally_52 rfl rfl rfl ?_
      refine q_getI 0 56 f_X12_67 dX12_rally_53 rfl rfl rfl ?_
      refine q_if_le 61 59 dX12_rally_56 (by decide) rfl (fun h56 => absurd h56 (by show ¬ (3 : Int32) ≤ 0; decide)) (fun h56 => ?_)
      refine q_iconst 0 60 dX12_rally_59 ic_0 rfl ?_
      refine q_ireturn dX12_rally_60 rfl ?_
      exact pR.rf
theorem p_rally1 {l : Launch} {g : Gh} {q : Nat} {A : Nat → Nat} {i m x : Nat → Int32} {hw ln : Int32} (hs : (rTake m x) 2 = 0 ∨ (rTake m x) 2 = 1) (hl : ¬ (hw = 2 ∧ rIn ln 0 9 = 0)) (hi : ¬ rIn hw 0 2 = 0) (ho : rOver m (rTake m x) = 0) : Cp l g yX12_rally (Cond.code yX12_rally cX12_rally 4 (some .int)) 4 [.ref q, .int hw, .int ln] [(q, ob 12 (i) (rM A)), (A 1, aI g 2616 (m)), (A 16, aI g 9 (x))] (some (.int (if (iRal (upd i 0 0) m (rTake m x) (raH hw ln)) 18 = -1 then 0 else if (iRal (upd i 0 0) m (rTake m x) (raH hw ln)) 18 = (rTake m x) 2 then 1 else 2))) [(q, ob 12 ((iRal (upd i 0 0) m (rTake m x) (raH hw ln))) (rM A)), (A 1, aI g 2616 (rPut m (rRal m (rTake m x) (raH hw ln)) 9)), (A 16, aI g 9 (rRal m (rTake m x) (raH hw ln)))] := by
  refine ct_of (M := mtX12_rally) [some (.ref q), some (.int hw), some (.int ln), none] rfl (by decide) (Nat.le_of_ble_eq_true rfl) (fun _ h => h) (fun a => ?_)
  by_cases h2 : hw = 2
  · have hl2 : ¬ rIn ln 0 9 = 0 := fun h => hl ⟨h2, h⟩
    rw [show raH hw ln = 2 + ln from if_pos h2]
    refine q_aload_n 0 1 dX12_rally_0 rfl rfl rfl ?_
    refine q_cVv 0 [0, 1, 2] [] [0, 1, 2] 4 (wr := []) (w1 := _) (ws' := [_, _, _]) c_M_takes m_X12_200 dX12_rally_1 rfl rfl rfl rfl rfl rfl rfl rfl (by decide) (by decide) (by decide) (by decide) (Nat.le_of_ble_eq_true rfl) (by omega) (by omega) (by omega) rfl ?_
    refine q_aload_n 0 5 dX12_rally_4 rfl rfl rfl ?_
    refine q_iload_n 1 6 dX12_rally_5 rfl rfl rfl ?_
    refine q_iconst 2 7 dX12_rally_6 ic_2 rfl ?_
    refine q_icmp_ne 24 10 dX12_rally_7 (by decide) rfl (fun h7 => absurd h2 h7) (fun h7 => ?_)
    refine q_iload_n 2 11 dX12_rally_10 rfl rfl rfl ?_
    refine q_iconst 0 12 dX12_rally_11 ic_0 rfl ?_
    refine q_bipush 9 14 dX12_rally_12 bc_9 rfl ?_
    refine q_cSi [] [0, 1, 2] [0, 1, 2] 17 (wr := [_, _, _]) (w1 := _) (ws' := [_, _, _]) c_isIn m_X12_70 dX12_rally_14 rfl rfl rfl rfl rfl (by decide) (by decide) (by decide) (by decide) (Nat.le_of_ble_eq_true rfl) (by omega) (by omega) (by omega) rfl ?_
    refine q_if_ne 24 20 dX12_rally_17 (by decide) rfl (fun h17 => ?_) (fun h17 => absurd h17 hl2)
    refine q_iload_n 1 25 dX12_rally_24 rfl rfl rfl ?_
    refine q_iconst 0 26 dX12_rally_25 ic_0 rfl ?_
    refine q_iconst 2 27 dX12_rally_26 ic_2 rfl ?_
    refine q_cSi [] [0, 1, 2] [0, 1, 2] 30 (wr := [_, _, _]) (w1 := _) (ws' := [_, _, _]) c_isIn m_X12_70 dX12_rally_27 rfl rfl rfl rfl rfl (by decide) (by decide) (by decide) (by decide) (Nat.le_of_ble_eq_true rfl) (by omega) (by omega) (by omega) rfl ?_
    refine q_if_ne 37 33 dX12_rally_30 (by decide) rfl (fun h30 => ?_) (fun h30 => absurd h30 hi)
    refine q_aload_n 0 38 dX12_rally_37 rfl rfl rfl ?_
    refine q_cVi 0 [0, 1, 2] [] [0, 1, 2] 41 (wr := []) (w1 := _) (ws' := [_, _, _]) c_M_isOver m_X12_227 dX12_rally_38 rfl rfl rfl rfl rfl rfl rfl rfl (by decide) (by decide) (by decide) (by decide) (Nat.le_of_ble_eq_true rfl) (by omega) (by omega) (by omega) rfl ?_
    refine q_if_eq 48 44 dX12_rally_41 (by decide) rfl (fun h41 => ?_) (fun h41 => absurd ho h41)
    refine q_iconst 0 49 dX12_rally_48 ic_0 rfl ?_
    refine q_putI 0 52 (w' := [_, _, _]) f_X12_67 ft_X12_0 dX12_rally_49 rfl rfl rfl rfl ?_
    refine q_aload_n 0 53 dX12_rally_52 rfl rfl rfl ?_
    refine q_getI 0 56 f_X12_67 dX12_rally_53 rfl rfl rfl ?_
    refine q_if_le 61 59 dX12_rally_56 (by decide) rfl (fun h56 => ?_) (fun h56 => absurd (by show (0 : Int32) ≤ 0; decide) h56)
    refine q_aload_n 0 62 dX12_rally_61 rfl rfl rfl ?_
    refine q_getR 0 65 f_X12_29 dX12_rally_62 rfl rfl rfl rfl ?_
    refine q_iconst 2 66 dX12_rally_65 ic_2 rfl ?_
    refine q_iald 2 2 67 dX12_rally_66 rfl ⟨rfl, by omega, by decide⟩ rfl ?_
    refine q_istore_n 3 68 (L' := [_, _, _, _]) dX12_rally_67 rfl (by decide) rfl rfl ?_
    refine q_aload_n 0 69 dX12_rally_68 rfl rfl rfl ?_
    refine q_iload_n 1 70 dX12_rally_69 rfl rfl rfl ?_
    refine q_iconst 2 71 dX12_rally_70 ic_2 rfl ?_
    refine q_icmp_ne 80 74 dX12_rally_71 (by decide) rfl (fun h71 => absurd h2 h71) (fun h71 => ?_)
    refine q_iconst 2 75 dX12_rally_74 ic_2 rfl ?_
    refine q_iload_n 2 76 dX12_rally_75 rfl rfl rfl ?_
    refine q_iadd 77 dX12_rally_76 rfl ?_
    refine q_goto 81 dX12_rally_77 (by decide) ?_
    refine q_cVv 0 [0, 1, 2] [] [0, 1, 2] 84 (wr := []) (w1 := _) (ws' := [_, _, _]) (c_M_rallies hs) m_X12_230 dX12_rally_81 rfl rfl rfl rfl rfl rfl rfl rfl (by decide) (by decide) (by decide) (by decide) (Nat.le_of_ble_eq_true rfl) (by omega) (by omega) (by omega) rfl ?_
    refine q_aload_n 0 85 dX12_rally_84 rfl rfl rfl ?_
    refine q_cVv 0 [0, 1, 2] [] [0, 1, 2] 88 (wr := []) (w1 := _) (ws' := [_, _, _]) c_M_puts m_X12_233 dX12_rally_85 rfl rfl rfl rfl rfl rfl rfl rfl (by decide) (by decide) (by decide) (by decide) (Nat.le_of_ble_eq_true rfl) (by omega) (by omega) (by omega) rfl ?_
    refine q_aload_n 0 89 dX12_rally_88 rfl rfl rfl ?_
    refine q_getI 0 92 f_X12_212 dX12_rally_89 rfl rfl rfl ?_
    refine q_iconst (-1) 93 dX12_rally_92 ic_m1 rfl ?_
    refine q_icmp_ne 100 96 dX12_rally_93 (by decide) rfl (fun hz => ?_) (fun hz => ?_)
    · refine q_aload_n 0 101 dX12_rally_100 rfl rfl rfl ?_
      refine q_getI 0 104 f_X12_212 dX12_rally_101 rfl rfl rfl ?_
      refine q_iload_n 3 105 dX12_rally_104 rfl rfl rfl ?_
      refine q_icmp_ne 112 108 dX12_rally_105 (by decide) rfl (fun hy => ?_) (fun hy => ?_)
      · refine q_iconst 2 113 dX12_rally_112 ic_2 rfl ?_
        refine q_ireturn dX12_rally_113 rfl ?_
        first
        | (rw [if_neg hz, if_pos hy]; exact pR.mk rfl rfl)
        | (rw [if_neg hz, if_neg hy]; exact pR.mk rfl rfl)
        | (rw [if_pos hz]; exact pR.mk rfl rfl)
      · refine q_iconst 1 109 dX12_rally_108 ic_1 rfl ?_
        refine q_goto 113 dX12_rally_109 (by decide) ?_
        refine q_ireturn dX12_rally_113 rfl ?_
        first
        | (rw [if_neg hz, if_pos hy]; exact pR.mk rfl rfl)
        | (rw [if_neg hz, if_neg hy]; exact pR.mk rfl rfl)
        | (rw [if_pos hz]; exact pR.mk rfl rfl)
    · refine q_iconst 0 97 dX12_rally_96 ic_0 rfl ?_
      refine q_goto 113 dX12_rally_97 (by decide) ?_
      refine q_ireturn dX12_rally_113 rfl ?_
      first
      | (rw [if_neg hz, if_pos hy]; exact pR.mk rfl rfl)
      | (rw [if_neg hz, if_neg hy]; exact pR.mk rfl rfl)
      | (rw [if_pos hz]; exact pR.mk rfl rfl)
  · rw [show raH hw ln = hw from if_neg h2]
    refine q_aload_n 0 1 dX12_rally_0 rfl rfl rfl ?_
    refine q_cVv 0 [0, 1, 2] [] [0, 1, 2] 4 (wr := []) (w1 := _) (ws' := [_, _, _]) c_M_takes m_X12_200 dX12_rally_1 rfl rfl rfl rfl rfl rfl rfl rfl (by decide) (by decide) (by decide) (by decide) (Nat.le_of_ble_eq_true rfl) (by omega) (by omega) (by omega) rfl ?_
    refine q_aload_n 0 5 dX12_rally_4 rfl rfl rfl ?_
    refine q_iload_n 1 6 dX12_rally_5 rfl rfl rfl ?_
    refine q_iconst 2 7 dX12_rally_6 ic_2 rfl ?_
    refine q_icmp_ne 24 10 dX12_rally_7 (by decide) rfl (fun h7 => ?_) (fun h7 => absurd h7 h2)
    refine q_iload_n 1 25 dX12_rally_24 rfl rfl rfl ?_
    refine q_iconst 0 26 dX12_rally_25 ic_0 rfl ?_
    refine q_iconst 2 27 dX12_rally_26 ic_2 rfl ?_
    refine q_cSi [] [0, 1, 2] [0, 1, 2] 30 (wr := [_, _, _]) (w1 := _) (ws' := [_, _, _]) c_isIn m_X12_70 dX12_rally_27 rfl rfl rfl rfl rfl (by decide) (by decide) (by decide) (by decide) (Nat.le_of_ble_eq_true rfl) (by omega) (by omega) (by omega) rfl ?_
    refine q_if_ne 37 33 dX12_rally_30 (by decide) rfl (fun h30 => ?_) (fun h30 => absurd h30 hi)
    refine q_aload_n 0 38 dX12_rally_37 rfl rfl rfl ?_
    refine q_cVi 0 [0, 1, 2] [] [0, 1, 2] 41 (wr := []) (w1 := _) (ws' := [_, _, _]) c_M_isOver m_X12_227 dX12_rally_38 rfl rfl rfl rfl rfl rfl rfl rfl (by decide) (by decide) (by decide) (by decide) (Nat.le_of_ble_eq_true rfl) (by omega) (by omega) (by omega) rfl ?_
    refine q_if_eq 48 44 dX12_rally_41 (by decide) rfl (fun h41 => ?_) (fun h41 => absurd ho h41)
    refine q_iconst 0 49 dX12_rally_48 ic_0 rfl ?_
    refine q_putI 0 52 (w' := [_, _, _]) f_X12_67 ft_X12_0 dX12_rally_49 rfl rfl rfl rfl ?_
    refine q_aload_n 0 53 dX12_rally_52 rfl rfl rfl ?_
    refine q_getI 0 56 f_X12_67 dX12_rally_53 rfl rfl rfl ?_
    refine q_if_le 61 59 dX12_rally_56 (by decide) rfl (fun h56 => ?_) (fun h56 => absurd (by show (0 : Int32) ≤ 0; decide) h56)
    refine q_aload_n 0 62 dX12_rally_61 rfl rfl rfl ?_
    refine q_getR 0 65 f_X12_29 dX12_rally_62 rfl rfl rfl rfl ?_
    refine q_iconst 2 66 dX12_rally_65 ic_2 rfl ?_
    refine q_iald 2 2 67 dX12_rally_66 rfl ⟨rfl, by omega, by decide⟩ rfl ?_
    refine q_istore_n 3 68 (L' := [_, _, _, _]) dX12_rally_67 rfl (by decide) rfl rfl ?_
    refine q_aload_n 0 69 dX12_rally_68 rfl rfl rfl ?_
    refine q_iload_n 1 70 dX12_rally_69 rfl rfl rfl ?_
    refine q_iconst 2 71 dX12_rally_70 ic_2 rfl ?_
    refine q_icmp_ne 80 74 dX12_rally_71 (by decide) rfl (fun h71 => ?_) (fun h71 => absurd h71 h2)
    refine q_iload_n 1 81 dX12_rally_80 rfl rfl rfl ?_
    refine q_cVv 0 [0, 1, 2] [] [0, 1, 2] 84 (wr := []) (w1 := _) (ws' := [_, _, _]) (c_M_rallies hs) m_X12_230 dX12_rally_81 rfl rfl rfl rfl rfl rfl rfl rfl (by decide) (by decide) (by decide) (by decide) (Nat.le_of_ble_eq_true rfl) (by omega) (by omega) (by omega) rfl ?_
    refine q_aload_n 0 85 dX12_rally_84 rfl rfl rfl ?_
    refine q_cVv 0 [0, 1, 2] [] [0, 1, 2] 88 (wr := []) (w1 := _) (ws' := [_, _, _]) c_M_puts m_X12_233 dX12_rally_85 rfl rfl rfl rfl rfl rfl rfl rfl (by decide) (by decide) (by decide) (by decide) (Nat.le_of_ble_eq_true rfl) (by omega) (by omega) (by omega) rfl ?_
    refine q_aload_n 0 89 dX12_rally_88 rfl rfl rfl ?_
    refine q_getI 0 92 f_X12_212 dX12_rally_89 rfl rfl rfl ?_
    refine q_iconst (-1) 93 dX12_rally_92 ic_m1 rfl ?_
    refine q_icmp_ne 100 96 dX12_rally_93 (by decide) rfl (fun hz => ?_) (fun hz => ?_)
    · refine q_aload_n 0 101 dX12_rally_100 rfl rfl rfl ?_
      refine q_getI 0 104 f_X12_212 dX12_rally_101 rfl rfl rfl ?_
      refine q_iload_n 3 105 dX12_rally_104 rfl rfl rfl ?_
      refine q_icmp_ne 112 108 dX12_rally_105 (by decide) rfl (fun hy => ?_) (fun hy => ?_)
      · refine q_iconst 2 113 dX12_rally_112 ic_2 rfl ?_
        refine q_ireturn dX12_rally_113 rfl ?_
        first
        | (rw [if_neg hz, if_pos hy]; exact pR.mk rfl rfl)
        | (rw [if_neg hz, if_neg hy]; exact pR.mk rfl rfl)
        | (rw [if_pos hz]; exact pR.mk rfl rfl)
      · refine q_iconst 1 109 dX12_rally_108 ic_1 rfl ?_
        refine q_goto 113 dX12_rally_109 (by decide) ?_
        refine q_ireturn dX12_rally_113 rfl ?_
        first
        | (rw [if_neg hz, if_pos hy]; exact pR.mk rfl rfl)
        | (rw [if_neg hz, if_neg hy]; exact pR.mk rfl rfl)
        | (rw [if_pos hz]; exact pR.mk rfl rfl)
    · refine q_iconst 0 97 dX12_rally_96 ic_0 rfl ?_
      refine q_goto 113 dX12_rally_97 (by decide) ?_
      refine q_ireturn dX12_rally_113 rfl ?_
      first
      | (rw [if_neg hz, if_pos hy]; exact pR.mk rfl rfl)
      | (rw [if_neg hz, if_neg hy]; exact pR.mk rfl rfl)
      | (rw [if_pos hz]; exact pR.mk rfl rfl)

