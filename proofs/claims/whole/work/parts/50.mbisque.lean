/-! ===== bisque ===== -/
def bqT (m X : Nat → Int32) (p : Int32) : Int32 := if rIn p 0 1 = 0 then 1 else if rOver m X = 0 then 0 else 2
theorem p_bisque0 {l : Launch} {g : Gh} {q : Nat} {A : Nat → Nat} {i m x : Nat → Int32} {p : Int32} (hth : ¬ bqT m (rTake m x) p = 0) : Cp l g yX12_bisque (Cond.code yX12_bisque cX12_bisque 2 (some .boolean)) 4 [.ref q, .int p] [(q, ob 12 (i) (rM A)), (A 1, aI g 2616 (m)), (A 16, aI g 9 (x))] (some (.int 0)) [(q, ob 12 (upd i 0 (bqT m (rTake m x) p)) (rM A)), (A 1, aI g 2616 (m)), (A 16, aI g 9 (rTake m x))] := by
  refine ct_of (M := mtX12_bisque) [some (.ref q), some (.int p)] rfl (by decide) (Nat.le_of_ble_eq_true rfl) (fun _ h => h) (fun a => ?_)
  by_cases hp : rIn p 0 1 = 0
  · rw [show bqT m (rTake m x) p = 1 from if_pos hp]
    refine q_aload_n 0 1 dX12_bisque_0 rfl rfl rfl ?_
    refine q_cVv 0 [0, 1, 2] [] [0, 1, 2] 4 (wr := []) (w1 := _) (ws' := [_, _, _]) c_M_takes m_X12_200 dX12_bisque_1 rfl rfl rfl rfl rfl rfl rfl rfl (by decide) (by decide) (by decide) (by decide) (Nat.le_of_ble_eq_true rfl) (by omega) (by omega) (by omega) rfl ?_
    refine q_aload_n 0 5 dX12_bisque_4 rfl rfl rfl ?_
    refine q_iload_n 1 6 dX12_bisque_5 rfl rfl rfl ?_
    refine q_cSi [] [0, 1, 2] [0, 1, 2] 9 (wr := [_, _, _]) (w1 := _) (ws' := [_, _, _]) c_isPlayer m_X12_197 dX12_bisque_6 rfl rfl rfl rfl rfl (by decide) (by decide) (by decide) (by decide) (Nat.le_of_ble_eq_true rfl) (by omega) (by omega) (by omega) rfl ?_
    refine q_if_ne 16 12 dX12_bisque_9 (by decide) rfl (fun h9 => absurd hp h9) (fun h9 => ?_)
    refine q_iconst 1 13 dX12_bisque_12 ic_1 rfl ?_
    refine q_goto 28 dX12_bisque_13 (by decide) ?_
    refine q_putI 0 31 (w' := [_, _, _]) f_X12_67 ft_X12_0 dX12_bisque_28 rfl rfl rfl rfl ?_
    refine q_aload_n 0 32 dX12_bisque_31 rfl rfl rfl ?_
    refine q_getI 0 35 f_X12_67 dX12_bisque_32 rfl rfl rfl ?_
    refine q_if_le 40 38 dX12_bisque_35 (by decide) rfl (fun h35 => absurd h35 (by show ¬ (1 : Int32) ≤ 0; decide)) (fun h35 => ?_)
    refine q_iconst 0 39 dX12_bisque_38 ic_0 rfl ?_
    refine q_zreturn dX12_bisque_39 rfl (Or.inl rfl) ?_
    exact pR.rf
  · have ho : ¬ rOver m (rTake m x) = 0 := fun h => hth ((if_neg hp).trans (if_pos h))
    rw [show bqT m (rTake m x) p = 2 from (if_neg hp).trans (if_neg ho)]
    refine q_aload_n 0 1 dX12_bisque_0 rfl rfl rfl ?_
    refine q_cVv 0 [0, 1, 2] [] [0, 1, 2] 4 (wr := []) (w1 := _) (ws' := [_, _, _]) c_M_takes m_X12_200 dX12_bisque_1 rfl rfl rfl rfl rfl rfl rfl rfl (by decide) (by decide) (by decide) (by decide) (Nat.le_of_ble_eq_true rfl) (by omega) (by omega) (by omega) rfl ?_
    refine q_aload_n 0 5 dX12_bisque_4 rfl rfl rfl ?_
    refine q_iload_n 1 6 dX12_bisque_5 rfl rfl rfl ?_
    refine q_cSi [] [0, 1, 2] [0, 1, 2] 9 (wr := [_, _, _]) (w1 := _) (ws' := [_, _, _]) c_isPlayer m_X12_197 dX12_bisque_6 rfl rfl rfl rfl rfl (by decide) (by decide) (by decide) (by decide) (Nat.le_of_ble_eq_true rfl) (by omega) (by omega) (by omega) rfl ?_
    refine q_if_ne 16 12 dX12_bisque_9 (by decide) rfl (fun h9 => ?_) (fun h9 => absurd h9 hp)
    refine q_aload_n 0 17 dX12_bisque_16 rfl rfl rfl ?_
    refine q_cVi 0 [0, 1, 2] [] [0, 1, 2] 20 (wr := []) (w1 := _) (ws' := [_, _, _]) c_M_isOver m_X12_227 dX12_bisque_17 rfl rfl rfl rfl rfl rfl rfl rfl (by decide) (by decide) (by decide) (by decide) (Nat.le_of_ble_eq_true rfl) (by omega) (by omega) (by omega) rfl ?_
    refine q_if_eq 27 23 dX12_bisque_20 (by decide) rfl (fun h20 => absurd h20 ho) (fun h20 => ?_)
    refine q_iconst 2 24 dX12_bisque_23 ic_2 rfl ?_
    refine q_goto 28 dX12_bisque_24 (by decide) ?_
    refine q_putI 0 31 (w' := [_, _, _]) f_X12_67 ft_X12_0 dX12_bisque_28 rfl rfl rfl rfl ?_
    refine q_aload_n 0 32 dX12_bisque_31 rfl rfl rfl ?_
    refine q_getI 0 35 f_X12_67 dX12_bisque_32 rfl rfl rfl ?_
    refine q_if_le 40 38 dX12_bisque_35 (by decide) rfl (fun h35 => absurd h35 (by show ¬ (2 : Int32) ≤ 0; decide)) (fun h35 => ?_)
    refine q_iconst 0 39 dX12_bisque_38 ic_0 rfl ?_
    refine q_zreturn dX12_bisque_39 rfl (Or.inl rfl) ?_
    exact pR.rf
theorem p_bisque1 {l : Launch} {g : Gh} {q : Nat} {A : Nat → Nat} {i m x : Nat → Int32} {p : Int32} (hp : p = 0 ∨ p = 1) (ho : rOver m (rTake m x) = 0) : Cp l g yX12_bisque (Cond.code yX12_bisque cX12_bisque 2 (some .boolean)) 4 [.ref q, .int p] [(q, ob 12 (i) (rM A)), (A 1, aI g 2616 (m)), (A 16, aI g 9 (x))] (some (.int (if iBis (upd i 0 0) (rTake m x) p 17 = -1 then 0 else 1))) [(q, ob 12 (iBis (upd i 0 0) (rTake m x) p) (rM A)), (A 1, aI g 2616 (rPut m (rBis m (rTake m x) p) 9)), (A 16, aI g 9 (rBis m (rTake m x) p))] := by
  refine ct_of (M := mtX12_bisque) [some (.ref q), some (.int p)] rfl (by decide) (Nat.le_of_ble_eq_true rfl) (fun _ h => h) (fun a => ?_)
  have h1 : ¬ rIn p 0 1 = 0 := by rcases hp with h | h <;> subst h <;> decide
  refine q_aload_n 0 1 dX12_bisque_0 rfl rfl rfl ?_
  refine q_cVv 0 [0, 1, 2] [] [0, 1, 2] 4 (wr := []) (w1 := _) (ws' := [_, _, _]) c_M_takes m_X12_200 dX12_bisque_1 rfl rfl rfl rfl rfl rfl rfl rfl (by decide) (by decide) (by decide) (by decide) (Nat.le_of_ble_eq_true rfl) (by omega) (by omega) (by omega) rfl ?_
  refine q_aload_n 0 5 dX12_bisque_4 rfl rfl rfl ?_
  refine q_iload_n 1 6 dX12_bisque_5 rfl rfl rfl ?_
  refine q_cSi [] [0, 1, 2] [0, 1, 2] 9 (wr := [_, _, _]) (w1 := _) (ws' := [_, _, _]) c_isPlayer m_X12_197 dX12_bisque_6 rfl rfl rfl rfl rfl (by decide) (by decide) (by decide) (by decide) (Nat.le_of_ble_eq_true rfl) (by omega) (by omega) (by omega) rfl ?_
  refine q_if_ne 16 12 dX12_bisque_9 (by decide) rfl (fun h9 => ?_) (fun h9 => absurd h9 h1)
  refine q_aload_n 0 17 dX12_bisque_16 rfl rfl rfl ?_
  refine q_cVi 0 [0, 1, 2] [] [0, 1, 2] 20 (wr := []) (w1 := _) (ws' := [_, _, _]) c_M_isOver m_X12_227 dX12_bisque_17 rfl rfl rfl rfl rfl rfl rfl rfl (by decide) (by decide) (by decide) (by decide) (Nat.le_of_ble_eq_true rfl) (by omega) (by omega) (by omega) rfl ?_
  refine q_if_eq 27 23 dX12_bisque_20 (by decide) rfl (fun h20 => ?_) (fun h20 => absurd ho h20)
  refine q_iconst 0 28 dX12_bisque_27 ic_0 rfl ?_
  refine q_putI 0 31 (w' := [_, _, _]) f_X12_67 ft_X12_0 dX12_bisque_28 rfl rfl rfl rfl ?_
  refine q_aload_n 0 32 dX12_bisque_31 rfl rfl rfl ?_
  refine q_getI 0 35 f_X12_67 dX12_bisque_32 rfl rfl rfl ?_
  refine q_if_le 40 38 dX12_bisque_35 (by decide) rfl (fun h35 => ?_) (fun h35 => absurd (by show (0 : Int32) ≤ 0; decide) h35)
  refine q_aload_n 0 41 dX12_bisque_40 rfl rfl rfl ?_
  refine q_iload_n 1 42 dX12_bisque_41 rfl rfl rfl ?_
  refine q_cVv 0 [0, 1, 2] [] [0, 1, 2] 45 (wr := []) (w1 := _) (ws' := [_, _, _]) (c_M_takesBisque hp) m_X12_236 dX12_bisque_42 rfl rfl rfl rfl rfl rfl rfl rfl (by decide) (by decide) (by decide) (by decide) (Nat.le_of_ble_eq_true rfl) (by omega) (by omega) (by omega) rfl ?_
  refine q_aload_n 0 46 dX12_bisque_45 rfl rfl rfl ?_
  refine q_cVv 0 [0, 1, 2] [] [0, 1, 2] 49 (wr := []) (w1 := _) (ws' := [_, _, _]) c_M_puts m_X12_233 dX12_bisque_46 rfl rfl rfl rfl rfl rfl rfl rfl (by decide) (by decide) (by decide) (by decide) (Nat.le_of_ble_eq_true rfl) (by omega) (by omega) (by omega) rfl ?_
  refine q_aload_n 0 50 dX12_bisque_49 rfl rfl rfl ?_
  refine q_getI 0 53 f_X12_215 dX12_bisque_50 rfl rfl rfl ?_
  refine q_iconst (-1) 54 dX12_bisque_53 ic_m1 rfl ?_
  refine q_icmp_eq 61 57 dX12_bisque_54 (by decide) rfl (fun hz => ?_) (fun hz => ?_)
  · refine q_iconst 0 62 dX12_bisque_61 ic_0 rfl ?_
    refine q_zreturn dX12_bisque_62 rfl (Or.inl rfl) ?_
    first
      | (rw [if_pos hz]; exact pR.mk rfl rfl)
      | (rw [if_neg hz]; exact pR.mk rfl rfl)
  · refine q_iconst 1 58 dX12_bisque_57 ic_1 rfl ?_
    refine q_goto 62 dX12_bisque_58 (by decide) ?_
    refine q_zreturn dX12_bisque_62 rfl (Or.inr rfl) ?_
    first
      | (rw [if_pos hz]; exact pR.mk rfl rfl)
      | (rw [if_neg hz]; exact pR.mk rfl rfl)

