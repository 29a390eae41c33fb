/-! ===== canBe, atNow, refuses, beginNumber ===== -/
def cbA (k : Int32) : Int32 := k / 1936 - 3
def cbB (k : Int32) : Int32 := k / 242 - k / 242 / 8 * 8 - 3
def rCan (k : Int32) : Int32 := if (cbA k < 4 ∨ cbB k = 3) ∧ (cbB k < 4 ∨ cbA k = 3) then 1 else 0
theorem p_canBe {l : Launch} {g : Gh} {k : Int32} : Cp l g yX12_canBe (Cond.code yX12_canBe cX12_canBe 3 (some .boolean)) 1 [.int k] [] (some (.int (rCan k))) [] := by
  refine ct_of (M := mtX12_canBe) [some (.int k), none, none] rfl (by decide) (Nat.le_of_ble_eq_true rfl) (fun _ h => h) (fun a => ?_)
  have K : ∀ a0 b0 : Int32, a0 = cbA k → b0 = cbB k → WPs l g mtX12_canBe 1 0 0 (pR (some (.int (rCan k))) []) noX a 19 [some (.int k), some (.int b0), some (.int a0)] [] [] 0 0 := by
    intro a0 b0 ha hb
    unfold rCan
    rw [← ha, ← hb]
    refine q_iload_n 2 20 dX12_canBe_19 rfl rfl rfl ?_
    refine q_iconst 4 21 dX12_canBe_20 ic_4 rfl ?_
    refine q_icmp_lt 29 24 dX12_canBe_21 (by decide) rfl (fun hz1 => ?_) (fun hz1 => ?_)
    · refine q_iload_n 1 30 dX12_canBe_29 rfl rfl rfl ?_
      refine q_iconst 4 31 dX12_canBe_30 ic_4 rfl ?_
      refine q_icmp_lt 39 34 dX12_canBe_31 (by decide) rfl (fun hz3 => ?_) (fun hz3 => ?_)
      · refine q_iconst 1 40 dX12_canBe_39 ic_1 rfl ?_
        refine q_goto 44 dX12_canBe_40 (by decide) ?_
        refine q_zreturn dX12_canBe_44 rfl (Or.inr rfl) ?_
        refine pR.mk ?_ rfl
        clear ha hb
        first
          | (simp_all; done)
          | (rw [if_neg (fun z => z.1.elim hz1 hz2)])
      · refine q_iload_n 2 35 dX12_canBe_34 rfl rfl rfl ?_
        refine q_iconst 3 36 dX12_canBe_35 ic_3 rfl ?_
        refine q_icmp_ne 43 39 dX12_canBe_36 (by decide) rfl (fun hz4 => ?_) (fun hz4 => ?_)
        · refine q_iconst 0 44 dX12_canBe_43 ic_0 rfl ?_
          refine q_zreturn dX12_canBe_44 rfl (Or.inl rfl) ?_
          refine pR.mk ?_ rfl
          clear ha hb
          first
            | (simp_all; done)
            | (rw [if_neg (fun z => z.1.elim hz1 hz2)])
        · refine q_iconst 1 40 dX12_canBe_39 ic_1 rfl ?_
          refine q_goto 44 dX12_canBe_40 (by decide) ?_
          refine q_zreturn dX12_canBe_44 rfl (Or.inr rfl) ?_
          refine pR.mk ?_ rfl
          clear ha hb
          first
            | (simp_all; done)
            | (rw [if_neg (fun z => z.1.elim hz1 hz2)])
    · refine q_iload_n 1 25 dX12_canBe_24 rfl rfl rfl ?_
      refine q_iconst 3 26 dX12_canBe_25 ic_3 rfl ?_
      refine q_icmp_ne 43 29 dX12_canBe_26 (by decide) rfl (fun hz2 => ?_) (fun hz2 => ?_)
      · refine q_iconst 0 44 dX12_canBe_43 ic_0 rfl ?_
        refine q_zreturn dX12_canBe_44 rfl (Or.inl rfl) ?_
        refine pR.mk ?_ rfl
        clear ha hb
        first
          | (simp_all; done)
          | (rw [if_neg (fun z => z.1.elim hz1 hz2)])
      · refine q_iload_n 1 30 dX12_canBe_29 rfl rfl rfl ?_
        refine q_iconst 4 31 dX12_canBe_30 ic_4 rfl ?_
        refine q_icmp_lt 39 34 dX12_canBe_31 (by decide) rfl (fun hz3 => ?_) (fun hz3 => ?_)
        · refine q_iconst 1 40 dX12_canBe_39 ic_1 rfl ?_
          refine q_goto 44 dX12_canBe_40 (by decide) ?_
          refine q_zreturn dX12_canBe_44 rfl (Or.inr rfl) ?_
          refine pR.mk ?_ rfl
          clear ha hb
          first
            | (simp_all; done)
            | (rw [if_neg (fun z => z.1.elim hz1 hz2)])
        · refine q_iload_n 2 35 dX12_canBe_34 rfl rfl rfl ?_
          refine q_iconst 3 36 dX12_canBe_35 ic_3 rfl ?_
          refine q_icmp_ne 43 39 dX12_canBe_36 (by decide) rfl (fun hz4 => ?_) (fun hz4 => ?_)
          · refine q_iconst 0 44 dX12_canBe_43 ic_0 rfl ?_
            refine q_zreturn dX12_canBe_44 rfl (Or.inl rfl) ?_
            refine pR.mk ?_ rfl
            clear ha hb
            first
              | (simp_all; done)
              | (rw [if_neg (fun z => z.1.elim hz1 hz2)])
          · refine q_iconst 1 40 dX12_canBe_39 ic_1 rfl ?_
            refine q_goto 44 dX12_canBe_40 (by decide) ?_
            refine q_zreturn dX12_canBe_44 rfl (Or.inr rfl) ?_
            refine pR.mk ?_ rfl
            clear ha hb
            first
              | (simp_all; done)
              | (rw [if_neg (fun z => z.1.elim hz1 hz2)])
  refine q_iload_n 0 1 dX12_canBe_0 rfl rfl rfl ?_
  refine q_sipush 242 4 dX12_canBe_1 sc_242 rfl ?_
  refine q_idiv 5 dX12_canBe_4 (by decide) rfl ?_
  refine q_bipush 8 7 dX12_canBe_5 bc_8 rfl ?_
  refine q_irem 8 dX12_canBe_7 (by decide) rfl ?_
  refine q_iconst 3 9 dX12_canBe_8 ic_3 rfl ?_
  refine q_isub 10 dX12_canBe_9 rfl ?_
  refine q_istore_n 1 11 (L' := [_, _, _]) dX12_canBe_10 rfl (by decide) rfl rfl ?_
  refine q_iload_n 0 12 dX12_canBe_11 rfl rfl rfl ?_
  refine q_sipush 1936 15 dX12_canBe_12 sc_1936 rfl ?_
  refine q_idiv 16 dX12_canBe_15 (by decide) rfl ?_
  refine q_iconst 3 17 dX12_canBe_16 ic_3 rfl ?_
  refine q_isub 18 dX12_canBe_17 rfl ?_
  refine q_istore_n 2 19 (L' := [_, _, _]) dX12_canBe_18 rfl (by decide) rfl rfl ?_
  exact K _ _ rfl rfl
theorem p_atNow {l : Launch} {g : Gh} {q : Nat} {A : Nat → Nat} {i m x : Nat → Int32} : Cp l g yX12_atNow (Cond.code yX12_atNow cX12_atNow 1 (some .int)) 2 [.ref q] [(q, ob 12 (i) (rM A)), (A 1, aI g 2616 (m)), (A 16, aI g 9 (x))] (some (.int (rNum (rTake m x)))) [(q, ob 12 (i) (rM A)), (A 1, aI g 2616 (m)), (A 16, aI g 9 (rTake m x))] := by
  refine ct_of (M := mtX12_atNow) [some (.ref q)] rfl (by decide) (Nat.le_of_ble_eq_true rfl) (fun _ h => h) (fun a => ?_)
  refine q_aload_n 0 1 dX12_atNow_0 rfl rfl rfl ?_
  refine q_cVv 0 [0, 1, 2] [] [0, 1, 2] 4 (wr := []) (w1 := _) (ws' := [_, _, _]) c_M_takes m_X12_200 dX12_atNow_1 rfl rfl rfl rfl rfl rfl rfl rfl (by decide) (by decide) (by decide) (by decide) (Nat.le_of_ble_eq_true rfl) (by omega) (by omega) (by omega) rfl ?_
  refine q_aload_n 0 5 dX12_atNow_4 rfl rfl rfl ?_
  refine q_cVi 0 [0, 2] [1] [1, 0, 2] 8 (wr := [_]) (w1 := _) (ws' := [_, _, _]) c_M_number m_X12_242 dX12_atNow_5 rfl rfl rfl rfl rfl rfl rfl rfl (by decide) (by decide) (by decide) (by decide) (Nat.le_of_ble_eq_true rfl) (by omega) (by omega) (by omega) rfl ?_
  refine q_ireturn dX12_atNow_8 rfl ?_
  exact pR.rf
def reT (m X : Nat → Int32) (p n : Int32) : Int32 := if rIn p 0 1 = 0 then 1 else if rIn n 0 30 = 0 then 2 else if rOver m X = 0 then 0 else 3
theorem p_refuses {l : Launch} {g : Gh} {q : Nat} {A : Nat → Nat} {i m x : Nat → Int32} {p n : Int32} : Cp l g yX12_refuses (Cond.code yX12_refuses cX12_refuses 3 (some .int)) 3 [.ref q, .int p, .int n] [(q, ob 12 (i) (rM A)), (A 1, aI g 2616 (m)), (A 16, aI g 9 (x))] (some (.int (reT m (rTake m x) p n))) [(q, ob 12 (i) (rM A)), (A 1, aI g 2616 (m)), (A 16, aI g 9 (rTake m x))] := by
  refine ct_of (M := mtX12_refuses) [some (.ref q), some (.int p), some (.int n)] rfl (by decide) (Nat.le_of_ble_eq_true rfl) (fun _ h => h) (fun a => ?_)
  unfold reT
  refine q_aload_n 0 1 dX12_refuses_0 rfl rfl rfl ?_
  refine q_cVv 0 [0, 1, 2] [] [0, 1, 2] 4 (wr := []) (w1 := _) (ws' := [_, _, _]) c_M_takes m_X12_200 dX12_refuses_1 rfl rfl rfl rfl rfl rfl rfl rfl (by decide) (by decide) (by decide) (by decide) (Nat.le_of_ble_eq_true rfl) (by omega) (by omega) (by omega) rfl ?_
  refine q_iload_n 1 5 dX12_refuses_4 rfl rfl rfl ?_
  refine q_cSi [] [0, 1, 2] [0, 1, 2] 8 (wr := [_, _, _]) (w1 := _) (ws' := [_, _, _]) c_isPlayer m_X12_197 dX12_refuses_5 rfl rfl rfl rfl rfl (by decide) (by decide) (by decide) (by decide) (Nat.le_of_ble_eq_true rfl) (by omega) (by omega) (by omega) rfl ?_
  refine q_if_ne 15 11 dX12_refuses_8 (by decide) rfl (fun hz1 => ?_) (fun hz1 => ?_)
  · refine q_iload_n 2 16 dX12_refuses_15 rfl rfl rfl ?_
    refine q_iconst 0 17 dX12_refuses_16 ic_0 rfl ?_
    refine q_bipush 30 19 dX12_refuses_17 bc_30 rfl ?_
    refine q_cSi [] [0, 1, 2] [0, 1, 2] 22 (wr := [_, _, _]) (w1 := _) (ws' := [_, _, _]) c_isIn m_X12_70 dX12_refuses_19 rfl rfl rfl rfl rfl (by decide) (by decide) (by decide) (by decide) (Nat.le_of_ble_eq_true rfl) (by omega) (by omega) (by omega) rfl ?_
    refine q_if_ne 29 25 dX12_refuses_22 (by decide) rfl (fun hz2 => ?_) (fun hz2 => ?_)
    · refine q_aload_n 0 30 dX12_refuses_29 rfl rfl rfl ?_
      refine q_cVi 0 [0, 1, 2] [] [0, 1, 2] 33 (wr := []) (w1 := _) (ws' := [_, _, _]) c_M_isOver m_X12_227 dX12_refuses_30 rfl rfl rfl rfl rfl rfl rfl rfl (by decide) (by decide) (by decide) (by decide) (Nat.le_of_ble_eq_true rfl) (by omega) (by omega) (by omega) rfl ?_
      refine q_if_eq 40 36 dX12_refuses_33 (by decide) rfl (fun hz3 => ?_) (fun hz3 => ?_)
      · refine q_iconst 0 41 dX12_refuses_40 ic_0 rfl ?_
        refine q_ireturn dX12_refuses_41 rfl ?_
        first
          | (rw [if_neg hz1, if_neg hz2, if_pos hz3]; exact pR.mk rfl rfl)
          | (rw [if_neg hz1, if_neg hz2, if_neg hz3]; exact pR.mk rfl rfl)
          | (rw [if_neg hz1, if_pos hz2]; exact pR.mk rfl rfl)
          | (rw [if_pos hz1]; exact pR.mk rfl rfl)
      · refine q_iconst 3 37 dX12_refuses_36 ic_3 rfl ?_
        refine q_goto 41 dX12_refuses_37 (by decide) ?_
        refine q_ireturn dX12_refuses_41 rfl ?_
        first
          | (rw [if_neg hz1, if_neg hz2, if_pos hz3]; exact pR.mk rfl rfl)
          | (rw [if_neg hz1, if_neg hz2, if_neg hz3]; exact pR.mk rfl rfl)
          | (rw [if_neg hz1, if_pos hz2]; exact pR.mk rfl rfl)
          | (rw [if_pos hz1]; exact pR.mk rfl rfl)
    · refine q_iconst 2 26 dX12_refuses_25 ic_2 rfl ?_
      refine q_goto 41 dX12_refuses_26 (by decide) ?_
      refine q_ireturn dX12_refuses_41 rfl ?_
      first
        | (rw [if_neg hz1, if_neg hz2, if_pos hz3]; exact pR.mk rfl rfl)
        | (rw [if_neg hz1, if_neg hz2, if_neg hz3]; exact pR.mk rfl rfl)
        | (rw [if_neg hz1, if_pos hz2]; exact pR.mk rfl rfl)
        | (rw [if_pos hz1]; exact pR.mk rfl rfl)
  · refine q_iconst 1 12 dX12_refuses_11 ic_1 rfl ?_
    refine q_goto 41 dX12_refuses_12 (by decide) ?_
    refine q_ireturn dX12_refuses_41 rfl ?_
    first
      | (rw [if_neg hz1, if_neg hz2, if_pos hz3]; exact pR.mk rfl rfl)
      | (rw [if_neg hz1, if_neg hz2, if_neg hz3]; exact pR.mk rfl rfl)
      | (rw [if_neg hz1, if_pos hz2]; exact pR.mk rfl rfl)
      | (rw [if_pos hz1]; exact pR.mk rfl rfl)
def bnX (m x : Nat → Int32) (s : Int32) : Nat → Int32 := upd (upd (upd (cp x (fun _ => 0) 9) 0 (- m 197)) 1 (m 198)) 2 s
theorem p_beginNumber {l : Launch} {g : Gh} {q : Nat} {A : Nat → Nat} {i m x : Nat → Int32} {s : Int32} : Cp l g yX12_beginNumber (Cond.code yX12_beginNumber cX12_beginNumber 3 (some .int)) 2 [.ref q, .int s] [(q, ob 12 (i) (rM A)), (A 1, aI g 2616 (m)), (A 16, aI g 9 (x))] (some (.int (rNum (bnX m x s)))) [(q, ob 12 (i) (rM A)), (A 1, aI g 2616 (m)), (A 16, aI g 9 (bnX m x s))] := by
  refine ct_of (M := mtX12_beginNumber) [some (.ref q), some (.int s), none] rfl (by decide) (Nat.le_of_ble_eq_true rfl) (fun _ h => h) (fun a => ?_)
  have K : ∀ (c j : Nat), c + j = 9 → WPs l g mtX12_beginNumber 2 0 0 (pR (some (.int (rNum (bnX m x s)))) [(q, ob 12 (i) (rM A)), (A 1, aI g 2616 (m)), (A 16, aI g 9 (bnX m x s))]) noX a 2 [some (.ref q), some (.int s), some (.int (nI j))] [] [(q, ob 12 (i) (rM A)), (A 1, aI g 2616 (m)), (A 16, aI g 9 (cp x (fun _ => 0) j))] 0 0 := by
    intro c
    induction c with
    | zero =>
      intro j hj
      obtain rfl : j = 9 := by omega
      refine q_iload_n 2 3 dX12_beginNumber_2 rfl rfl rfl ?_
      refine q_bipush 9 5 dX12_beginNumber_3 bc_9 rfl ?_
      refine q_icmp_ge 21 8 dX12_beginNumber_5 (by decide) rfl (fun h5 => ?_) (fun h5 => absurd (by decide) h5)
      refine q_aload_n 0 22 dX12_beginNumber_21 rfl rfl rfl ?_
      refine q_getR 0 25 f_X12_29 dX12_beginNumber_22 rfl rfl rfl rfl ?_
      refine q_iconst 0 26 dX12_beginNumber_25 ic_0 rfl ?_
      refine q_aload_n 0 27 dX12_beginNumber_26 rfl rfl rfl ?_
      refine q_getR 0 30 f_X12_7 dX12_beginNumber_27 rfl rfl rfl rfl ?_
      refine q_sipush 197 33 dX12_beginNumber_30 sc_197 rfl ?_
      refine q_iald 1 197 34 dX12_beginNumber_33 rfl ⟨rfl, by omega, by decide⟩ rfl ?_
      refine q_ineg 35 dX12_beginNumber_34 rfl ?_
      refine q_iast 2 0 36 (w' := [_, _, _]) dX12_beginNumber_35 rfl ⟨rfl, by omega, by decide⟩ rfl rfl ?_
      refine q_aload_n 0 37 dX12_beginNumber_36 rfl rfl rfl ?_
      refine q_getR 0 40 f_X12_29 dX12_beginNumber_37 rfl rfl rfl rfl ?_
      refine q_iconst 1 41 dX12_beginNumber_40 ic_1 rfl ?_
      refine q_aload_n 0 42 dX12_beginNumber_41 rfl rfl rfl ?_
      refine q_getR 0 45 f_X12_7 dX12_beginNumber_42 rfl rfl rfl rfl ?_
      refine q_sipush 198 48 dX12_beginNumber_45 sc_198 rfl ?_
      refine q_iald 1 198 49 dX12_beginNumber_48 rfl ⟨rfl, by omega, by decide⟩ rfl ?_
      refine q_iast 2 1 50 (w' := [_, _, _]) dX12_beginNumber_49 rfl ⟨rfl, by omega, by decide⟩ rfl rfl ?_
      refine q_aload_n 0 51 dX12_beginNumber_50 rfl rfl rfl ?_
      refine q_getR 0 54 f_X12_29 dX12_beginNumber_51 rfl rfl rfl rfl ?_
      refine q_iconst 2 55 dX12_beginNumber_54 ic_2 rfl ?_
      refine q_iload_n 1 56 dX12_beginNumber_55 rfl rfl rfl ?_
      refine q_iast 2 2 57 (w' := [_, _, _]) dX12_beginNumber_56 rfl ⟨rfl, by omega, by decide⟩ rfl rfl ?_
      refine q_aload_n 0 58 dX12_beginNumber_57 rfl rfl rfl ?_
      refine q_cVi 0 [0, 2] [1] [1, 0, 2] 61 (wr := [_]) (w1 := _) (ws' := [_, _, _]) c_M_number m_X12_242 dX12_beginNumber_58 rfl rfl rfl rfl rfl rfl rfl rfl (by decide) (by decide) (by decide) (by decide) (Nat.le_of_ble_eq_true rfl) (by omega) (by omega) (by omega) rfl ?_
      refine q_ireturn dX12_beginNumber_61 rfl ?_
      exact pR.rf
    | succ c ih =>
      intro j hj
      refine q_iload_n 2 3 dX12_beginNumber_2 rfl rfl rfl ?_
      refine q_bipush 9 5 dX12_beginNumber_3 bc_9 rfl ?_
      refine q_icmp_ge 21 8 dX12_beginNumber_5 (by decide) rfl (fun h5 => absurd h5 (nI_ge (a := j) (b := 9) (by omega) (by omega))) (fun h5 => ?_)
      refine q_aload_n 0 9 dX12_beginNumber_8 rfl rfl rfl ?_
      refine q_getR 0 12 f_X12_29 dX12_beginNumber_9 rfl rfl rfl rfl ?_
      refine q_iload_n 2 13 dX12_beginNumber_12 rfl rfl rfl ?_
      refine q_iconst 0 14 dX12_beginNumber_13 ic_0 rfl ?_
      refine q_iast 2 j 15 (w' := [_, _, _]) dX12_beginNumber_14 rfl ⟨rfl, by omega, by decide⟩ rfl rfl ?_
      refine q_iinc 2 (nI (j + 1)) 18 (L' := [_, _, _]) dX12_beginNumber_15 rfl (inc1 (j)) (by decide) rfl rfl ?_
      refine q_goto 2 dX12_beginNumber_18 (by decide) ?_
      rw [show (0 : Int32) = (fun _ => 0 : Nat → Int32) j from rfl, cp_s]; exact ih (j + 1) (by omega)
  have K0 := K 9 0 rfl
  rw [cp_0] at K0
  refine q_iconst 0 1 dX12_beginNumber_0 ic_0 rfl ?_
  refine q_istore_n 2 2 (L' := [_, _, _]) dX12_beginNumber_1 rfl (by decide) rfl rfl ?_
  exact K0

