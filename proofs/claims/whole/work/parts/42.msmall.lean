/-! ===== thrown, end, fault, look, plays ===== -/
theorem rIn_nat {v hi : Int32} {h : Nat} (h31 : h < 2 ^ 31) (hh : hi = nI h) (hr : ¬ rIn v 0 hi = 0) : v = nI v.toNatClampNeg ∧ v.toNatClampNeg ≤ h := by
  have hp : 0 ≤ v ∧ v ≤ hi := by
    by_cases hp : 0 ≤ v ∧ v ≤ hi
    · exact hp
    · exact absurd (if_neg hp) hr
  subst hh
  exact nat_of h31 (Int32.not_lt.mpr hp.1) (Int32.not_lt.mpr hp.2)
theorem p_thrown {l : Launch} {g : Gh} {q : Nat} {A : Nat → Nat} {i : Nat → Int32} : Cp l g yX12_thrown (Cond.code yX12_thrown cX12_thrown 1 (some .int)) 1 [.ref q] [(q, ob 12 i (rM A))] (some (.int (i 0))) [(q, ob 12 i (rM A))] := by
  refine ct_of (M := mtX12_thrown) [some (.ref q)] rfl (by decide) (Nat.le_of_ble_eq_true rfl) (fun _ h => h) (fun a => ?_)
  refine q_aload_n 0 1 dX12_thrown_0 rfl rfl rfl ?_
  refine q_getI 0 4 f_X12_67 dX12_thrown_1 rfl rfl rfl ?_
  refine q_ireturn dX12_thrown_4 rfl ?_
  exact pR.rf
theorem p_fault {l : Launch} {g : Gh} {q : Nat} {A : Nat → Nat} {i : Nat → Int32} : Cp l g yX12_fault (Cond.code yX12_fault cX12_fault 1 (some .int)) 1 [.ref q] [(q, ob 12 i (rM A))] (some (.int (i 10))) [(q, ob 12 (upd i 0 0) (rM A))] := by
  refine ct_of (M := mtX12_fault) [some (.ref q)] rfl (by decide) (Nat.le_of_ble_eq_true rfl) (fun _ h => h) (fun a => ?_)
  refine q_aload_n 0 1 dX12_fault_0 rfl rfl rfl ?_
  refine q_iconst 0 2 dX12_fault_1 ic_0 rfl ?_
  refine q_putI 0 5 (w' := [_]) f_X12_67 ft_X12_0 dX12_fault_2 rfl rfl rfl rfl ?_
  refine q_aload_n 0 6 dX12_fault_5 rfl rfl rfl ?_
  refine q_getI 0 9 f_X12_22 dX12_fault_6 rfl rfl rfl ?_
  refine q_ireturn dX12_fault_9 rfl ?_
  exact pR.rf
def enI (i : Nat → Int32) (n : Int32) : Nat → Int32 := if rIn n 0 (i 6) = 0 then upd i 0 0 else upd (upd i 0 0) 6 n
theorem p_end {l : Launch} {g : Gh} {q : Nat} {A : Nat → Nat} {i : Nat → Int32} {n : Int32} : Cp l g yX12_end (Cond.code yX12_end cX12_end 2 (some .boolean)) 3 [.ref q, .int n] [(q, ob 12 i (rM A))] (some (.int (rIn n 0 (i 6)))) [(q, ob 12 (enI i n) (rM A))] := by
  refine ct_of (M := mtX12_end) [some (.ref q), some (.int n)] rfl (by decide) (Nat.le_of_ble_eq_true rfl) (fun _ h => h) (fun a => ?_)
  unfold enI
  by_cases h : rIn n 0 (i 6) = 0
  · rw [if_pos h]
    refine q_aload_n 0 1 dX12_end_0 rfl rfl rfl ?_
    refine q_iconst 0 2 dX12_end_1 ic_0 rfl ?_
    refine q_putI 0 5 (w' := [_]) f_X12_67 ft_X12_0 dX12_end_2 rfl rfl rfl rfl ?_
    refine q_iload_n 1 6 dX12_end_5 rfl rfl rfl ?_
    refine q_iconst 0 7 dX12_end_6 ic_0 rfl ?_
    refine q_aload_n 0 8 dX12_end_7 rfl rfl rfl ?_
    refine q_getI 0 11 f_X12_74 dX12_end_8 rfl rfl rfl ?_
    refine q_cSi [] [0] [0] 14 (wr := [_]) (w1 := _) (ws' := [_]) c_isIn m_X12_70 dX12_end_11 rfl rfl rfl rfl rfl (by decide) (by decide) (by decide) (by decide) (Nat.le_of_ble_eq_true rfl) (by omega) (by omega) (by omega) rfl ?_
    refine q_if_ne 19 17 dX12_end_14 (by decide) rfl (fun h14 => absurd h h14) (fun h14 => ?_)
    refine q_iconst 0 18 dX12_end_17 ic_0 rfl ?_
    refine q_zreturn dX12_end_18 rfl (Or.inl rfl) ?_
    exact pR.mk (by rw [h]) rfl
  · rw [if_neg h]
    have h9 : rIn n 0 (i 6) = 1 := (rIn_or _ _ _).resolve_left h
    refine q_aload_n 0 1 dX12_end_0 rfl rfl rfl ?_
    refine q_iconst 0 2 dX12_end_1 ic_0 rfl ?_
    refine q_putI 0 5 (w' := [_]) f_X12_67 ft_X12_0 dX12_end_2 rfl rfl rfl rfl ?_
    refine q_iload_n 1 6 dX12_end_5 rfl rfl rfl ?_
    refine q_iconst 0 7 dX12_end_6 ic_0 rfl ?_
    refine q_aload_n 0 8 dX12_end_7 rfl rfl rfl ?_
    refine q_getI 0 11 f_X12_74 dX12_end_8 rfl rfl rfl ?_
    refine q_cSi [] [0] [0] 14 (wr := [_]) (w1 := _) (ws' := [_]) c_isIn m_X12_70 dX12_end_11 rfl rfl rfl rfl rfl (by decide) (by decide) (by decide) (by decide) (Nat.le_of_ble_eq_true rfl) (by omega) (by omega) (by omega) rfl ?_
    refine q_if_ne 19 17 dX12_end_14 (by decide) rfl (fun h14 => ?_) (fun h14 => absurd h14 h)
    refine q_aload_n 0 20 dX12_end_19 rfl rfl rfl ?_
    refine q_iload_n 1 21 dX12_end_20 rfl rfl rfl ?_
    refine q_putI 0 24 (w' := [_]) f_X12_74 ft_X12_6 dX12_end_21 rfl rfl rfl rfl ?_
    refine q_iconst 1 25 dX12_end_24 ic_1 rfl ?_
    refine q_zreturn dX12_end_25 rfl (Or.inr rfl) ?_
    exact pR.mk (by rw [h9]) rfl
def loT (s h w : Int32) : Int32 := if rIn s 0 3 = 0 ∨ rIn h 0 3 = 0 then 1 else if rIn w 0 11 = 0 then 2 else 0
def loV (m : Nat → Int32) (s h w : Int32) : Int32 := if loT s h w = 0 then m (cellOf s h w) else 0
theorem p_look {l : Launch} {g : Gh} {q : Nat} {A : Nat → Nat} {i m : Nat → Int32} {s h w : Int32} : Cp l g yX12_look (Cond.code yX12_look cX12_look 4 (some .int)) 3 [.ref q, .int s, .int h, .int w] [(q, ob 12 i (rM A)), (A 1, aI g 2616 m)] (some (.int (loV m s h w))) [(q, ob 12 (upd i 0 (loT s h w)) (rM A)), (A 1, aI g 2616 m)] := by
  refine ct_of (M := mtX12_look) [some (.ref q), some (.int s), some (.int h), some (.int w)] rfl (by decide) (Nat.le_of_ble_eq_true rfl) (fun _ h => h) (fun a => ?_)
  unfold loV
  by_cases hs : rIn s 0 3 = 0
  · rw [show loT s h w = 1 from if_pos (Or.inl hs), if_neg one_ne0]
    refine q_aload_n 0 1 dX12_look_0 rfl rfl rfl ?_
    refine q_iload_n 1 2 dX12_look_1 rfl rfl rfl ?_
    refine q_iconst 0 3 dX12_look_2 ic_0 rfl ?_
    refine q_iconst 3 4 dX12_look_3 ic_3 rfl ?_
    refine q_cSi [] [0, 1] [0, 1] 7 (wr := [_, _]) (w1 := _) (ws' := [_, _]) c_isIn m_X12_70 dX12_look_4 rfl rfl rfl rfl rfl (by decide) (by decide) (by decide) (by decide) (Nat.le_of_ble_eq_true rfl) (by omega) (by omega) (by omega) rfl ?_
    refine q_if_eq 19 10 dX12_look_7 (by decide) rfl (fun h7 => ?_) (fun h7 => absurd hs h7)
    refine q_iconst 1 20 dX12_look_19 ic_1 rfl ?_
    refine q_goto 38 dX12_look_20 (by decide) ?_
    refine q_putI 0 41 (w' := [_, _]) f_X12_67 ft_X12_0 dX12_look_38 rfl rfl rfl rfl ?_
    refine q_aload_n 0 42 dX12_look_41 rfl rfl rfl ?_
    refine q_getI 0 45 f_X12_67 dX12_look_42 rfl rfl rfl ?_
    refine q_if_le 50 48 dX12_look_45 (by decide) rfl (fun h45 => absurd h45 (by show ¬ (1 : Int32) ≤ 0; decide)) (fun h45 => ?_)
    refine q_iconst 0 49 dX12_look_48 ic_0 rfl ?_
    refine q_ireturn dX12_look_49 rfl ?_
    exact pR.rf
  · by_cases hh : rIn h 0 3 = 0
    · rw [show loT s h w = 1 from if_pos (Or.inr hh), if_neg one_ne0]
      refine q_aload_n 0 1 dX12_look_0 rfl rfl rfl ?_
      refine q_iload_n 1 2 dX12_look_1 rfl rfl rfl ?_
      refine q_iconst 0 3 dX12_look_2 ic_0 rfl ?_
      refine q_iconst 3 4 dX12_look_3 ic_3 rfl ?_
      refine q_cSi [] [0, 1] [0, 1] 7 (wr := [_, _]) (w1 := _) (ws' := [_, _]) c_isIn m_X12_70 dX12_look_4 rfl rfl rfl rfl rfl (by decide) (by decide) (by decide) (by decide) (Nat.le_of_ble_eq_true rfl) (by omega) (by omega) (by omega) rfl ?_
      refine q_if_eq 19 10 dX12_look_7 (by decide) rfl (fun h7 => absurd h7 hs) (fun h7 => ?_)
      refine q_iload_n 2 11 dX12_look_10 rfl rfl rfl ?_
      refine q_iconst 0 12 dX12_look_11 ic_0 rfl ?_
      refine q_iconst 3 13 dX12_look_12 ic_3 rfl ?_
      refine q_cSi [] [0, 1] [0, 1] 16 (wr := [_, _]) (w1 := _) (ws' := [_, _]) c_isIn m_X12_70 dX12_look_13 rfl rfl rfl rfl rfl (by decide) (by decide) (by decide) (by decide) (Nat.le_of_ble_eq_true rfl) (by omega) (by omega) (by omega) rfl ?_
      refine q_if_ne 23 19 dX12_look_16 (by decide) rfl (fun h16 => absurd hh h16) (fun h16 => ?_)
      refine q_iconst 1 20 dX12_look_19 ic_1 rfl ?_
      refine q_goto 38 dX12_look_20 (by decide) ?_
      refine q_putI 0 41 (w' := [_, _]) f_X12_67 ft_X12_0 dX12_look_38 rfl rfl rfl rfl ?_
      refine q_aload_n 0 42 dX12_look_41 rfl rfl rfl ?_
      refine q_getI 0 45 f_X12_67 dX12_look_42 rfl rfl rfl ?_
      refine q_if_le 50 48 dX12_look_45 (by decide) rfl (fun h45 => absurd h45 (by show ¬ (1 : Int32) ≤ 0; decide)) (fun h45 => ?_)
      refine q_iconst 0 49 dX12_look_48 ic_0 rfl ?_
      refine q_ireturn dX12_look_49 rfl ?_
      exact pR.rf
    · have e1 : loT s h w = if rIn w 0 11 = 0 then 2 else 0 := if_neg (fun z => z.elim hs hh)
      rw [e1]
      by_cases hw : rIn w 0 11 = 0
      · rw [if_pos hw, if_neg (by decide)]
        refine q_aload_n 0 1 dX12_look_0 rfl rfl rfl ?_
        refine q_iload_n 1 2 dX12_look_1 rfl rfl rfl ?_
        refine q_iconst 0 3 dX12_look_2 ic_0 rfl ?_
        refine q_iconst 3 4 dX12_look_3 ic_3 rfl ?_
        refine q_cSi [] [0, 1] [0, 1] 7 (wr := [_, _]) (w1 := _) (ws' := [_, _]) c_isIn m_X12_70 dX12_look_4 rfl rfl rfl rfl rfl (by decide) (by decide) (by decide) (by decide) (Nat.le_of_ble_eq_true rfl) (by omega) (by omega) (by omega) rfl ?_
        refine q_if_eq 19 10 dX12_look_7 (by decide) rfl (fun h7 => absurd h7 hs) (fun h7 => ?_)
        refine q_iload_n 2 11 dX12_look_10 rfl rfl rfl ?_
        refine q_iconst 0 12 dX12_look_11 ic_0 rfl ?_
        refine q_iconst 3 13 dX12_look_12 ic_3 rfl ?_
        refine q_cSi [] [0, 1] [0, 1] 16 (wr := [_, _]) (w1 := _) (ws' := [_, _]) c_isIn m_X12_70 dX12_look_13 rfl rfl rfl rfl rfl (by decide) (by decide) (by decide) (by decide) (Nat.le_of_ble_eq_true rfl) (by omega) (by omega) (by omega) rfl ?_
        refine q_if_ne 23 19 dX12_look_16 (by decide) rfl (fun h16 => ?_) (fun h16 => absurd h16 hh)
        refine q_iload_n 3 24 dX12_look_23 rfl rfl rfl ?_
        refine q_iconst 0 25 dX12_look_24 ic_0 rfl ?_
        refine q_bipush 11 27 dX12_look_25 bc_11 rfl ?_
        refine q_cSi [] [0, 1] [0, 1] 30 (wr := [_, _]) (w1 := _) (ws' := [_, _]) c_isIn m_X12_70 dX12_look_27 rfl rfl rfl rfl rfl (by decide) (by decide) (by decide) (by decide) (Nat.le_of_ble_eq_true rfl) (by omega) (by omega) (by omega) rfl ?_
        refine q_if_ne 37 33 dX12_look_30 (by decide) rfl (fun h30 => absurd hw h30) (fun h30 => ?_)
        refine q_iconst 2 34 dX12_look_33 ic_2 rfl ?_
        refine q_goto 38 dX12_look_34 (by decide) ?_
        refine q_putI 0 41 (w' := [_, _]) f_X12_67 ft_X12_0 dX12_look_38 rfl rfl rfl rfl ?_
        refine q_aload_n 0 42 dX12_look_41 rfl rfl rfl ?_
        refine q_getI 0 45 f_X12_67 dX12_look_42 rfl rfl rfl ?_
        refine q_if_le 50 48 dX12_look_45 (by decide) rfl (fun h45 => absurd h45 (by show ¬ (2 : Int32) ≤ 0; decide)) (fun h45 => ?_)
        refine q_iconst 0 49 dX12_look_48 ic_0 rfl ?_
        refine q_ireturn dX12_look_49 rfl ?_
        exact pR.rf
      · rw [if_neg hw, if_pos rfl]
        obtain ⟨ea, la⟩ := rIn_nat (h := 3) (by omega) rfl hs
        obtain ⟨eb, lb⟩ := rIn_nat (h := 3) (by omega) rfl hh
        obtain ⟨ew, lw⟩ := rIn_nat (h := 11) (by omega) rfl hw
        have hx := cell_idx ea eb ew la lb lw
        generalize cellOf s h w = cx at *
        refine q_aload_n 0 1 dX12_look_0 rfl rfl rfl ?_
        refine q_iload_n 1 2 dX12_look_1 rfl rfl rfl ?_
        refine q_iconst 0 3 dX12_look_2 ic_0 rfl ?_
        refine q_iconst 3 4 dX12_look_3 ic_3 rfl ?_
        refine q_cSi [] [0, 1] [0, 1] 7 (wr := [_, _]) (w1 := _) (ws' := [_, _]) c_isIn m_X12_70 dX12_look_4 rfl rfl rfl rfl rfl (by decide) (by decide) (by decide) (by decide) (Nat.le_of_ble_eq_true rfl) (by omega) (by omega) (by omega) rfl ?_
        refine q_if_eq 19 10 dX12_look_7 (by decide) rfl (fun h7 => absurd h7 hs) (fun h7 => ?_)
        refine q_iload_n 2 11 dX12_look_10 rfl rfl rfl ?_
        refine q_iconst 0 12 dX12_look_11 ic_0 rfl ?_
        refine q_iconst 3 13 dX12_look_12 ic_3 rfl ?_
        refine q_cSi [] [0, 1] [0, 1] 16 (wr := [_, _]) (w1 := _) (ws' := [_, _]) c_isIn m_X12_70 dX12_look_13 rfl rfl rfl rfl rfl (by decide) (by decide) (by decide) (by decide) (Nat.le_of_ble_eq_true rfl) (by omega) (by omega) (by omega) rfl ?_
        refine q_if_ne 23 19 dX12_look_16 (by decide) rfl (fun h16 => ?_) (fun h16 => absurd h16 hh)
        refine q_iload_n 3 24 dX12_look_23 rfl rfl rfl ?_
        refine q_iconst 0 25 dX12_look_24 ic_0 rfl ?_
        refine q_bipush 11 27 dX12_look_25 bc_11 rfl ?_
        refine q_cSi [] [0, 1] [0, 1] 30 (wr := [_, _]) (w1 := _) (ws' := [_, _]) c_isIn m_X12_70 dX12_look_27 rfl rfl rfl rfl rfl (by decide) (by decide) (by decide) (by decide) (Nat.le_of_ble_eq_true rfl) (by omega) (by omega) (by omega) rfl ?_
        refine q_if_ne 37 33 dX12_look_30 (by decide) rfl (fun h30 => ?_) (fun h30 => absurd h30 hw)
        refine q_iconst 0 38 dX12_look_37 ic_0 rfl ?_
        refine q_putI 0 41 (w' := [_, _]) f_X12_67 ft_X12_0 dX12_look_38 rfl rfl rfl rfl ?_
        refine q_aload_n 0 42 dX12_look_41 rfl rfl rfl ?_
        refine q_getI 0 45 f_X12_67 dX12_look_42 rfl rfl rfl ?_
        refine q_if_le 50 48 dX12_look_45 (by decide) rfl (fun h45 => ?_) (fun h45 => absurd (by show (0 : Int32) ≤ 0; decide) h45)
        refine q_aload_n 0 51 dX12_look_50 rfl rfl rfl ?_
        refine q_getR 0 54 f_X12_7 dX12_look_51 rfl rfl rfl rfl ?_
        refine q_iconst 0 55 dX12_look_54 ic_0 rfl ?_
        refine q_bipush 12 57 dX12_look_55 bc_12 rfl ?_
        refine q_iconst 4 58 dX12_look_57 ic_4 rfl ?_
        refine q_iload_n 1 59 dX12_look_58 rfl rfl rfl ?_
        refine q_imul 60 dX12_look_59 rfl ?_
        refine q_iload_n 2 61 dX12_look_60 rfl rfl rfl ?_
        refine q_iadd 62 dX12_look_61 rfl ?_
        refine q_imul 63 dX12_look_62 rfl ?_
        refine q_iadd 64 dX12_look_63 rfl ?_
        refine q_iload_n 3 65 dX12_look_64 rfl rfl rfl ?_
        refine q_iadd 66 dX12_look_65 rfl ?_
        refine q_iald 1 cx 67 dX12_look_66 rfl ⟨hx.1, by have := hx.2; omega, by decide⟩ rfl ?_
        refine q_ireturn dX12_look_67 rfl ?_
        exact pR.rf
def plT (m : Nat → Int32) (p r : Int32) : Int32 := if rIn p 0 1 = 0 ∨ rIn r (-1) (m 193 - 1) = 0 then 1 else 0
def plV (m : Nat → Int32) (p r : Int32) : Int32 := if plT m p r = 0 then m (199 + p.toNatClampNeg) else 0
def plM (m : Nat → Int32) (p r : Int32) : Nat → Int32 := if plT m p r = 0 then upd m (199 + p.toNatClampNeg) r else m
theorem p_plays {l : Launch} {g : Gh} {q : Nat} {A : Nat → Nat} {i m : Nat → Int32} {p r : Int32} : Cp l g yX12_plays (Cond.code yX12_plays cX12_plays 4 (some .int)) 3 [.ref q, .int p, .int r] [(q, ob 12 i (rM A)), (A 1, aI g 2616 m)] (some (.int (plV m p r))) [(q, ob 12 (upd i 0 (plT m p r)) (rM A)), (A 1, aI g 2616 (plM m p r))] := by
  refine ct_of (M := mtX12_plays) [some (.ref q), some (.int p), some (.int r), none] rfl (by decide) (Nat.le_of_ble_eq_true rfl) (fun _ h => h) (fun a => ?_)
  unfold plV plM
  by_cases hp : rIn p 0 1 = 0
  · rw [show plT m p r = 1 from if_pos (Or.inl hp), if_neg one_ne0, if_neg one_ne0]
    refine q_aload_n 0 1 dX12_plays_0 rfl rfl rfl ?_
    refine q_iload_n 1 2 dX12_plays_1 rfl rfl rfl ?_
    refine q_cSi [] [0, 1] [0, 1] 5 (wr := [_, _]) (w1 := _) (ws' := [_, _]) c_isPlayer m_X12_197 dX12_plays_2 rfl rfl rfl rfl rfl (by decide) (by decide) (by decide) (by decide) (Nat.le_of_ble_eq_true rfl) (by omega) (by omega) (by omega) rfl ?_
    refine q_if_eq 26 8 dX12_plays_5 (by decide) rfl (fun h5 => ?_) (fun h5 => absurd hp h5)
    refine q_iconst 1 27 dX12_plays_26 ic_1 rfl ?_
    refine q_goto 31 dX12_plays_27 (by decide) ?_
    refine q_putI 0 34 (w' := [_, _]) f_X12_67 ft_X12_0 dX12_plays_31 rfl rfl rfl rfl ?_
    refine q_aload_n 0 35 dX12_plays_34 rfl rfl rfl ?_
    refine q_getI 0 38 f_X12_67 dX12_plays_35 rfl rfl rfl ?_
    refine q_if_le 43 41 dX12_plays_38 (by decide) rfl (fun h38 => absurd h38 (by show ¬ (1 : Int32) ≤ 0; decide)) (fun h38 => ?_)
    refine q_iconst 0 42 dX12_plays_41 ic_0 rfl ?_
    refine q_ireturn dX12_plays_42 rfl ?_
    exact pR.rf
  · by_cases hr : rIn r (-1) (m 193 - 1) = 0
    · rw [show plT m p r = 1 from if_pos (Or.inr hr), if_neg one_ne0, if_neg one_ne0]
      refine q_aload_n 0 1 dX12_plays_0 rfl rfl rfl ?_
      refine q_iload_n 1 2 dX12_plays_1 rfl rfl rfl ?_
      refine q_cSi [] [0, 1] [0, 1] 5 (wr := [_, _]) (w1 := _) (ws' := [_, _]) c_isPlayer m_X12_197 dX12_plays_2 rfl rfl rfl rfl rfl (by decide) (by decide) (by decide) (by decide) (Nat.le_of_ble_eq_true rfl) (by omega) (by omega) (by omega) rfl ?_
      refine q_if_eq 26 8 dX12_plays_5 (by decide) rfl (fun h5 => absurd h5 hp) (fun h5 => ?_)
      refine q_iload_n 2 9 dX12_plays_8 rfl rfl rfl ?_
      refine q_iconst (-1) 10 dX12_plays_9 ic_m1 rfl ?_
      refine q_aload_n 0 11 dX12_plays_10 rfl rfl rfl ?_
      refine q_getR 0 14 f_X12_7 dX12_plays_11 rfl rfl rfl rfl ?_
      refine q_sipush 193 17 dX12_plays_14 sc_193 rfl ?_
      refine q_iald 1 193 18 dX12_plays_17 rfl ⟨rfl, by omega, by decide⟩ rfl ?_
      refine q_iconst 1 19 dX12_plays_18 ic_1 rfl ?_
      refine q_isub 20 dX12_plays_19 rfl ?_
      refine q_cSi [] [0, 1] [0, 1] 23 (wr := [_, _]) (w1 := _) (ws' := [_, _]) c_isIn m_X12_70 dX12_plays_20 rfl rfl rfl rfl rfl (by decide) (by decide) (by decide) (by decide) (Nat.le_of_ble_eq_true rfl) (by omega) (by omega) (by omega) rfl ?_
      refine q_if_ne 30 26 dX12_plays_23 (by decide) rfl (fun h23 => absurd hr h23) (fun h23 => ?_)
      refine q_iconst 1 27 dX12_plays_26 ic_1 rfl ?_
      refine q_goto 31 dX12_plays_27 (by decide) ?_
      refine q_putI 0 34 (w' := [_, _]) f_X12_67 ft_X12_0 dX12_plays_31 rfl rfl rfl rfl ?_
      refine q_aload_n 0 35 dX12_plays_34 rfl rfl rfl ?_
      refine q_getI 0 38 f_X12_67 dX12_plays_35 rfl rfl rfl ?_
      refine q_if_le 43 41 dX12_plays_38 (by decide) rfl (fun h38 => absurd h38 (by show ¬ (1 : Int32) ≤ 0; decide)) (fun h38 => ?_)
      refine q_iconst 0 42 dX12_plays_41 ic_0 rfl ?_
      refine q_ireturn dX12_plays_42 rfl ?_
      exact pR.rf
    · rw [show plT m p r = 0 from if_neg (fun z => z.elim hp hr), if_pos rfl, if_pos rfl]
      obtain ⟨ea, la⟩ := rIn_nat (h := 1) (by omega) rfl hp
      have hx : (199 : Int32) + p = nI (199 + p.toNatClampNeg) := by
        rw [← nI_add, ← ea]
        rfl
      generalize hc : 199 + p.toNatClampNeg = cx at *
      refine q_aload_n 0 1 dX12_plays_0 rfl rfl rfl ?_
      refine q_iload_n 1 2 dX12_plays_1 rfl rfl rfl ?_
      refine q_cSi [] [0, 1] [0, 1] 5 (wr := [_, _]) (w1 := _) (ws' := [_, _]) c_isPlayer m_X12_197 dX12_plays_2 rfl rfl rfl rfl rfl (by decide) (by decide) (by decide) (by decide) (Nat.le_of_ble_eq_true rfl) (by omega) (by omega) (by omega) rfl ?_
      refine q_if_eq 26 8 dX12_plays_5 (by decide) rfl (fun h5 => absurd h5 hp) (fun h5 => ?_)
      refine q_iload_n 2 9 dX12_plays_8 rfl rfl rfl ?_
      refine q_iconst (-1) 10 dX12_plays_9 ic_m1 rfl ?_
      refine q_aload_n 0 11 dX12_plays_10 rfl rfl rfl ?_
      refine q_getR 0 14 f_X12_7 dX12_plays_11 rfl rfl rfl rfl ?_
      refine q_sipush 193 17 dX12_plays_14 sc_193 rfl ?_
      refine q_iald 1 193 18 dX12_plays_17 rfl ⟨rfl, by omega, by decide⟩ rfl ?_
      refine q_iconst 1 19 dX12_plays_18 ic_1 rfl ?_
      refine q_isub 20 dX12_plays_19 rfl ?_
      refine q_cSi [] [0, 1] [0, 1] 23 (wr := [_, _]) (w1 := _) (ws' := [_, _]) c_isIn m_X12_70 dX12_plays_20 rfl rfl rfl rfl rfl (by decide) (by decide) (by decide) (by decide) (Nat.le_of_ble_eq_true rfl) (by omega) (by omega) (by omega) rfl ?_
      refine q_if_ne 30 26 dX12_plays_23 (by decide) rfl (fun h23 => ?_) (fun h23 => absurd h23 hr)
      refine q_iconst 0 31 dX12_plays_30 ic_0 rfl ?_
      refine q_putI 0 34 (w' := [_, _]) f_X12_67 ft_X12_0 dX12_plays_31 rfl rfl rfl rfl ?_
      refine q_aload_n 0 35 dX12_plays_34 rfl rfl rfl ?_
      refine q_getI 0 38 f_X12_67 dX12_plays_35 rfl rfl rfl ?_
      refine q_if_le 43 41 dX12_plays_38 (by decide) rfl (fun h38 => ?_) (fun h38 => absurd (by show (0 : Int32) ≤ 0; decide) h38)
      refine q_aload_n 0 44 dX12_plays_43 rfl rfl rfl ?_
      refine q_getR 0 47 f_X12_7 dX12_plays_44 rfl rfl rfl rfl ?_
      refine q_sipush 199 50 dX12_plays_47 sc_199 rfl ?_
      refine q_iload_n 1 51 dX12_plays_50 rfl rfl rfl ?_
      refine q_iadd 52 dX12_plays_51 rfl ?_
      refine q_iald 1 cx 53 dX12_plays_52 rfl ⟨hx, by omega, by decide⟩ rfl ?_
      refine q_istore_n 3 54 (L' := [_, _, _, _]) dX12_plays_53 rfl (by decide) rfl rfl ?_
      refine q_aload_n 0 55 dX12_plays_54 rfl rfl rfl ?_
      refine q_getR 0 58 f_X12_7 dX12_plays_55 rfl rfl rfl rfl ?_
      refine q_sipush 199 61 dX12_plays_58 sc_199 rfl ?_
      refine q_iload_n 1 62 dX12_plays_61 rfl rfl rfl ?_
      refine q_iadd 63 dX12_plays_62 rfl ?_
      refine q_iload_n 2 64 dX12_plays_63 rfl rfl rfl ?_
      refine q_iast 1 cx 65 (w' := [_, _]) dX12_plays_64 rfl ⟨hx, by omega, by decide⟩ rfl rfl ?_
      refine q_iload_n 3 66 dX12_plays_65 rfl rfl rfl ?_
      refine q_ireturn dX12_plays_66 rfl ?_
      exact pR.rf

