/-! ===== the class's Score: its cells are a function of field numbers (0 first, 1 second, 2 server, 3 chases, 4 line, 5 nextLine, 6 off, 7 firstGames, 8 secondGames, 9 owed, 10 given) ===== -/
abbrev Sc : Type := Nat → Int32
def sRestart (s : Sc) (x y z : Int32) : Sc := upd (upd (upd (upd (upd s 0 x) 1 y) 2 z) 3 0) 6 0
def sPog (s : Sc) : Int32 := if 3 ≤ s 0 ∧ s 1 < s 0 ∨ 3 ≤ s 1 ∧ s 0 < s 1 then 1 else 0
theorem sPog_or (s : Sc) : sPog s = 0 ∨ sPog s = 1 := by unfold sPog; split <;> simp
def sOver (s i : Nat → Int32) : Int32 := if i 1 ≤ s 7 ∨ i 1 ≤ s 8 then 1 else 0
theorem sOver_or (s i : Sc) : sOver s i = 0 ∨ sOver s i = 1 := by unfold sOver; split <;> simp
theorem lt3 {x y : Int32} (h : ¬ x < y) : y ≤ x := Int32.not_lt.mp h
theorem nlt3 {x y : Int32} (h : x < y) : ¬ y ≤ x := Int32.not_le.mpr h
theorem c_X8_restart {l : Launch} {g : Gh} {q : Nat} {s : Sc} {x y z : Int32} : Cp l g yX8_restart (Cond.code yX8_restart cX8_restart 4 none) 1 [.ref q, .int x, .int y, .int z] [(q, ob 8 s [])] none [(q, ob 8 (sRestart s x y z) [])] := by
  refine ct_of (M := mtX8_restart) [some (.ref q), some (.int x), some (.int y), some (.int z)] rfl (by decide) (Nat.le_of_ble_eq_true rfl) (fun _ h => h) (fun a => ?_)
  refine q_aload_n 0 1 dX8_restart_0 rfl rfl rfl ?_
  refine q_iload_n 1 2 dX8_restart_1 rfl rfl rfl ?_
  refine q_putI 0 5 (w' := [_]) f_X8_9 ft_X8_0 dX8_restart_2 rfl rfl rfl rfl ?_
  refine q_aload_n 0 6 dX8_restart_5 rfl rfl rfl ?_
  refine q_iload_n 2 7 dX8_restart_6 rfl rfl rfl ?_
  refine q_putI 0 10 (w' := [_]) f_X8_15 ft_X8_1 dX8_restart_7 rfl rfl rfl rfl ?_
  refine q_aload_n 0 11 dX8_restart_10 rfl rfl rfl ?_
  refine q_iload_n 3 12 dX8_restart_11 rfl rfl rfl ?_
  refine q_putI 0 15 (w' := [_]) f_X8_18 ft_X8_2 dX8_restart_12 rfl rfl rfl rfl ?_
  refine q_aload_n 0 16 dX8_restart_15 rfl rfl rfl ?_
  refine q_iconst 0 17 dX8_restart_16 ic_0 rfl ?_
  refine q_putI 0 20 (w' := [_]) f_X8_21 ft_X8_3 dX8_restart_17 rfl rfl rfl rfl ?_
  refine q_aload_n 0 21 dX8_restart_20 rfl rfl rfl ?_
  refine q_iconst 0 22 dX8_restart_21 ic_0 rfl ?_
  refine q_putZ 0 25 (w' := [_]) f_X8_30 ft_X8_6 dX8_restart_22 rfl rfl (Or.inl rfl) rfl rfl ?_
  refine q_return dX8_restart_25 rfl ?_
  exact pR.rf
theorem c_X8_isPog {l : Launch} {g : Gh} {q : Nat} {s : Sc} : Cp l g yX8_isPointOfGame (Cond.code yX8_isPointOfGame cX8_isPointOfGame 1 (some .boolean)) 1 [.ref q] [(q, ob 8 s [])] (some (.int (sPog s))) [(q, ob 8 s [])] := by
  refine ct_of (M := mtX8_isPointOfGame) [some (.ref q)] rfl (by decide) (Nat.le_of_ble_eq_true rfl) (fun _ h => h) (fun a => ?_)
  refine q_aload_n 0 1 dX8_isPointOfGame_0 rfl rfl rfl ?_
  refine q_getI 0 4 f_X8_9 dX8_isPointOfGame_1 rfl rfl rfl ?_
  refine q_iconst 3 5 dX8_isPointOfGame_4 ic_3 rfl ?_
  refine q_icmp_lt 19 8 dX8_isPointOfGame_5 (by decide) rfl (fun h5 => ?_) (fun h5 => ?_)
  · refine q_aload_n 0 20 dX8_isPointOfGame_19 rfl rfl rfl ?_
    refine q_getI 0 23 f_X8_15 dX8_isPointOfGame_20 rfl rfl rfl ?_
    refine q_iconst 3 24 dX8_isPointOfGame_23 ic_3 rfl ?_
    refine q_icmp_lt 42 27 dX8_isPointOfGame_24 (by decide) rfl (fun h24 => ?_) (fun h24 => ?_)
    · refine q_iconst 0 43 dX8_isPointOfGame_42 ic_0 rfl ?_
      refine q_zreturn dX8_isPointOfGame_43 rfl (Or.inl rfl) ?_
      exact pR.mk (by unfold sPog; split <;> first | rfl | (exfalso; (try simp only [i_lt, i_le, i_eq, Int32.reduceToInt] at *); omega)) rfl
    · refine q_aload_n 0 28 dX8_isPointOfGame_27 rfl rfl rfl ?_
      refine q_getI 0 31 f_X8_15 dX8_isPointOfGame_28 rfl rfl rfl ?_
      refine q_aload_n 0 32 dX8_isPointOfGame_31 rfl rfl rfl ?_
      refine q_getI 0 35 f_X8_9 dX8_isPointOfGame_32 rfl rfl rfl ?_
      refine q_icmp_le 42 38 dX8_isPointOfGame_35 (by decide) rfl (fun h35 => ?_) (fun h35 => ?_)
      · refine q_iconst 0 43 dX8_isPointOfGame_42 ic_0 rfl ?_
        refine q_zreturn dX8_isPointOfGame_43 rfl (Or.inl rfl) ?_
        exact pR.mk (by unfold sPog; split <;> first | rfl | (exfalso; (try simp only [i_lt, i_le, i_eq, Int32.reduceToInt] at *); omega)) rfl
      · refine q_iconst 1 39 dX8_isPointOfGame_38 ic_1 rfl ?_
        refine q_goto 43 dX8_isPointOfGame_39 (by decide) ?_
        refine q_zreturn dX8_isPointOfGame_43 rfl (Or.inr rfl) ?_
        exact pR.mk (by unfold sPog; split <;> first | rfl | (exfalso; (try simp only [i_lt, i_le, i_eq, Int32.reduceToInt] at *); omega)) rfl
  · refine q_aload_n 0 9 dX8_isPointOfGame_8 rfl rfl rfl ?_
    refine q_getI 0 12 f_X8_9 dX8_isPointOfGame_9 rfl rfl rfl ?_
    refine q_aload_n 0 13 dX8_isPointOfGame_12 rfl rfl rfl ?_
    refine q_getI 0 16 f_X8_15 dX8_isPointOfGame_13 rfl rfl rfl ?_
    refine q_icmp_gt 38 19 dX8_isPointOfGame_16 (by decide) rfl (fun h16 => ?_) (fun h16 => ?_)
    · refine q_iconst 1 39 dX8_isPointOfGame_38 ic_1 rfl ?_
      refine q_goto 43 dX8_isPointOfGame_39 (by decide) ?_
      refine q_zreturn dX8_isPointOfGame_43 rfl (Or.inr rfl) ?_
      exact pR.mk (by unfold sPog; split <;> first | rfl | (exfalso; (try simp only [i_lt, i_le, i_eq, Int32.reduceToInt] at *); omega)) rfl
    · refine q_aload_n 0 20 dX8_isPointOfGame_19 rfl rfl rfl ?_
      refine q_getI 0 23 f_X8_15 dX8_isPointOfGame_20 rfl rfl rfl ?_
      refine q_iconst 3 24 dX8_isPointOfGame_23 ic_3 rfl ?_
      refine q_icmp_lt 42 27 dX8_isPointOfGame_24 (by decide) rfl (fun h24 => ?_) (fun h24 => ?_)
      · refine q_iconst 0 43 dX8_isPointOfGame_42 ic_0 rfl ?_
        refine q_zreturn dX8_isPointOfGame_43 rfl (Or.inl rfl) ?_
        exact pR.mk (by unfold sPog; split <;> first | rfl | (exfalso; (try simp only [i_lt, i_le, i_eq, Int32.reduceToInt] at *); omega)) rfl
      · refine q_aload_n 0 28 dX8_isPointOfGame_27 rfl rfl rfl ?_
        refine q_getI 0 31 f_X8_15 dX8_isPointOfGame_28 rfl rfl rfl ?_
        refine q_aload_n 0 32 dX8_isPointOfGame_31 rfl rfl rfl ?_
        refine q_getI 0 35 f_X8_9 dX8_isPointOfGame_32 rfl rfl rfl ?_
        refine q_icmp_le 42 38 dX8_isPointOfGame_35 (by decide) rfl (fun h35 => ?_) (fun h35 => ?_)
        · refine q_iconst 0 43 dX8_isPointOfGame_42 ic_0 rfl ?_
          refine q_zreturn dX8_isPointOfGame_43 rfl (Or.inl rfl) ?_
          exact pR.mk (by unfold sPog; split <;> first | rfl | (exfalso; (try simp only [i_lt, i_le, i_eq, Int32.reduceToInt] at *); omega)) rfl
        · refine q_iconst 1 39 dX8_isPointOfGame_38 ic_1 rfl ?_
          refine q_goto 43 dX8_isPointOfGame_39 (by decide) ?_
          refine q_zreturn dX8_isPointOfGame_43 rfl (Or.inr rfl) ?_
          exact pR.mk (by unfold sPog; split <;> first | rfl | (exfalso; (try simp only [i_lt, i_le, i_eq, Int32.reduceToInt] at *); omega)) rfl
def sEnds (s : Sc) (club : Int32) : Sc := if s 6 ≠ 0 ∨ s 3 = 0 then s else if s 3 = 2 ∨ club = 1 ∨ (club = 0 ∧ sPog s ≠ 0) then upd (upd s 2 (1 - s 2)) 6 1 else s
theorem c_X8_changeEnds {l : Launch} {g : Gh} {q : Nat} {s : Sc} {x : Int32} : Cp l g yX8_changeEnds (Cond.code yX8_changeEnds cX8_changeEnds 2 none) 2 [.ref q, .int x] [(q, ob 8 s [])] none [(q, ob 8 (sEnds s x) [])] := by
  refine ct_of (M := mtX8_changeEnds) [some (.ref q), some (.int x)] rfl (by decide) (Nat.le_of_ble_eq_true rfl) (fun _ h => h) (fun a => ?_)
  refine q_aload_n 0 1 dX8_changeEnds_0 rfl rfl rfl ?_
  refine q_getI 0 4 f_X8_30 dX8_changeEnds_1 rfl rfl rfl ?_
  refine q_if_ne 14 7 dX8_changeEnds_4 (by decide) rfl (fun h4 => ?_) (fun h4 => ?_)
  · refine q_return dX8_changeEnds_14 rfl ?_
    exact pR.mk rfl (by simp_all [sEnds])
  · refine q_aload_n 0 8 dX8_changeEnds_7 rfl rfl rfl ?_
    refine q_getI 0 11 f_X8_21 dX8_changeEnds_8 rfl rfl rfl ?_
    refine q_if_ne 15 14 dX8_changeEnds_11 (by decide) rfl (fun h11 => ?_) (fun h11 => ?_)
    · refine q_aload_n 0 16 dX8_changeEnds_15 rfl rfl rfl ?_
      refine q_getI 0 19 f_X8_21 dX8_changeEnds_16 rfl rfl rfl ?_
      refine q_iconst 2 20 dX8_changeEnds_19 ic_2 rfl ?_
      refine q_icmp_eq 39 23 dX8_changeEnds_20 (by decide) rfl (fun h20 => ?_) (fun h20 => ?_)
      · refine q_aload_n 0 40 dX8_changeEnds_39 rfl rfl rfl ?_
        refine q_iconst 1 41 dX8_changeEnds_40 ic_1 rfl ?_
        refine q_aload_n 0 42 dX8_changeEnds_41 rfl rfl rfl ?_
        refine q_getI 0 45 f_X8_18 dX8_changeEnds_42 rfl rfl rfl ?_
        refine q_isub 46 dX8_changeEnds_45 rfl ?_
        refine q_putI 0 49 (w' := [_]) f_X8_18 ft_X8_2 dX8_changeEnds_46 rfl rfl rfl rfl ?_
        refine q_aload_n 0 50 dX8_changeEnds_49 rfl rfl rfl ?_
        refine q_iconst 1 51 dX8_changeEnds_50 ic_1 rfl ?_
        refine q_putZ 0 54 (w' := [_]) f_X8_30 ft_X8_6 dX8_changeEnds_51 rfl rfl (Or.inr rfl) rfl rfl ?_
        refine q_return dX8_changeEnds_54 rfl ?_
        exact pR.mk rfl (by simp_all [sEnds])
      · refine q_iload_n 1 24 dX8_changeEnds_23 rfl rfl rfl ?_
        refine q_iconst 1 25 dX8_changeEnds_24 ic_1 rfl ?_
        refine q_icmp_eq 39 28 dX8_changeEnds_25 (by decide) rfl (fun h25 => ?_) (fun h25 => ?_)
        · refine q_aload_n 0 40 dX8_changeEnds_39 rfl rfl rfl ?_
          refine q_iconst 1 41 dX8_changeEnds_40 ic_1 rfl ?_
          refine q_aload_n 0 42 dX8_changeEnds_41 rfl rfl rfl ?_
          refine q_getI 0 45 f_X8_18 dX8_changeEnds_42 rfl rfl rfl ?_
          refine q_isub 46 dX8_changeEnds_45 rfl ?_
          refine q_putI 0 49 (w' := [_]) f_X8_18 ft_X8_2 dX8_changeEnds_46 rfl rfl rfl rfl ?_
          refine q_aload_n 0 50 dX8_changeEnds_49 rfl rfl rfl ?_
          refine q_iconst 1 51 dX8_changeEnds_50 ic_1 rfl ?_
          refine q_putZ 0 54 (w' := [_]) f_X8_30 ft_X8_6 dX8_changeEnds_51 rfl rfl (Or.inr rfl) rfl rfl ?_
          refine q_return dX8_changeEnds_54 rfl ?_
          exact pR.mk rfl (by simp_all [sEnds])
        · refine q_iload_n 1 29 dX8_changeEnds_28 rfl rfl rfl ?_
          refine q_if_ne 54 32 dX8_changeEnds_29 (by decide) rfl (fun h29 => ?_) (fun h29 => ?_)
          · refine q_return dX8_changeEnds_54 rfl ?_
            exact pR.mk rfl (by simp_all [sEnds])
          · refine q_aload_n 0 33 dX8_changeEnds_32 rfl rfl rfl ?_
            refine q_cVi 0 [0] [] [0] 36 (wr := []) (w1 := _) (ws' := [_]) c_X8_isPog m_X8_51 dX8_changeEnds_33 rfl rfl rfl rfl rfl rfl rfl rfl (by decide) (by decide) (by decide) (by decide) (Nat.le_of_ble_eq_true rfl) (by omega) (by omega) (by omega) rfl ?_
            refine q_if_eq 54 39 dX8_changeEnds_36 (by decide) rfl (fun h36 => ?_) (fun h36 => ?_)
            · refine q_return dX8_changeEnds_54 rfl ?_
              exact pR.mk rfl (by simp_all [sEnds])
            · refine q_aload_n 0 40 dX8_changeEnds_39 rfl rfl rfl ?_
              refine q_iconst 1 41 dX8_changeEnds_40 ic_1 rfl ?_
              refine q_aload_n 0 42 dX8_changeEnds_41 rfl rfl rfl ?_
              refine q_getI 0 45 f_X8_18 dX8_changeEnds_42 rfl rfl rfl ?_
              refine q_isub 46 dX8_changeEnds_45 rfl ?_
              refine q_putI 0 49 (w' := [_]) f_X8_18 ft_X8_2 dX8_changeEnds_46 rfl rfl rfl rfl ?_
              refine q_aload_n 0 50 dX8_changeEnds_49 rfl rfl rfl ?_
              refine q_iconst 1 51 dX8_changeEnds_50 ic_1 rfl ?_
              refine q_putZ 0 54 (w' := [_]) f_X8_30 ft_X8_6 dX8_changeEnds_51 rfl rfl (Or.inr rfl) rfl rfl ?_
              refine q_return dX8_changeEnds_54 rfl ?_
              exact pR.mk rfl (by simp_all [sEnds])
    · refine q_return dX8_changeEnds_14 rfl ?_
      exact pR.mk rfl (by simp_all [sEnds])
theorem c_X8_isOver {l : Launch} {g : Gh} {q q1 : Nat} {s : Sc} {i : Nat → Int32} {r : List (Option Nat)} : Cp l g yX8_isOver (Cond.code yX8_isOver cX8_isOver 2 (some .boolean)) 1 [.ref q, .ref q1] [(q, ob 8 s []), (q1, ob 0 i r)] (some (.int (sOver s i))) [(q, ob 8 s []), (q1, ob 0 i r)] := by
  refine ct_of (M := mtX8_isOver) [some (.ref q), some (.ref q1)] rfl (by decide) (Nat.le_of_ble_eq_true rfl) (fun _ h => h) (fun a => ?_)
  refine q_aload_n 0 1 dX8_isOver_0 rfl rfl rfl ?_
  refine q_getI 0 4 f_X8_34 dX8_isOver_1 rfl rfl rfl ?_
  refine q_aload_n 1 5 dX8_isOver_4 rfl rfl rfl ?_
  refine q_getI 1 8 f_X8_46 dX8_isOver_5 rfl rfl rfl ?_
  refine q_icmp_ge 22 11 dX8_isOver_8 (by decide) rfl (fun h8 => ?_) (fun h8 => ?_)
  · refine q_iconst 1 23 dX8_isOver_22 ic_1 rfl ?_
    refine q_goto 27 dX8_isOver_23 (by decide) ?_
    refine q_zreturn dX8_isOver_27 rfl (Or.inr rfl) ?_
    exact pR.mk (by unfold sOver; split <;> first | rfl | (exfalso; (try simp only [i_lt, i_le, i_eq, Int32.reduceToInt] at *); omega)) rfl
  · refine q_aload_n 0 12 dX8_isOver_11 rfl rfl rfl ?_
    refine q_getI 0 15 f_X8_37 dX8_isOver_12 rfl rfl rfl ?_
    refine q_aload_n 1 16 dX8_isOver_15 rfl rfl rfl ?_
    refine q_getI 1 19 f_X8_46 dX8_isOver_16 rfl rfl rfl ?_
    refine q_icmp_lt 26 22 dX8_isOver_19 (by decide) rfl (fun h19 => ?_) (fun h19 => ?_)
    · refine q_iconst 0 27 dX8_isOver_26 ic_0 rfl ?_
      refine q_zreturn dX8_isOver_27 rfl (Or.inl rfl) ?_
      exact pR.mk (by unfold sOver; split <;> first | rfl | (exfalso; (try simp only [i_lt, i_le, i_eq, Int32.reduceToInt] at *); omega)) rfl
    · refine q_iconst 1 23 dX8_isOver_22 ic_1 rfl ?_
      refine q_goto 27 dX8_isOver_23 (by decide) ?_
      refine q_zreturn dX8_isOver_27 rfl (Or.inr rfl) ?_
      exact pR.mk (by unfold sOver; split <;> first | rfl | (exfalso; (try simp only [i_lt, i_le, i_eq, Int32.reduceToInt] at *); omega)) rfl
def sAdd (s : Sc) (x : Int32) : Sc := upd (if s 3 = 0 then upd s 4 x else upd s 5 x) 3 (s 3 + 1)
theorem c_X8_addChase {l : Launch} {g : Gh} {q : Nat} {s : Sc} {x : Int32} : Cp l g yX8_addChase (Cond.code yX8_addChase cX8_addChase 2 none) 1 [.ref q, .int x] [(q, ob 8 s [])] none [(q, ob 8 (sAdd s x) [])] := by
  refine ct_of (M := mtX8_addChase) [some (.ref q), some (.int x)] rfl (by decide) (Nat.le_of_ble_eq_true rfl) (fun _ h => h) (fun a => ?_)
  refine q_aload_n 0 1 dX8_addChase_0 rfl rfl rfl ?_
  refine q_getI 0 4 f_X8_21 dX8_addChase_1 rfl rfl rfl ?_
  refine q_if_ne 15 7 dX8_addChase_4 (by decide) rfl (fun h4 => ?_) (fun h4 => ?_)
  · refine q_aload_n 0 16 dX8_addChase_15 rfl rfl rfl ?_
    refine q_iload_n 1 17 dX8_addChase_16 rfl rfl rfl ?_
    refine q_putI 0 20 (w' := [_]) f_X8_27 ft_X8_5 dX8_addChase_17 rfl rfl rfl rfl ?_
    refine q_aload_n 0 21 dX8_addChase_20 rfl rfl rfl ?_
    refine q_dup 22 dX8_addChase_21 rfl rfl ?_
    refine q_getI 0 25 f_X8_21 dX8_addChase_22 rfl rfl rfl ?_
    refine q_iconst 1 26 dX8_addChase_25 ic_1 rfl ?_
    refine q_iadd 27 dX8_addChase_26 rfl ?_
    refine q_putI 0 30 (w' := [_]) f_X8_21 ft_X8_3 dX8_addChase_27 rfl rfl rfl rfl ?_
    refine q_return dX8_addChase_30 rfl ?_
    exact pR.mk rfl (by simp_all [sAdd, upd])
  · refine q_aload_n 0 8 dX8_addChase_7 rfl rfl rfl ?_
    refine q_iload_n 1 9 dX8_addChase_8 rfl rfl rfl ?_
    refine q_putI 0 12 (w' := [_]) f_X8_24 ft_X8_4 dX8_addChase_9 rfl rfl rfl rfl ?_
    refine q_goto 20 dX8_addChase_12 (by decide) ?_
    refine q_aload_n 0 21 dX8_addChase_20 rfl rfl rfl ?_
    refine q_dup 22 dX8_addChase_21 rfl rfl ?_
    refine q_getI 0 25 f_X8_21 dX8_addChase_22 rfl rfl rfl ?_
    refine q_iconst 1 26 dX8_addChase_25 ic_1 rfl ?_
    refine q_iadd 27 dX8_addChase_26 rfl ?_
    refine q_putI 0 30 (w' := [_]) f_X8_21 ft_X8_3 dX8_addChase_27 rfl rfl rfl rfl ?_
    refine q_return dX8_addChase_30 rfl ?_
    exact pR.mk rfl (by simp_all [sAdd, upd])
def sPt0 (s : Sc) (p : Int32) : Sc := if p = 0 then upd s 0 (s 0 + 1) else upd s 1 (s 1 + 1)
def sPt1 (s : Sc) : Sc := if s 0 = 4 ∧ s 1 = 4 then upd (upd s 0 3) 1 3 else s
def sMine (s : Sc) (p : Int32) : Int32 := if p = 0 then s 0 else s 1
def sHis (s : Sc) (p : Int32) : Int32 := if p = 0 then s 1 else s 0
/-- whether the game is won behind the point -/
def sWins (s : Sc) (p : Int32) : Int32 := if sMine s p < 4 ∨ sMine s p - sHis s p < 2 then 0 else 1
def sBump (s : Sc) (p : Int32) : Sc := if p = 0 then upd s 7 (s 7 + 1) else upd s 8 (s 8 + 1)
def sPtE (s : Sc) (p : Int32) : Sc := if sWins s p = 0 then s else sRestart (sBump s p) (-(sBump s p 9)) (sBump s p 10) (sBump s p 2)
def sPt (s : Sc) (p : Int32) : Sc := sPtE (sPt1 (sPt0 s p)) p
def sPtW (s : Sc) (p : Int32) : Int32 := sWins (sPt1 (sPt0 s p)) p
theorem sWins_or (s : Sc) (p : Int32) : sWins s p = 0 ∨ sWins s p = 1 := by unfold sWins; split <;> simp
theorem c_X8_point {l : Launch} {g : Gh} {q : Nat} {s : Sc} {p : Int32} : Cp l g yX8_point (Cond.code yX8_point cX8_point 4 (some .boolean)) 2 [.ref q, .int p] [(q, ob 8 s [])] (some (.int (sPtW s p))) [(q, ob 8 (sPt s p) [])] := by
  refine ct_of (M := mtX8_point) [some (.ref q), some (.int p), none, none] rfl (by decide) (Nat.le_of_ble_eq_true rfl) (fun _ h => h) (fun a => ?_)
  have K53 : ∀ t : Sc, WPs l g mtX8_point 2 0 0 (pR (some (.int (sWins t p))) [(q, ob 8 (sPtE t p) [])]) noX a 53 [some (.ref q), some (.int p), none, none] [] [(q, ob 8 t [])] 0 0 := by
    intro t
    by_cases hp : p = 0
    · subst hp
      refine q_iload_n 1 54 dX8_point_53 rfl rfl rfl ?_
      refine q_if_ne 64 57 dX8_point_54 (by decide) rfl (fun h54 => absurd rfl h54) (fun h54 => ?_)
      refine q_aload_n 0 58 dX8_point_57 rfl rfl rfl ?_
      refine q_getI 0 61 f_X8_9 dX8_point_58 rfl rfl rfl ?_
      refine q_goto 68 dX8_point_61 (by decide) ?_
      refine q_istore_n 2 69 (L' := [_, _, _, _]) dX8_point_68 rfl (by decide) rfl rfl ?_
      refine q_iload_n 1 70 dX8_point_69 rfl rfl rfl ?_
      refine q_if_ne 80 73 dX8_point_70 (by decide) rfl (fun h70 => absurd rfl h70) (fun h70 => ?_)
      refine q_aload_n 0 74 dX8_point_73 rfl rfl rfl ?_
      refine q_getI 0 77 f_X8_15 dX8_point_74 rfl rfl rfl ?_
      refine q_goto 84 dX8_point_77 (by decide) ?_
      refine q_istore_n 3 85 (L' := [_, _, _, _]) dX8_point_84 rfl (by decide) rfl rfl ?_
      refine q_iload_n 2 86 dX8_point_85 rfl rfl rfl ?_
      refine q_iconst 4 87 dX8_point_86 ic_4 rfl ?_
      refine q_icmp_lt 97 90 dX8_point_87 (by decide) rfl (fun h87 => ?_) (fun h87 => ?_)
      · refine q_iconst 0 98 dX8_point_97 ic_0 rfl ?_
        refine q_zreturn dX8_point_98 rfl (Or.inl rfl) ?_
        exact pR.mk (by simp_all [sWins, sMine, sHis]) (by simp_all [sPtE, sWins, sMine, sHis, sBump])
      · refine q_iload_n 2 91 dX8_point_90 rfl rfl rfl ?_
        refine q_iload_n 3 92 dX8_point_91 rfl rfl rfl ?_
        refine q_isub 93 dX8_point_92 rfl ?_
        refine q_iconst 2 94 dX8_point_93 ic_2 rfl ?_
        refine q_icmp_ge 99 97 dX8_point_94 (by decide) rfl (fun h94 => ?_) (fun h94 => ?_)
        · refine q_iload_n 1 100 dX8_point_99 rfl rfl rfl ?_
          refine q_if_ne 116 103 dX8_point_100 (by decide) rfl (fun h100 => absurd rfl h100) (fun h100 => ?_)
          refine q_aload_n 0 104 dX8_point_103 rfl rfl rfl ?_
          refine q_dup 105 dX8_point_104 rfl rfl ?_
          refine q_getI 0 108 f_X8_34 dX8_point_105 rfl rfl rfl ?_
          refine q_iconst 1 109 dX8_point_108 ic_1 rfl ?_
          refine q_iadd 110 dX8_point_109 rfl ?_
          refine q_putI 0 113 (w' := [_]) f_X8_34 ft_X8_7 dX8_point_110 rfl rfl rfl rfl ?_
          refine q_goto 126 dX8_point_113 (by decide) ?_
          refine q_aload_n 0 127 dX8_point_126 rfl rfl rfl ?_
          refine q_aload_n 0 128 dX8_point_127 rfl rfl rfl ?_
          refine q_getI 0 131 f_X8_40 dX8_point_128 rfl rfl rfl ?_
          refine q_ineg 132 dX8_point_131 rfl ?_
          refine q_aload_n 0 133 dX8_point_132 rfl rfl rfl ?_
          refine q_getI 0 136 f_X8_43 dX8_point_133 rfl rfl rfl ?_
          refine q_aload_n 0 137 dX8_point_136 rfl rfl rfl ?_
          refine q_getI 0 140 f_X8_18 dX8_point_137 rfl rfl rfl ?_
          refine q_cVv 0 [0] [] [0] 143 (wr := []) (w1 := _) (ws' := [_]) c_X8_restart m_X8_85 dX8_point_140 rfl rfl rfl rfl rfl rfl rfl rfl (by decide) (by decide) (by decide) (by decide) (Nat.le_of_ble_eq_true rfl) (by omega) (by omega) (by omega) rfl ?_
          refine q_iconst 1 144 dX8_point_143 ic_1 rfl ?_
          refine q_zreturn dX8_point_144 rfl (Or.inr rfl) ?_
          exact pR.mk (by simp_all [sWins, sMine, sHis]) (by simp_all [sPtE, sWins, sMine, sHis, sBump])
        · refine q_iconst 0 98 dX8_point_97 ic_0 rfl ?_
          refine q_zreturn dX8_point_98 rfl (Or.inl rfl) ?_
          exact pR.mk (by simp_all [sWins, sMine, sHis]) (by simp_all [sPtE, sWins, sMine, sHis, sBump])
    · skip
      refine q_iload_n 1 54 dX8_point_53 rfl rfl rfl ?_
      refine q_if_ne 64 57 dX8_point_54 (by decide) rfl (fun h54 => ?_) (fun h54 => absurd h54 hp)
      refine q_aload_n 0 65 dX8_point_64 rfl rfl rfl ?_
      refine q_getI 0 68 f_X8_15 dX8_point_65 rfl rfl rfl ?_
      refine q_istore_n 2 69 (L' := [_, _, _, _]) dX8_point_68 rfl (by decide) rfl rfl ?_
      refine q_iload_n 1 70 dX8_point_69 rfl rfl rfl ?_
      refine q_if_ne 80 73 dX8_point_70 (by decide) rfl (fun h70 => ?_) (fun h70 => absurd h70 hp)
      refine q_aload_n 0 81 dX8_point_80 rfl rfl rfl ?_
      refine q_getI 0 84 f_X8_9 dX8_point_81 rfl rfl rfl ?_
      refine q_istore_n 3 85 (L' := [_, _, _, _]) dX8_point_84 rfl (by decide) rfl rfl ?_
      refine q_iload_n 2 86 dX8_point_85 rfl rfl rfl ?_
      refine q_iconst 4 87 dX8_point_86 ic_4 rfl ?_
      refine q_icmp_lt 97 90 dX8_point_87 (by decide) rfl (fun h87 => ?_) (fun h87 => ?_)
      · refine q_iconst 0 98 dX8_point_97 ic_0 rfl ?_
        refine q_zreturn dX8_point_98 rfl (Or.inl rfl) ?_
        exact pR.mk (by simp_all [sWins, sMine, sHis]) (by simp_all [sPtE, sWins, sMine, sHis, sBump])
      · refine q_iload_n 2 91 dX8_point_90 rfl rfl rfl ?_
        refine q_iload_n 3 92 dX8_point_91 rfl rfl rfl ?_
        refine q_isub 93 dX8_point_92 rfl ?_
        refine q_iconst 2 94 dX8_point_93 ic_2 rfl ?_
        refine q_icmp_ge 99 97 dX8_point_94 (by decide) rfl (fun h94 => ?_) (fun h94 => ?_)
        · refine q_iload_n 1 100 dX8_point_99 rfl rfl rfl ?_
          refine q_if_ne 116 103 dX8_point_100 (by decide) rfl (fun h100 => ?_) (fun h100 => absurd h100 hp)
          refine q_aload_n 0 117 dX8_point_116 rfl rfl rfl ?_
          refine q_dup 118 dX8_point_117 rfl rfl ?_
          refine q_getI 0 121 f_X8_37 dX8_point_118 rfl rfl rfl ?_
          refine q_iconst 1 122 dX8_point_121 ic_1 rfl ?_
          refine q_iadd 123 dX8_point_122 rfl ?_
          refine q_putI 0 126 (w' := [_]) f_X8_37 ft_X8_8 dX8_point_123 rfl rfl rfl rfl ?_
          refine q_aload_n 0 127 dX8_point_126 rfl rfl rfl ?_
          refine q_aload_n 0 128 dX8_point_127 rfl rfl rfl ?_
          refine q_getI 0 131 f_X8_40 dX8_point_128 rfl rfl rfl ?_
          refine q_ineg 132 dX8_point_131 rfl ?_
          refine q_aload_n 0 133 dX8_point_132 rfl rfl rfl ?_
          refine q_getI 0 136 f_X8_43 dX8_point_133 rfl rfl rfl ?_
          refine q_aload_n 0 137 dX8_point_136 rfl rfl rfl ?_
          refine q_getI 0 140 f_X8_18 dX8_point_137 rfl rfl rfl ?_
          refine q_cVv 0 [0] [] [0] 143 (wr := []) (w1 := _) (ws' := [_]) c_X8_restart m_X8_85 dX8_point_140 rfl rfl rfl rfl rfl rfl rfl rfl (by decide) (by decide) (by decide) (by decide) (Nat.le_of_ble_eq_true rfl) (by omega) (by omega) (by omega) rfl ?_
          refine q_iconst 1 144 dX8_point_143 ic_1 rfl ?_
          refine q_zreturn dX8_point_144 rfl (Or.inr rfl) ?_
          exact pR.mk (by simp_all [sWins, sMine, sHis]) (by simp_all [sPtE, sWins, sMine, sHis, sBump])
        · refine q_iconst 0 98 dX8_point_97 ic_0 rfl ?_
          refine q_zreturn dX8_point_98 rfl (Or.inl rfl) ?_
          exact pR.mk (by simp_all [sWins, sMine, sHis]) (by simp_all [sPtE, sWins, sMine, sHis, sBump])
  have K27 : ∀ t : Sc, WPs l g mtX8_point 2 0 0 (pR (some (.int (sWins (sPt1 t) p))) [(q, ob 8 (sPtE (sPt1 t) p) [])]) noX a 27 [some (.ref q), some (.int p), none, none] [] [(q, ob 8 t [])] 0 0 := by
    intro t
    by_cases hc : t 0 = 4 ∧ t 1 = 4
    · rw [show sPt1 t = upd (upd t 0 3) 1 3 from if_pos hc]
      refine q_aload_n 0 28 dX8_point_27 rfl rfl rfl ?_
      refine q_getI 0 31 f_X8_9 dX8_point_28 rfl rfl rfl ?_
      refine q_iconst 4 32 dX8_point_31 ic_4 rfl ?_
      refine q_icmp_ne 53 35 dX8_point_32 (by decide) rfl (fun h32 => absurd hc.1 h32) (fun h32 => ?_)
      refine q_aload_n 0 36 dX8_point_35 rfl rfl rfl ?_
      refine q_getI 0 39 f_X8_15 dX8_point_36 rfl rfl rfl ?_
      refine q_iconst 4 40 dX8_point_39 ic_4 rfl ?_
      refine q_icmp_ne 53 43 dX8_point_40 (by decide) rfl (fun h40 => absurd hc.2 h40) (fun h40 => ?_)
      refine q_aload_n 0 44 dX8_point_43 rfl rfl rfl ?_
      refine q_iconst 3 45 dX8_point_44 ic_3 rfl ?_
      refine q_putI 0 48 (w' := [_]) f_X8_9 ft_X8_0 dX8_point_45 rfl rfl rfl rfl ?_
      refine q_aload_n 0 49 dX8_point_48 rfl rfl rfl ?_
      refine q_iconst 3 50 dX8_point_49 ic_3 rfl ?_
      refine q_putI 0 53 (w' := [_]) f_X8_15 ft_X8_1 dX8_point_50 rfl rfl rfl rfl ?_
      exact K53 _
    · rw [show sPt1 t = t from if_neg hc]
      refine q_aload_n 0 28 dX8_point_27 rfl rfl rfl ?_
      refine q_getI 0 31 f_X8_9 dX8_point_28 rfl rfl rfl ?_
      refine q_iconst 4 32 dX8_point_31 ic_4 rfl ?_
      refine q_icmp_ne 53 35 dX8_point_32 (by decide) rfl (fun h32 => ?_) (fun h32 => ?_)
      · exact K53 _
      · refine q_aload_n 0 36 dX8_point_35 rfl rfl rfl ?_
        refine q_getI 0 39 f_X8_15 dX8_point_36 rfl rfl rfl ?_
        refine q_iconst 4 40 dX8_point_39 ic_4 rfl ?_
        refine q_icmp_ne 53 43 dX8_point_40 (by decide) rfl (fun h40 => ?_) (fun h40 => absurd h40 (fun h => hc ⟨h32, h⟩))
        exact K53 _
  unfold sPtW sPt sPt0
  by_cases hp : p = 0
  · rw [if_pos hp]
    refine q_iload_n 1 1 dX8_point_0 rfl rfl rfl ?_
    refine q_if_ne 17 4 dX8_point_1 (by decide) rfl (fun h1 => absurd hp h1) (fun h1 => ?_)
    refine q_aload_n 0 5 dX8_point_4 rfl rfl rfl ?_
    refine q_dup 6 dX8_point_5 rfl rfl ?_
    refine q_getI 0 9 f_X8_9 dX8_point_6 rfl rfl rfl ?_
    refine q_iconst 1 10 dX8_point_9 ic_1 rfl ?_
    refine q_iadd 11 dX8_point_10 rfl ?_
    refine q_putI 0 14 (w' := [_]) f_X8_9 ft_X8_0 dX8_point_11 rfl rfl rfl rfl ?_
    refine q_goto 27 dX8_point_14 (by decide) ?_
    exact K27 _
  · rw [if_neg hp]
    refine q_iload_n 1 1 dX8_point_0 rfl rfl rfl ?_
    refine q_if_ne 17 4 dX8_point_1 (by decide) rfl (fun h1 => ?_) (fun h1 => absurd h1 hp)
    refine q_aload_n 0 18 dX8_point_17 rfl rfl rfl ?_
    refine q_dup 19 dX8_point_18 rfl rfl ?_
    refine q_getI 0 22 f_X8_15 dX8_point_19 rfl rfl rfl ?_
    refine q_iconst 1 23 dX8_point_22 ic_1 rfl ?_
    refine q_iadd 24 dX8_point_23 rfl ?_
    refine q_putI 0 27 (w' := [_]) f_X8_15 ft_X8_1 dX8_point_24 rfl rfl rfl rfl ?_
    exact K27 _

