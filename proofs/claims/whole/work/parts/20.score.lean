/-! ===== the class's Score: its cells are a function of field numbers (0 first, 1 second, 2 server, 3 chases, 4 line, 5 nextLine, 6 off, 7 firstGames, 8 secondGames, 9 owed, 10 given) ===== -/
abbrev Sc : Type := Nat → Int32
def sRestart (s : Sc) (x y z : Int32) : Sc := upd (upd (upd (upd (upd s 0 x) 1 y) 2 z) 3 0) 6 0
def sPog (s : Sc) : Int32 := if 3 ≤ s 0 ∧ s 1 < s 0 ∨ 3 ≤ s 1 ∧ s 0 < s 1 then 1 else 0
theorem sPog_or (s : Sc) : sPog s = 0 ∨ sPog s = 1 := by unfold sPog; split <;> simp
def sOver (s i : Nat → Int32) : Int32 := if i 1 ≤ s 7 ∨ i 1 ≤ s 8 then 1 else 0
theorem sOver_or (s i : Sc) : sOver s i = 0 ∨ sOver s i = 1 := by unfold sOver; split <;> simp
theorem lt3 {x y : Int32} (h : ¬ x < y) : y ≤ x := Int32.not_lt.mp h
theorem nlt3 {x y : Int32} (h : x < y) : ¬ y ≤ x := Int32.not_le.mpr h
theorem c_X8_restart {l : Launch} {g : Gh} {q : Nat} {s : Sc} {x y z : Int32} : Cp l g yX8_restart (Cond.code yX8_restart cX8_restart 4 none) 1 [.ref q, .int x, .int y, .int z] [(q, ob 8 s [])] none [(q, ob 8 (sRestart s x y z) [])] := by
  refine ct_of (M := mtX8_restart) [some (.ref q), some (.int x), some (.int y), some (.int z)] rfl (by decide) (Nat.le_of_ble_eq_true rfl) (fun _ h => h) (fun a => ?_)
  refine q_aload_n 0 1 dX8_restart_0 rfl rfl rfl ?_
  refine q_iload_n 1 2 dX8_restart_1 rfl rfl rfl ?_
  refine q_putI 0 5 (w' := [_]) f_X8_9 ft_X8_0 dX8_restart_2 rfl rfl rfl rfl ?_
  refine q_aload_n 0 6 dX8_restart_5 rfl rfl rfl ?_
  refine q_iload_n 2 7 dX8_restart_6 rfl rfl rfl ?_
  refine q_putI 0 10 (w' := [_]) f_X8_15 ft_X8_1 dX8_restart_7 rfl rfl rfl rfl ?_
  refine q_aload_n 0 11 dX8_restart_10 rfl rfl rfl ?_
  refine q_iload_n 3 12 dX8_restart_11 rfl rfl rfl ?_
  refine q_putI 0 15 (w' := [_]) f_X8_18 ft_X8_2 dX8_restart_12 rfl rfl rfl rfl ?_
  refine q_aload_n 0 16 dX8_restart_15 rfl rfl rfl ?_
  refine q_iconst 0 17 dX8_restart_16 ic_0 rfl ?_
  refine q_putI 0 20 (w' := [_]) f_X8_21 ft_X8_3 dX8_restart_17 rfl rfl rfl rfl ?_
  refine q_aload_n 0 21 dX8_restart_20 rfl rfl rfl ?_
  refine q_iconst 0 22 dX8_restart_21 ic_0 rfl ?_
  refine q_putZ 0 25 (w' := [_]) f_X8_30 ft_X8_6 dX8_restart_22 rfl rfl (Or.inl rfl) rfl rfl ?_
  refine q_return dX8_restart_25 rfl ?_
  exact pR.rf
theorem c_X8_isPog {l : Launch} {g : Gh} {q : Nat} {s : Sc} : Cp l g yX8_isPointOfGame (Cond.code yX8_isPointOfGame cX8_isPointOfGame 1 (some .boolean)) 1 [.ref q] [(q, ob 8 s [])] (some (.int (sPog s))) [(q, ob 8 s [])] := by
  refine ct_of (M := mtX8_isPointOfGame) [some (.ref q)] rfl (by decide) (Nat.le_of_ble_eq_true rfl) (fun _ h => h) (fun a => ?_)
  refine q_aload_n 0 1 dX8_isPointOfGame_0 rfl rfl rfl ?_
  refine q_getI 0 4 f_X8_9 dX8_isPointOfGame_1 rfl rfl rfl ?_
  refine q_iconst 3 5 dX8_isPointOfGame_4 ic_3 rfl ?_
  refine q_icmp_lt 19 8 dX8_isPointOfGame_5 (by decide) rfl (fun h5 => ?_) (fun h5 => ?_)
  · refine q_aload_n 0 20 dX8_isPointOfGame_19 rfl rfl rfl ?_
    refine q_getI 0 23 f_X8_15 dX8_isPointOfGame_20 rfl rfl rfl ?_
    refine q_iconst 3 24 dX8_isPointOfGame_23 ic_3 rfl ?_
    refine q_icmp_lt 42 27 dX8_isPointOfGame_24 (by decide) rfl (fun h24 => ?_) (fun h24 => ?_)
    · refine q_iconst 0 43 dX8_isPointOfGame_42 ic_0 rfl ?_
      refine q_zreturn dX8_isPointOfGame_43 rfl (Or.inl rfl) ?_
      exact pR.mk (by unfold sPog; split <;> first | rfl | (exfalso; (try simp only [i_lt, i_le, i_eq, Int32.reduceToInt] at *); omega)) rfl
    · refine q_aload_n 0 28 dX8_isPointOfGame_27 rfl rfl rfl ?_
      refine q_getI 0 31 f_X8_15 dX8_isPointOfGame_28 rfl rfl rfl ?_
      refine q_aload_n 0 32 dX8_isPointOfGame_31 rfl rfl rfl ?_
      refine q_getI 0 35 f_X8_9 dX8_isPointOfGame_32 rfl rfl rfl ?_
      refine q_icmp_le 42 38 dX8_isPointOfGame_35 (by decide) rfl (fun h35 => ?_) (fun h35 => ?_)
      · refine q_iconst 0 43 dX8_isPointOfGame_42 ic_0 rfl ?_
        refine q_zreturn dX8_isPointOfGame_43 rfl (Or.inl rfl) ?_
        exact pR.mk (by unfold sPog; split <;> first | rfl | (exfalso; (try simp only [i_lt, i_le, i_eq, Int32.reduceToInt] at *); omega)) rfl
      · refine q_iconst 1 39 dX8_isPointOfGame_38 ic_1 rfl ?_
        refine q_goto 43 dX8_isPointOfGame_39 (by decide) ?_
        refine q_zreturn dX8_isPointOfGame_43 rfl (Or.inr rfl) ?_
        exact pR.mk (by unfold sPog; split <;> first | rfl | (exfalso; (try simp only [i_lt, i_le, i_eq, Int32.reduceToInt] at *); omega)) rfl
  · refine q_aload_n 0 9 dX8_isPointOfGame_8 rfl rfl rfl ?_
    refine q_getI 0 12 f_X8_9 dX8_isPointOfGame_9 rfl rfl rfl ?_
    refine q_aload_n 0 13 dX8_isPointOfGame_12 rfl rfl rfl ?_
    refine q_getI 0 16 f_X8_15 dX8_isPointOfGame_13 rfl rfl rfl ?_
    refine q_icmp_gt 38 19 dX8_isPointOfGame_16 (by decide) rfl (fun h16 => ?_) (fun h16 => ?_)
    · refine q_iconst 1 39 dX8_isPointOfGame_38 ic_1 rfl ?_
      refine q_goto 43 dX8_isPointOfGame_39 (by decide) ?_
      refine q_zreturn dX8_isPointOfGame_43 rfl (Or.inr rfl) ?_
      exact pR.mk (by unfold sPog; split <;> first | rfl | (exfalso; (try simp only [i_lt, i_le, i_eq, Int32.reduceToInt] at *); omega)) rfl
    · refine q_aload_n 0 20 dX8_isPointOfGame_19 rfl rfl rfl ?_
      refine q_getI 0 23 f_X8_15 dX8_isPointOfGame_20 rfl rfl rfl ?_
      refine q_iconst 3 24 dX8_isPointOfGame_23 ic_3 rfl ?_
      refine q_icmp_lt 42 27 dX8_isPointOfGame_24 (by decide) rfl (fun h24 => ?_) (fun h24 => ?_)
      · refine q_iconst 0 43 dX8_isPointOfGame_42 ic_0 rfl ?_
        refine q_zreturn dX8_isPointOfGame_43 rfl (Or.inl rfl) ?_
        exact pR.mk (by unfold sPog; split <;> first | rfl | (exfalso; (try simp only [i_lt, i_le, i_eq, Int32.reduceToInt] at *); omega)) rfl
      · refine q_aload_n 0 28 dX8_isPointOfGame_27 rfl rfl rfl ?_
        refine q_getI 0 31 f_X8_15 dX8_isPointOfGame_28 rfl rfl rfl ?_
        refine q_aload_n 0 32 dX8_isPointOfGame_31 rfl rfl rfl ?_
        refine q_getI 0 35 f_X8_9 dX8_isPointOfGame_32 rfl rfl rfl ?_
        refine q_icmp_le 42 38 dX8_isPointOfGame_35 (by decide) rfl (fun h35 => ?_) (fun h35 => ?_)
        · refine q_iconst 0 43 dX8_isPointOfGame_42 ic_0 rfl ?_
          refine q_zreturn dX8_isPointOfGame_43 rfl (Or.inl rfl) ?_
          exact pR.mk (by unfold sPog; split <;> first | rfl | (exfalso; (try simp only [i_lt, i_le, i_eq, Int32.reduceToInt] at *); omega)) rfl
        · refine q_iconst 1 39 dX8_isPointOfGame_38 ic_1 rfl ?_
          refine q_goto 43 dX8_isPointOfGame_39 (by decide) ?_
          refine q_zreturn dX8_isPointOfGame_43 rfl (Or.inr rfl) ?_
          exact pR.mk (by unfold sPog; split <;> first | rfl | (exfalso; (try simp only [i_lt, i_le, i_eq, Int32.reduceToInt] at *); omega)) rfl
def sEnds (s : Sc) (club : Int32) : Sc := if s 6 ≠ 0 ∨ s 3 = 0 then s else if s 3 = 2 ∨ club = 1 ∨ (club = 0 ∧ sPog s ≠ 0) then upd (upd s 2 (1 - s 2)) 6 1 else s
theorem c_X8_changeEnds {l : Launch} {g : Gh} {q : Nat} {s : Sc} {x : Int32} : Cp l g yX8_changeEnds (Cond.code yX8_changeEnds cX8_changeEnds 2 none) 2 [.ref q, .int x] [(q, ob 8 s [])] none [(q, ob 8 (sEnds s x) [])] := by
  refine ct_of (M := mtX8_changeEnds) [some (.ref q), some (.int x)] rfl (by decide) (Nat.le_of_ble_eq_true rfl) (fun _ h => h) (fun a => ?_)
  refine q_aload_n 0 1 dX8_changeEnds_0 rfl rfl rfl ?_
  refine q_getI 0 4 f_X8_30 dX8_changeEnds_1 rfl rfl rfl ?_
  refine q_if_ne 14 7 dX8_changeEnds_4 (by decide) rfl (fun h4 => ?_) (fun h4 => ?_)
  · refine q_return dX8_changeEnds_14 rfl ?_
    exact pR.mk rfl (by simp_all [sEnds])
  · refine q_aload_n 0 8 dX8_changeEnds_7 rfl rfl rfl ?_
    refine q_getI 0 11 f_X8_21 dX8_changeEnds_8 rfl rfl rfl ?_
    refine q_if_ne 15 14 dX8_changeEnds_11 (by decide) rfl (fun h11 => ?_) (fun h11 => ?_)
    · refine q_aload_n 0 16 dX8_changeEnds_15 rfl rfl rfl ?_
      refine q_getI 0 19 f_X8_21 dX8_changeEnds_16 rfl rfl rfl ?_
      refine q_iconst 2 20 dX8_changeEnds_19 ic_2 rfl ?_
      refine q_icmp_eq 39 23 dX8_changeEnds_20 (by decide) rfl (fun h20 => ?_) (fun h20 => ?_)
      · refine q_aload_n 0 40 dX8_changeEnds_39 rfl rfl rfl ?_
        refine q_iconst 1 41 dX8_changeEnds_40 ic_1 rfl ?_
        refine q_aload_n 0 42 dX8_changeEnds_41 rfl rfl rfl ?_
        refine q_getI 0 45 f_X8_18 dX8_changeEnds_42 rfl rfl rfl ?_
        refine q_isub 46 dX8_changeEnds_45 rfl ?_
        refine q_putI 0 49 (w' := [_]) f_X8_18 ft_X8_2 dX8_changeEnds_46 rfl rfl rfl rfl ?_
        refine q_aload_n 0 50 dX8_changeEnds_49 rfl rfl rfl ?_
        refine q_iconst 1 51 dX8_changeEnds_50 ic_1 rfl ?_
        refine q_putZ 0 54 (w' := [_]) f_X8_30 ft_X8_6 dX8_changeEnds_51 rfl rfl (Or.inr rfl) rfl rfl ?_
        refine q_return dX8_changeEnds_54 rfl ?_
        exact pR.mk rfl (by simp_all [sEnds])
      · refine q_iload_n 1 24 dX8_changeEnds_23 rfl rfl rfl ?_
        refine q_iconst 1 25 dX8_changeEnds_24 ic_1 rfl ?_
        refine q_icmp_eq 39 28 dX8_changeEnds_25 (by decide) rfl (fun h25 => ?_) (fun h25 => ?_)
        · refine q_aload_n 0 40 dX8_changeEnds_39 rfl rfl rfl ?_
          refine q_iconst 1 41 dX8_changeEnds_40 ic_1 rfl ?_
          refine q_aload_n 0 42 dX8_changeEnds_41 rfl rfl rfl ?_
          refine q_getI 0 45 f_X8_18 dX8_changeEnds_42 rfl rfl rfl ?_
          refine q_isub 46 dX8_changeEnds_45 rfl ?_
          refine q_putI 0 49 (w' := [_]) f_X8_18 ft_X8_2 dX8_changeEnds_46 rfl rfl rfl rfl ?_
          refine q_aload_n 0 50 dX8_changeEnds_49 rfl rfl rfl ?_
          refine q_iconst 1 51 dX8_changeEnds_50 ic_1 rfl ?_
          refine q_putZ 0 54 (w' := [_]) f_X8_30 ft_X8_6 dX8_changeEnds_51 rfl rfl (Or.inr rfl) rfl rfl ?_
          refine q_return dX8_changeEnds_54 rfl ?_
          exact pR.mk rfl (by simp_all [sEnds])
        · refine q_iload_n 1 29 dX8_changeEnds_28 rfl rfl rfl ?_
          refine q_if_ne 54 32 dX8_changeEnds_29 (by decide) rfl (fun h29 => ?_) (fun h29 => ?_)
          · refine q_return dX8_changeEnds_54 rfl ?_
            exact pR.mk rfl (by simp_all [sEnds])
          · refine q_aload_n 0 33 dX8_changeEnds_32 rfl rfl rfl ?_
            refine q_cVi 0 [0] [] [0] 36 (wr := []) (w1 := _) (ws' := [_]) c_X8_isPog m_X8_51 dX8_changeEnds_33 rfl rfl rfl rfl rfl rfl rfl rfl (by decide) (by decide) (by decide) (by decide) (Nat.le_of_ble_eq_true rfl) (by omega) (by omega) (by omega) rfl ?_
            refine q_if_eq 54 39 dX8_changeEnds_36 (by decide) rfl (fun h36 => ?_) (fun h36 => ?_)
            · refine q_return dX8_changeEnds_54 rfl ?_
              exact pR.mk rfl (by simp_all [sEnds])
            · refine q_aload_n 0 40 dX8_changeEnds_39 rfl rfl rfl ?_
              refine q_iconst 1 41 dX8_changeEnds_40 ic_1 rfl ?_
              refine q_aload_n 0 42 dX8_changeEnds_41 rfl rfl rfl ?_
              refine q_getI 0 45 f_X8_18 dX8_changeEnds_42 rfl rfl rfl ?_
              refine q_isub 46 dX8_changeEnds_45 rfl ?_
              refine q_putI 0 49 (w' := [_]) f_X8_18 ft_X8_2 dX8_changeEnds_46 rfl rfl rfl rfl ?_
              refine q_aload_n 0 50 dX8_changeEnds_49 rfl rfl rfl ?_
              refine q_iconst 1 51 dX8_changeEnds_50 ic_1 rfl ?_
              refine q_putZ 0 54 (w' := [_]) f_X8_30 ft_X8_6 dX8_changeEnds_51 rfl rfl (Or.inr rfl) rfl rfl ?_
              refine q_return dX8_changeEnds_54 rfl ?_
              exact pR.mk rfl (by simp_all [sEnds])
    · refine q_return dX8_changeEnds_14 rfl ?_
      exact pR.mk rfl (by simp_all [sEnds])
theorem c_X8_isOver {l : Launch} {g : Gh} {q q1 : Nat} {s : Sc} {i : Nat → Int32} {r : List (Option Nat)} : Cp l g yX8_isOver (Cond.code yX8_isOver cX8_isOver 2 (some .boolean)) 1 [.ref q, .ref q1] [(q, ob 8 s []), (q1, ob 0 i r)] (some (.int (sOver s i))) [(q, ob 8 s []), (q1, ob 0 i r)] := by
  refine ct_of (M := mtX8_isOver) [some (.ref q), some (.ref q1)] rfl (by decide) (Nat.le_of_ble_eq_true rfl) (fun _ h => h) (fun a => ?_)
  refine q_aload_n 0 1 dX8_isOver_0 rfl rfl rfl ?_
  refine q_getI 0 4 f_X8_34 dX8_isOver_1 rfl rfl rfl ?_
  refine q_aload_n 1 5 dX8_isOver_4 rfl rfl rfl ?_
  refine q_getI 1 8 f_X8_46 dX8_isOver_5 rfl rfl rfl ?_
  refine q_icmp_ge 22 11 dX8_isOver_8 (by decide) rfl (fun h8 => ?_) (fun h8 => ?_)
  · refine q_iconst 1 23 dX8_isOver_22 ic_1 rfl ?_
    refine q_goto 27 dX8_isOver_23 (by decide) ?_
    refine q_zreturn dX8_isOver_27 rfl (Or.inr rfl) ?_
    exact pR.mk (by unfold sOver; split <;> first | rfl | (exfalso; (try simp only [i_lt, i_le, i_eq, Int32.reduceToInt] at *); omega)) rfl
  · refine q_aload_n 0 12 dX8_isOver_11 rfl rfl rfl ?_
    refine q_getI 0 15 f_X8_37 dX8_isOver_12 rfl rfl rfl ?_
    refine q_aload_n 1 16 dX8_isOver_15 rfl rfl rfl ?_
    refine q_getI 1 19 f_X8_46 dX8_isOver_16 rfl rfl rfl ?_
    refine q_icmp_lt 26 22 dX8_isOver_19 (by decide) rfl (fun h19 => ?_) (fun h19 => ?_)
    · refine q_iconst 0 27 dX8_isOver_26 ic_0 rfl ?_
      refine q_zreturn dX8_isOver_27 rfl (Or.inl rfl) ?_
      exact pR.mk (by unfold sOver; split <;> first | rfl | (exfalso; (try simp only [i_lt, i_le, i_eq, Int32.reduceToInt] at *); omega)) rfl
    · refine q_iconst 1 23 dX8_isOver_22 ic_1 rfl ?_
      refine q_goto 27 dX8_isOver_23 (by decide) ?_
      refine q_zreturn dX8_isOver_27 rfl (Or.inr rfl) ?_
      exact pR.mk (by unfold sOver; split <;> first | rfl | (exfalso; (try simp only [i_lt, i_le, i_eq, Int32.reduceToInt] at *); omega)) rfl
def sAdd (s : Sc) (x : Int32) : Sc := upd (if s 3 = 0 then upd s 4 x else upd s 5 x) 3 (s 3 + 1)
theorem c_X8_addChase {l : Launch} {g : Gh} {q : Nat} {s : Sc} {x : Int32} : Cp l g yX8_addChase (Cond.code yX8_addChase cX8_addChase 2 none) 1 [.ref q, .int x] [(q, ob 8 s [])] none [(q, ob 8 (sAdd s x) [])] := by
  refine ct_of (M := mtX8_addChase) [some (.ref q), some (.int x)] rfl (by decide) (Nat.le_of_ble_eq_true rfl) (fun _ h => h) (fun a => ?_)
  refine q_aload_n 0 1 dX8_addChase_0 rfl rfl rfl ?_
  refine q_getI 0 4 f_X8_21 dX8_addChase_1 rfl rfl rfl ?_
  refine q_if_ne 15 7 dX8_addChase_4 (by decide) rfl (fun h4 => ?_) (fun h4 => ?_)
  · refine q_aload_n 0 16 dX8_addChase_15 rfl rfl rfl ?_
    refine q_iload_n 1 17 dX8_addChase_16 rfl rfl rfl ?_
    refine q_putI 0 20 (w' := [_]) f_X8_27 ft_X8_5 dX8_addChase_17 rfl rfl rfl rfl ?_
    refine q_aload_n 0 21 dX8_addChase_20 rfl rfl rfl ?_
    refine q_dup 22 dX8_addChase_21 rfl rfl ?_
    refine q_getI 0 25 f_X8_21 dX8_addChase_22 rfl rfl rfl ?_
    refine q_iconst 1 26 dX8_addChase_25 ic_1 rfl ?_
    refine q_iadd 27 dX8_addChase_26 rfl ?_
    refine q_putI 0 30 (w' := [_]) f_X8_21 ft_X8_3 dX8_addChase_27 rfl rfl rfl rfl ?_
    refine q_return dX8_addChase_30 rfl ?_
    exact pR.mk rfl (by simp_all [sAdd, upd])
  · refine q_aload_n 0 8 dX8_addChase_7 rfl rfl rfl ?_
    refine q_iload_n 1 9 dX8_addChase_8 rfl rfl rfl ?_
    refine q_putI 0 12 (w' := [_]) f_X8_24 ft_X8_4 dX8_addChase_9 rfl rfl rfl rfl ?_
    refine q_goto 20 dX8_addChase_12 (by decide) ?_
    refine q_aload_n 0 21 dX8_addChase_20 rfl rfl rfl ?_
    refine q_dup 22 dX8_addChase_21 rfl rfl ?_
    refine q_getI 0 25 f_X8_21 dX8_addChase_22 rfl rfl rfl ?_
    refine q_iconst 1 26 dX8_addChase_25 ic_1 rfl ?_
    refine q_iadd 27 dX8_addChase_26 rfl ?_
    refine q_putI 0 30 (w' := [_]) f_X8_21 ft_X8_3 dX8_addChase_27 rfl rfl rfl rfl ?_
    refine q_return dX8_addChase_30 rfl ?_
    exact pR.mk rfl (by simp_all [sAdd, upd])
def sPt0 (s : Sc) (p : Int32) : Sc := if p = 0 then upd s 0 (s 0 + 1) else upd s 1 (s 1 + 1)
def sPt1 (s : Sc) : Sc := if s 0 = 4 ∧ s 1 = 4 then upd (upd s 0 3) 1 3 else s
def sMine (s : Sc) (p : Int32) : Int32 := if p = 0 then s 0 else s 1
def sHis (s : Sc) (p : Int32) : Int32 := if p = 0 then s 1 else s 0
/-- whether the game is won behind the point -/
def sWins (s : Sc) (p : Int32) : Int32 := if sMine s p < 4 ∨ sMine s p - sHis s p < 2 then 0 else 1
def sBump (s : Sc) (p : Int32) : Sc := if p = 0 then upd s 7 (s 7 + 1) else upd s 8 (s 8 + 1)
def sPtE (s : Sc) (p : Int32) : Sc := if sWins s p = 0 then s else sRestart (sBump s p) (-(sBump s p 9)) (sBump s p 10) (sBump s p 2)
def sPt (s : Sc) (p : Int32) : Sc := sPtE (sPt1 (sPt0 s p)) p
def sPtW (s : Sc) (p : Int32) : Int32 := sWins (sPt1 (sPt0 s p)) p
theorem sWins_or (s : Sc) (p : Int32) : sWins s p = 0 ∨ sWins s p = 1 := by unfold sWins; split <;> simp
theorem c_X8_point {l : Launch} {g : Gh} {q : Nat} {s : Sc} {p : Int32} : Cp l g yX8_point (Cond.code yX8_point cX8_point 4 (some .boolean)) 2 [.ref q, .int p] [(q, ob 8 s [])] (some (.int (sPtW s p))) [(q, ob 8 (sPt s p) [])] := by
  refine ct_of (M := mtX8_point) [some (.ref q), some (.int p), none, none] rfl (by decide) (Nat.le_of_ble_eq_true rfl) (fun _ h => h) (fun a => ?_)
  have K53 : ∀ t : Sc, WPs l g mtX8_point 2 0 0 (pR (some (.int (sWins t p))) [(q, ob 8 (sPtE t p) [])]) noX a 53 [some (.ref q), some (.int p), none, none] [] [(q, ob 8 t [])] 0 0 := by
    intro t
    by_cases hp : p = 0
    · subst hp
      refine q_iload_n 1 54 dX8_point_53 rfl rfl rfl ?_
      refine q_if_ne 64 57 dX8_point_54 (by decide) rfl (fun h54 => absurd rfl h54) (fun h54 => ?_)
      refine q_aload_n 0 58 dX8_point_57 rfl rfl rfl ?_
      refine q_getI 0 61 f_X8_9 dX8_point_58 rfl rfl rfl ?_
      refine q_goto 68 dX8_point_61 (by decide) ?_
      refine q_istore_n 2 69 (L' := [_, _, _, _]) dX8_point_68 rfl (by decide) rfl rfl ?_
      refine q_iload_n 1 70 dX8_point_69 rfl rfl rfl ?_
      refine q_if_ne 80 73 dX8_point_70 (by decide) rfl (fun h70 => absurd rfl h70) (fun h70 => ?_)
      refine q_aload_n 0 74 dX8_point_73 rfl rfl rfl ?_
      refine q_getI 0 77 f_X8_15 dX8_point_74 rfl rfl rfl ?_
      refine q_goto 84 dX8_point_77 (by decide) ?_
      refine q_istore_n 3 85 (L' := [_, _, _, _]) dX8_point_84 rfl (by decide) rfl rfl ?_
      refine q_iload_n 2 86 dX8_point_85 rfl rfl rfl ?_
      refine q_iconst 4 87 dX8_point_86 ic_4 rfl ?_
      refine q_icmp_lt 97 90 dX8_point_87 (by decide) rfl (fun h87 => ?_) (fun h87 => ?_)
      · refine q_iconst 0 98 dX8_point_97 ic_0 rfl ?_
        refine q_zreturn dX8_point_98 rfl (Or.inl rfl) ?_
        exact pR.mk (by simp_all [sWins, sMine, sHis]) (by simp_all [sPtE, sWins, sMine, sHis, sBump])
      · refine q_iload_n 2 91 dX8_point_90 rfl rfl rfl ?_
        refine q_iload_n 3 92 dX8_point_91 rfl rfl rfl ?_
        refine q_isub 93 dX8_point_92 rfl ?_
        refine q_iconst 2 94 dX8_point_93 ic_2 rfl ?_
        refine q_icmp_ge 99 97 dX8_point_94 (by decide) rfl (fun h94 => ?_) (fun h94 => ?_)
        · refine q_iload_n 1 100 dX8_point_99 rfl rfl rfl ?_
          refine q_if_ne 116 103 dX8_point_100 (by decide) rfl (fun h100 => absurd rfl h100) (fun h100 => ?_)
          refine q_aload_n 0 104 dX8_point_103 rfl rfl rfl ?_
          refine q_dup 105 dX8_point_104 rfl rfl ?_
          refine q_getI 0 108 f_X8_34 dX8_point_105 rfl rfl rfl ?_
          refine q_iconst 1 109 dX8_point_108 ic_1 rfl ?_
          refine q_iadd 110 dX8_point_109 rfl ?_
          refine q_putI 0 113 (w' := [_]) f_X8_34 ft_X8_7 dX8_point_110 rfl rfl rfl rfl ?_
          refine q_goto 126 dX8_point_113 (by decide) ?_
          refine q_aload_n 0 127 dX8_point_126 rfl rfl rfl ?_
          refine q_aload_n 0 128 dX8_point_127 rfl rfl rfl ?_
          refine q_getI 0 131 f_X8_40 dX8_point_128 rfl rfl rfl ?_
          refine q_ineg 132 dX8_point_131 rfl ?_
          refine q_aload_n 0 133 dX8_point_132 rfl rfl rfl ?_
          refine q_getI 0 136 f_X8_43 dX8_point_133 rfl rfl rfl ?_
          refine q_aload_n 0 137 dX8_point_136 rfl rfl rfl ?_
          refine q_getI 0 140 f_X8_18 dX8_point_137 rfl rfl rfl ?_
          refine q_cVv 0 [0] [] [0] 143 (wr := []) (w1 := _) (ws' := [_]) c_X8_restart m_X8_85 dX8_point_140 rfl rfl rfl rfl rfl rfl rfl rfl (by decide) (by decide) (by decide) (by decide) (Nat.le_of_ble_eq_true rfl) (by omega) (by omega) (by omega) rfl ?_
          refine q_iconst 1 144 dX8_point_143 ic_1 rfl ?_
          refine q_zreturn dX8_point_144 rfl (Or.inr rfl) ?_
          exact pR.mk (by simp_all [sWins, sMine, sHis]) (by simp_all [sPtE, sWins, sMine, sHis, sBump])
        · refine q_iconst 0 98 dX8_point_97 ic_0 rfl ?_
          refine q_zreturn dX8_point_98 rfl (Or.inl rfl) ?_
          exact pR.mk (by simp_all [sWins, sMine, sHis]) (by simp_all [sPtE, sWins, sMine, sHis, sBump])
    · skip
      refine q_iload_n 1 54 dX8_point_53 rfl rfl rfl ?_
      refine q_if_ne 64 57 dX8_point_54 (by decide) rfl (fun h54 => ?_) (fun h54 => absurd h54 hp)
      refine q_aload_n 0 65 dX8_point_64 rfl rfl rfl ?_
      refine q_getI 0 68 f_X8_15 dX8_point_65 rfl rfl rfl ?_
      refine q_istore_n 2 69 (L' := [_, _, _, _]) dX8_point_68 rfl (by decide) rfl rfl ?_
      refine q_iload_n 1 70 dX8_point_69 rfl rfl rfl ?_
      refine q_if_ne 80 73 dX8_point_70 (by decide) rfl (fun h70 => ?_) (fun h70 => absurd h70 hp)
      refine q_aload_n 0 81 dX8_point_80 rfl rfl rfl ?_
      refine q_getI 0 84 f_X8_9 dX8_point_81 rfl rfl rfl ?_
      refine q_istore_n 3 85 (L' := [_, _, _, _]) dX8_point_84 rfl (by decide) rfl rfl ?_
      refine q_iload_n 2 86 dX8_point_85 rfl rfl rfl ?_
      refine q_iconst 4 87 dX8_point_86 ic_4 rfl ?_
      refine q_icmp_lt 97 90 dX8_point_87 (by decide) rfl (fun h87 => ?_) (fun h87 => ?_)
      · refine q_iconst 0 98 dX8_point_97 ic_0 rfl ?_
        refine q_zreturn dX8_point_98 rfl (Or.inl rfl) ?_
        exact pR.mk (by simp_all [sWins, sMine, sHis]) (by simp_all [sPtE, sWins, sMine, sHis, sBump])
      · refine q_iload_n 2 91 dX8_point_90 rfl rfl rfl ?_
        refine q_iload_n 3 92 dX8_point_91 rfl rfl rfl ?_
        refine q_isub 93 dX8_point_92 rfl ?_
        refine q_iconst 2 94 dX8_point_93 ic_2 rfl ?_
        refine q_icmp_ge 99 97 dX8_point_94 (by decide) rfl (fun h94 => ?_) (fun h94 => ?_)
        · refine q_iload_n 1 100 dX8_point_99 rfl rfl rfl ?_
          refine q_if_ne 116 103 dX8_point_100 (by decide) rfl (fun h100 => ?_) (fun h100 => absurd h100 hp)
          refine q_aload_n 0 117 dX8_point_116 rfl rfl rfl ?_
          refine q_dup 118 dX8_point_117 rfl rfl ?_
          refine q_getI 0 121 f_X8_37 dX8_point_118 rfl rfl rfl ?_
          refine q_iconst 1 122 dX8_point_121 ic_1 rfl ?_
          refine q_iadd 123 dX8_point_122 rfl ?_
          refine q_putI 0 126 (w' := [_]) f_X8_37 ft_X8_8 dX8_point_123 rfl rfl rfl rfl ?_
          refine q_aload_n 0 127 dX8_point_126 rfl rfl rfl ?_
          refine q_aload_n 0 128 dX8_point_127 rfl rfl rfl ?_
          refine q_getI 0 131 f_X8_40 dX8_point_128 rfl rfl rfl ?_
          refine q_ineg 132 dX8_point_131 rfl ?_
          refine q_aload_n 0 133 dX8_point_132 rfl rfl rfl ?_
          refine q_getI 0 136 f_X8_43 dX8_point_133 rfl rfl rfl ?_
          refine q_aload_n 0 137 dX8_point_136 rfl rfl rfl ?_
          refine q_getI 0 140 f_X8_18 dX8_point_137 rfl rfl rfl ?_
          refine q_cVv 0 [0] [] [0] 143 (wr := []) (w1 := _) (ws' := [_]) c_X8_restart m_X8_85 dX8_point_140 rfl rfl rfl rfl rfl rfl rfl rfl (by decide) (by decide) (by decide) (by decide) (Nat.le_of_ble_eq_true rfl) (by omega) (by omega) (by omega) rfl ?_
          refine q_iconst 1 144 dX8_point_143 ic_1 rfl ?_
          refine q_zreturn dX8_point_144 rfl (Or.inr rfl) ?_
          exact pR.mk (by simp_all [sWins, sMine, sHis]) (by simp_all [sPtE, sWins, sMine, sHis, sBump])
        · refine q_iconst 0 98 dX8_point_97 ic_0 rfl ?_
          refine q_zreturn dX8_point_98 rfl (Or.inl rfl) ?_
          exact pR.mk (by simp_all [sWins, sMine, sHis]) (by simp_all [sPtE, sWins, sMine, sHis, sBump])
  have K27 : ∀ t : Sc, WPs l g mtX8_point 2 0 0 (pR (some (.int (sWins (sPt1 t) p))) [(q, ob 8 (sPtE (sPt1 t) p) [])]) noX a 27 [some (.ref q), some (.int p), none, none] [] [(q, ob 8 t [])] 0 0 := by
    intro t
    by_cases hc : t 0 = 4 ∧ t 1 = 4
    · rw [show sPt1 t = upd (upd t 0 3) 1 3 from if_pos hc]
      refine q_aload_n 0 28 dX8_point_27 rfl rfl rfl ?_
      refine q_getI 0 31 f_X8_9 dX8_point_28 rfl rfl rfl ?_
      refine q_iconst 4 32 dX8_point_31 ic_4 rfl ?_
      refine q_icmp_ne 53 35 dX8_point_32 (by decide) rfl (fun h32 => absurd hc.1 h32) (fun h32 => ?_)
      refine q_aload_n 0 36 dX8_point_35 rfl rfl rfl ?_
      refine q_getI 0 39 f_X8_15 dX8_point_36 rfl rfl rfl ?_
      refine q_iconst 4 40 dX8_point_39 ic_4 rfl ?_
      refine q_icmp_ne 53 43 dX8_point_40 (by decide) rfl (fun h40 => absurd hc.2 h40) (fun h40 => ?_)
      refine q_aload_n 0 44 dX8_point_43 rfl rfl rfl ?_
      refine q_iconst 3 45 dX8_point_44 ic_3 rfl ?_
      refine q_putI 0 48 (w' := [_]) f_X8_9 ft_X8_0 dX8_point_45 rfl rfl rfl rfl ?_
      refine q_aload_n 0 49 dX8_point_48 rfl rfl rfl ?_
      refine q_iconst 3 50 dX8_point_49 ic_3 rfl ?_
      refine q_putI 0 53 (w' := [_]) f_X8_15 ft_X8_1 dX8_point_50 rfl rfl rfl rfl ?_
      exact K53 _
    · rw [show sPt1 t = t from if_neg hc]
      refine q_aload_n 0 28 dX8_point_27 rfl rfl rfl ?_
      refine q_getI 0 31 f_X8_9 dX8_point_28 rfl rfl rfl ?_
      refine q_iconst 4 32 dX8_point_31 ic_4 rfl ?_
      refine q_icmp_ne 53 35 dX8_point_32 (by decide) rfl (fun h32 => ?_) (fun h32 => ?_)
      · exact K53 _
      · refine q_aload_n 0 36 dX8_point_35 rfl rfl rfl ?_
        refine q_getI 0 39 f_X8_15 dX8_point_36 rfl rfl rfl ?_
        refine q_iconst 4 40 dX8_point_39 ic_4 rfl ?_
        refine q_icmp_ne 53 43 dX8_point_40 (by decide) rfl (fun h40 => ?_) (fun h40 => absurd h40 (fun h => hc ⟨h32, h⟩))
        exact K53 _
  unfold sPtW sPt sPt0
  by_cases hp : p = 0
  · rw [if_pos hp]
    refine q_iload_n 1 1 dX8_point_0 rfl rfl rfl ?_
    refine q_if_ne 17 4 dX8_point_1 (by decide) rfl (fun h1 => absurd hp h1) (fun h1 => ?_)
    refine q_aload_n 0 5 dX8_point_4 rfl rfl rfl ?_
    refine q_dup 6 dX8_point_5 rfl rfl ?_
    refine q_getI 0 9 f_X8_9 dX8_point_6 rfl rfl rfl ?_
    refine q_iconst 1 10 dX8_point_9 ic_1 rfl ?_
    refine q_iadd 11 dX8_point_10 rfl ?_
    refine q_putI 0 14 (w' := [_]) f_X8_9 ft_X8_0 dX8_point_11 rfl rfl rfl rfl ?_
    refine q_goto 27 dX8_point_14 (by decide) ?_
    exact K27 _
  · rw [if_neg hp]
    refine q_iload_n 1 1 dX8_point_0 rfl rfl rfl ?_
    refine q_if_ne 17 4 dX8_point_1 (by decide) rfl (fun h1 => ?_) (fun h1 => absurd h1 hp)
    refine q_aload_n 0 18 dX8_point_17 rfl rfl rfl ?_
    refine q_dup 19 dX8_point_18 rfl rfl ?_
    refine q_getI 0 22 f_X8_15 dX8_point_19 rfl rfl rfl ?_
    refine q_iconst 1 23 dX8_point_22 ic_1 rfl ?_
    refine q_iadd 24 dX8_point_23 rfl ?_
    refine q_putI 0 27 (w' := [_]) f_X8_15 ft_X8_1 dX8_point_24 rfl rfl rfl rfl ?_
    exact K27 _
theorem obj_ext {ci : Nat} {i i' : Nat → Int32} {r : List (Option Nat)} {j : Nat → Int64} (h : ∀ k, k < (kd ci).length → i k = i' k) : obj ci i r j = obj ci i' r j := by
  have e : fl (kd ci) 0 i r j = fl (kd ci) 0 i' r j := by
    refine fl_ext (by rw [fl_len, fl_len]) fun q hq => ?_
    rw [fl_len] at hq
    rw [fl_get (kd ci) 0 q i r j _ (List.getElem?_eq_getElem hq), fl_get (kd ci) 0 q i' r j _ (List.getElem?_eq_getElem hq)]
    have e1 := h q hq
    generalize (kd ci)[q] = x
    match x with
    | 0 => simp only [fv, Nat.zero_add, e1]
    | 1 => simp only [fv]
    | (x + 2) => simp only [fv]
  unfold obj
  rw [e]
theorem ob8_ext {i i' : Sc} (h : ∀ k, k < 11 → i k = i' k) : ob 8 i [] = ob 8 i' [] := obj_ext h
theorem c_X8_takeFrom {l : Launch} {g : Gh} {q q1 : Nat} {s t : Sc} (hz : t 6 = 0 ∨ t 6 = 1) : Cp l g yX8_takeFrom (Cond.code yX8_takeFrom cX8_takeFrom 2 none) 1 [.ref q, .ref q1] [(q, ob 8 s []), (q1, ob 8 t [])] none [(q, ob 8 t []), (q1, ob 8 t [])] := by
  refine ct_of (M := mtX8_takeFrom) [some (.ref q), some (.ref q1)] rfl (by decide) (Nat.le_of_ble_eq_true rfl) (fun _ h => h) (fun a => ?_)
  refine q_aload_n 0 1 dX8_takeFrom_0 rfl rfl rfl ?_
  refine q_aload_n 1 2 dX8_takeFrom_1 rfl rfl rfl ?_
  refine q_getI 1 5 f_X8_9 dX8_takeFrom_2 rfl rfl rfl ?_
  refine q_putI 0 8 (w' := [_, _]) f_X8_9 ft_X8_0 dX8_takeFrom_5 rfl rfl rfl rfl ?_
  refine q_aload_n 0 9 dX8_takeFrom_8 rfl rfl rfl ?_
  refine q_aload_n 1 10 dX8_takeFrom_9 rfl rfl rfl ?_
  refine q_getI 1 13 f_X8_15 dX8_takeFrom_10 rfl rfl rfl ?_
  refine q_putI 0 16 (w' := [_, _]) f_X8_15 ft_X8_1 dX8_takeFrom_13 rfl rfl rfl rfl ?_
  refine q_aload_n 0 17 dX8_takeFrom_16 rfl rfl rfl ?_
  refine q_aload_n 1 18 dX8_takeFrom_17 rfl rfl rfl ?_
  refine q_getI 1 21 f_X8_18 dX8_takeFrom_18 rfl rfl rfl ?_
  refine q_putI 0 24 (w' := [_, _]) f_X8_18 ft_X8_2 dX8_takeFrom_21 rfl rfl rfl rfl ?_
  refine q_aload_n 0 25 dX8_takeFrom_24 rfl rfl rfl ?_
  refine q_aload_n 1 26 dX8_takeFrom_25 rfl rfl rfl ?_
  refine q_getI 1 29 f_X8_21 dX8_takeFrom_26 rfl rfl rfl ?_
  refine q_putI 0 32 (w' := [_, _]) f_X8_21 ft_X8_3 dX8_takeFrom_29 rfl rfl rfl rfl ?_
  refine q_aload_n 0 33 dX8_takeFrom_32 rfl rfl rfl ?_
  refine q_aload_n 1 34 dX8_takeFrom_33 rfl rfl rfl ?_
  refine q_getI 1 37 f_X8_24 dX8_takeFrom_34 rfl rfl rfl ?_
  refine q_putI 0 40 (w' := [_, _]) f_X8_24 ft_X8_4 dX8_takeFrom_37 rfl rfl rfl rfl ?_
  refine q_aload_n 0 41 dX8_takeFrom_40 rfl rfl rfl ?_
  refine q_aload_n 1 42 dX8_takeFrom_41 rfl rfl rfl ?_
  refine q_getI 1 45 f_X8_27 dX8_takeFrom_42 rfl rfl rfl ?_
  refine q_putI 0 48 (w' := [_, _]) f_X8_27 ft_X8_5 dX8_takeFrom_45 rfl rfl rfl rfl ?_
  refine q_aload_n 0 49 dX8_takeFrom_48 rfl rfl rfl ?_
  refine q_aload_n 1 50 dX8_takeFrom_49 rfl rfl rfl ?_
  refine q_getI 1 53 f_X8_30 dX8_takeFrom_50 rfl rfl rfl ?_
  refine q_putZ 0 56 (w' := [_, _]) f_X8_30 ft_X8_6 dX8_takeFrom_53 rfl rfl hz rfl rfl ?_
  refine q_aload_n 0 57 dX8_takeFrom_56 rfl rfl rfl ?_
  refine q_aload_n 1 58 dX8_takeFrom_57 rfl rfl rfl ?_
  refine q_getI 1 61 f_X8_34 dX8_takeFrom_58 rfl rfl rfl ?_
  refine q_putI 0 64 (w' := [_, _]) f_X8_34 ft_X8_7 dX8_takeFrom_61 rfl rfl rfl rfl ?_
  refine q_aload_n 0 65 dX8_takeFrom_64 rfl rfl rfl ?_
  refine q_aload_n 1 66 dX8_takeFrom_65 rfl rfl rfl ?_
  refine q_getI 1 69 f_X8_37 dX8_takeFrom_66 rfl rfl rfl ?_
  refine q_putI 0 72 (w' := [_, _]) f_X8_37 ft_X8_8 dX8_takeFrom_69 rfl rfl rfl rfl ?_
  refine q_aload_n 0 73 dX8_takeFrom_72 rfl rfl rfl ?_
  refine q_aload_n 1 74 dX8_takeFrom_73 rfl rfl rfl ?_
  refine q_getI 1 77 f_X8_40 dX8_takeFrom_74 rfl rfl rfl ?_
  refine q_putI 0 80 (w' := [_, _]) f_X8_40 ft_X8_9 dX8_takeFrom_77 rfl rfl rfl rfl ?_
  refine q_aload_n 0 81 dX8_takeFrom_80 rfl rfl rfl ?_
  refine q_aload_n 1 82 dX8_takeFrom_81 rfl rfl rfl ?_
  refine q_getI 1 85 f_X8_43 dX8_takeFrom_82 rfl rfl rfl ?_
  refine q_putI 0 88 (w' := [_, _]) f_X8_43 ft_X8_10 dX8_takeFrom_85 rfl rfl rfl rfl ?_
  refine q_return dX8_takeFrom_88 rfl ?_
  refine pR.mk rfl (congrArg (fun e => [(q, e), (q1, ob 8 t [])]) (ob8_ext ?_))
  intro k hk
  match k, hk with
  | 0, _ => rfl
  | 1, _ => rfl
  | 2, _ => rfl
  | 3, _ => rfl
  | 4, _ => rfl
  | 5, _ => rfl
  | 6, _ => rfl
  | 7, _ => rfl
  | 8, _ => rfl
  | 9, _ => rfl
  | 10, _ => rfl
  | (k + 11), hk => exact absurd hk (by omega)
theorem c_X8_init {l : Launch} {g : Gh} {q : Nat} {s : Sc} : Cp l g yX8_init (Cond.code yX8_init cX8_init 1 none) 1 [.ref q] [(q, ob 8 s [])] none [(q, ob 8 s [])] := by
  refine ct_of (M := mtX8_init) [some (.ref q)] rfl (by decide) (Nat.le_of_ble_eq_true rfl) (fun _ h => h) (fun a => ?_)
  refine q_aload_n 0 1 dX8_init_0 rfl rfl rfl ?_
  refine q_objInit 4 m_X8_3 dX8_init_1 (Nat.le_of_ble_eq_true rfl) (by decide) rfl ?_
  refine q_return dX8_init_4 rfl ?_
  exact pR.rf
/-! ===== the JDK's small ones ===== -/
def iCmp (x y : Int32) : Int32 := if x < y then -1 else if x = y then 0 else 1
theorem c_J6_compare {l : Launch} {g : Gh} {x y : Int32} : Cp l g yJ6_compare_7cf53 (Cond.code yJ6_compare_7cf53 cJ6_compare_7cf53 2 (some .int)) 1 [.int x, .int y] [] (some (.int (iCmp x y))) [] := by
  refine ct_of (M := mtJ6_compare_7cf53) [some (.int x), some (.int y)] rfl (by decide) (Nat.le_of_ble_eq_true rfl) (fun _ h => h) (fun a => ?_)
  refine q_iload_n 0 1 dJ6_compare_7cf53_0 rfl rfl rfl ?_
  refine q_iload_n 1 2 dJ6_compare_7cf53_1 rfl rfl rfl ?_
  refine q_icmp_ge 9 5 dJ6_compare_7cf53_2 (by decide) rfl (fun h2 => ?_) (fun h2 => ?_)
  · refine q_iload_n 0 10 dJ6_compare_7cf53_9 rfl rfl rfl ?_
    refine q_iload_n 1 11 dJ6_compare_7cf53_10 rfl rfl rfl ?_
    refine q_icmp_ne 18 14 dJ6_compare_7cf53_11 (by decide) rfl (fun h11 => ?_) (fun h11 => ?_)
    · refine q_iconst 1 19 dJ6_compare_7cf53_18 ic_1 rfl ?_
      refine q_ireturn dJ6_compare_7cf53_19 rfl ?_
      exact pR.mk (by simp_all [iCmp]) rfl
    · refine q_iconst 0 15 dJ6_compare_7cf53_14 ic_0 rfl ?_
      refine q_goto 19 dJ6_compare_7cf53_15 (by decide) ?_
      refine q_ireturn dJ6_compare_7cf53_19 rfl ?_
      exact pR.mk (by simp_all [iCmp]) rfl
  · refine q_iconst (-1) 6 dJ6_compare_7cf53_5 ic_m1 rfl ?_
    refine q_goto 19 dJ6_compare_7cf53_6 (by decide) ?_
    refine q_ireturn dJ6_compare_7cf53_19 rfl ?_
    exact pR.mk (by simp_all [iCmp]) rfl
/-! ===== rallies ===== -/
def lBy (i : Nat → Int32) (c : Int32) : Int32 := if c = 0 then (if i 3 = 1 then 1 else 0) else if c < 0 then 2 else 1
theorem c_X0_pointBy {l : Launch} {g : Gh} {q : Nat} {i : Nat → Int32} {r : List (Option Nat)} {x : Int32} : Cp l g yX0_pointBy (Cond.code yX0_pointBy cX0_pointBy 2 (some .int)) 1 [.ref q, .int x] [(q, ob 0 i r)] (some (.int (lBy i x))) [(q, ob 0 i r)] := by
  refine ct_of (M := mtX0_pointBy) [some (.ref q), some (.int x)] rfl (by decide) (Nat.le_of_ble_eq_true rfl) (fun _ h => h) (fun a => ?_)
  refine q_iload_n 1 1 dX0_pointBy_0 rfl rfl rfl ?_
  refine q_if_ne 18 4 dX0_pointBy_1 (by decide) rfl (fun h1 => ?_) (fun h1 => ?_)
  · refine q_iload_n 1 19 dX0_pointBy_18 rfl rfl rfl ?_
    refine q_if_ge 26 22 dX0_pointBy_19 (by decide) rfl (fun h19 => ?_) (fun h19 => ?_)
    · refine q_iconst 1 27 dX0_pointBy_26 ic_1 rfl ?_
      refine q_ireturn dX0_pointBy_27 rfl ?_
      exact pR.mk (by simp_all [lBy]) rfl
    · refine q_iconst 2 23 dX0_pointBy_22 ic_2 rfl ?_
      refine q_goto 27 dX0_pointBy_23 (by decide) ?_
      refine q_ireturn dX0_pointBy_27 rfl ?_
      exact pR.mk (by simp_all [lBy]) rfl
  · refine q_aload_n 0 5 dX0_pointBy_4 rfl rfl rfl ?_
    refine q_getI 0 8 f_X0_28 dX0_pointBy_5 rfl rfl rfl ?_
    refine q_iconst 1 9 dX0_pointBy_8 ic_1 rfl ?_
    refine q_icmp_ne 16 12 dX0_pointBy_9 (by decide) rfl (fun h9 => ?_) (fun h9 => ?_)
    · refine q_iconst 0 17 dX0_pointBy_16 ic_0 rfl ?_
      refine q_ireturn dX0_pointBy_17 rfl ?_
      exact pR.mk (by simp_all [lBy]) rfl
    · refine q_iconst 1 13 dX0_pointBy_12 ic_1 rfl ?_
      refine q_goto 17 dX0_pointBy_13 (by decide) ?_
      refine q_ireturn dX0_pointBy_17 rfl ?_
      exact pR.mk (by simp_all [lBy]) rfl
def sGive (s : Sc) (w : Int32) : Sc := if w = 0 then s else sPt s (if w = 1 then s 2 else 1 - s 2)
theorem c_X8_givePoint {l : Launch} {g : Gh} {q : Nat} {s : Sc} {x : Int32} : Cp l g yX8_givePoint (Cond.code yX8_givePoint cX8_givePoint 2 none) 3 [.ref q, .int x] [(q, ob 8 s [])] none [(q, ob 8 (sGive s x) [])] := by
  refine ct_of (M := mtX8_givePoint) [some (.ref q), some (.int x)] rfl (by decide) (Nat.le_of_ble_eq_true rfl) (fun _ h => h) (fun a => ?_)
  refine q_iload_n 1 1 dX8_givePoint_0 rfl rfl rfl ?_
  refine q_if_eq 27 4 dX8_givePoint_1 (by decide) rfl (fun h1 => ?_) (fun h1 => ?_)
  · refine q_return dX8_givePoint_27 rfl ?_
    exact pR.mk rfl (by simp_all [sGive])
  · refine q_aload_n 0 5 dX8_givePoint_4 rfl rfl rfl ?_
    refine q_iload_n 1 6 dX8_givePoint_5 rfl rfl rfl ?_
    refine q_iconst 1 7 dX8_givePoint_6 ic_1 rfl ?_
    refine q_icmp_ne 17 10 dX8_givePoint_7 (by decide) rfl (fun h7 => ?_) (fun h7 => ?_)
    · refine q_iconst 1 18 dX8_givePoint_17 ic_1 rfl ?_
      refine q_aload_n 0 19 dX8_givePoint_18 rfl rfl rfl ?_
      refine q_getI 0 22 f_X8_18 dX8_givePoint_19 rfl rfl rfl ?_
      refine q_isub 23 dX8_givePoint_22 rfl ?_
      refine q_cVi 0 [0] [] [0] 26 (wr := []) (w1 := _) (ws' := [_]) c_X8_point m_X8_81 dX8_givePoint_23 rfl rfl rfl rfl rfl rfl rfl rfl (by decide) (by decide) (by decide) (by decide) (Nat.le_of_ble_eq_true rfl) (by omega) (by omega) (by omega) rfl ?_
      refine q_pop 27 dX8_givePoint_26 rfl rfl ?_
      refine q_return dX8_givePoint_27 rfl ?_
      exact pR.mk rfl (by simp_all [sGive])
    · refine q_aload_n 0 11 dX8_givePoint_10 rfl rfl rfl ?_
      refine q_getI 0 14 f_X8_18 dX8_givePoint_11 rfl rfl rfl ?_
      refine q_goto 23 dX8_givePoint_14 (by decide) ?_
      refine q_cVi 0 [0] [] [0] 26 (wr := []) (w1 := _) (ws' := [_]) c_X8_point m_X8_81 dX8_givePoint_23 rfl rfl rfl rfl rfl rfl rfl rfl (by decide) (by decide) (by decide) (by decide) (Nat.le_of_ble_eq_true rfl) (by omega) (by omega) (by omega) rfl ?_
      refine q_pop 27 dX8_givePoint_26 rfl rfl ?_
      refine q_return dX8_givePoint_27 rfl ?_
      exact pR.mk rfl (by simp_all [sGive])
def sOff0 (s : Sc) : Sc := upd (upd s 4 (s 5)) 3 (s 3 - 1)
def sPlayOff (s : Sc) (w : Int32) : Sc := sGive (upd (sOff0 s) 6 (if s 3 - 1 ≤ 0 then 0 else 1)) w
theorem c_X8_playOff {l : Launch} {g : Gh} {q : Nat} {s : Sc} {x : Int32} : Cp l g yX8_playOff (Cond.code yX8_playOff cX8_playOff 2 none) 4 [.ref q, .int x] [(q, ob 8 s [])] none [(q, ob 8 (sPlayOff s x) [])] := by
  refine ct_of (M := mtX8_playOff) [some (.ref q), some (.int x)] rfl (by decide) (Nat.le_of_ble_eq_true rfl) (fun _ h => h) (fun a => ?_)
  refine q_aload_n 0 1 dX8_playOff_0 rfl rfl rfl ?_
  refine q_aload_n 0 2 dX8_playOff_1 rfl rfl rfl ?_
  refine q_getI 0 5 f_X8_27 dX8_playOff_2 rfl rfl rfl ?_
  refine q_putI 0 8 (w' := [_]) f_X8_24 ft_X8_4 dX8_playOff_5 rfl rfl rfl rfl ?_
  refine q_aload_n 0 9 dX8_playOff_8 rfl rfl rfl ?_
  refine q_dup 10 dX8_playOff_9 rfl rfl ?_
  refine q_getI 0 13 f_X8_21 dX8_playOff_10 rfl rfl rfl ?_
  refine q_iconst 1 14 dX8_playOff_13 ic_1 rfl ?_
  refine q_isub 15 dX8_playOff_14 rfl ?_
  refine q_putI 0 18 (w' := [_]) f_X8_21 ft_X8_3 dX8_playOff_15 rfl rfl rfl rfl ?_
  refine q_aload_n 0 19 dX8_playOff_18 rfl rfl rfl ?_
  refine q_aload_n 0 20 dX8_playOff_19 rfl rfl rfl ?_
  refine q_getI 0 23 f_X8_21 dX8_playOff_20 rfl rfl rfl ?_
  refine q_if_le 30 26 dX8_playOff_23 (by decide) rfl (fun hc => ?_) (fun hc => ?_)
  · refine q_iconst 0 31 dX8_playOff_30 ic_0 rfl ?_
    refine q_putZ 0 34 (w' := [_]) f_X8_30 ft_X8_6 dX8_playOff_31 rfl rfl (Or.inl rfl) rfl rfl ?_
    refine q_aload_n 0 35 dX8_playOff_34 rfl rfl rfl ?_
    refine q_iload_n 1 36 dX8_playOff_35 rfl rfl rfl ?_
    refine q_cVv 0 [0] [] [0] 39 (wr := []) (w1 := _) (ws' := [_]) c_X8_givePoint m_X8_72 dX8_playOff_36 rfl rfl rfl rfl rfl rfl rfl rfl (by decide) (by decide) (by decide) (by decide) (Nat.le_of_ble_eq_true rfl) (by omega) (by omega) (by omega) rfl ?_
    refine q_return dX8_playOff_39 rfl ?_
    refine pR.mk rfl ?_
    unfold sPlayOff sOff0
    first
      | (have hc2 : s 3 - 1 ≤ 0 := hc
         rw [if_pos hc2]
         rfl)
      | (have hc2 : ¬ s 3 - 1 ≤ 0 := hc
         rw [if_neg hc2]
         rfl)
  · refine q_iconst 1 27 dX8_playOff_26 ic_1 rfl ?_
    refine q_goto 31 dX8_playOff_27 (by decide) ?_
    refine q_putZ 0 34 (w' := [_]) f_X8_30 ft_X8_6 dX8_playOff_31 rfl rfl (Or.inr rfl) rfl rfl ?_
    refine q_aload_n 0 35 dX8_playOff_34 rfl rfl rfl ?_
    refine q_iload_n 1 36 dX8_playOff_35 rfl rfl rfl ?_
    refine q_cVv 0 [0] [] [0] 39 (wr := []) (w1 := _) (ws' := [_]) c_X8_givePoint m_X8_72 dX8_playOff_36 rfl rfl rfl rfl rfl rfl rfl rfl (by decide) (by decide) (by decide) (by decide) (Nat.le_of_ble_eq_true rfl) (by omega) (by omega) (by omega) rfl ?_
    refine q_return dX8_playOff_39 rfl ?_
    refine pR.mk rfl ?_
    unfold sPlayOff sOff0
    first
      | (have hc2 : s 3 - 1 ≤ 0 := hc
         rw [if_pos hc2]
         rfl)
      | (have hc2 : ¬ s 3 - 1 ≤ 0 := hc
         rw [if_neg hc2]
         rfl)
def sWho (how : Int32) : Int32 := if how = 0 then 1 else if how = 1 then 2 else 0
/-- strike: whose point, and the score behind -/
def sHit (s : Sc) (i : Nat → Int32) (how line : Int32) : Int32 := if s 6 = 0 then sWho how else if how = 2 then lBy i (iCmp line (s 4)) else sWho how
def sStrike (s : Sc) (i : Nat → Int32) (how line : Int32) : Sc := if s 6 = 0 then sEnds (sGive (if how = 2 then sAdd s line else s) (sWho how)) (i 2) else sPlayOff s (sHit s i how line)
theorem c_X8_strike {l : Launch} {g : Gh} {q q1 : Nat} {s : Sc} {i : Nat → Int32} {r : List (Option Nat)} {x y : Int32} : Cp l g yX8_strike (Cond.code yX8_strike cX8_strike 6 (some .int)) 5 [.ref q, .int x, .int y, .ref q1] [(q, ob 8 s []), (q1, ob 0 i r)] (some (.int (sHit s i x y))) [(q, ob 8 (sStrike s i x y) []), (q1, ob 0 i r)] := by
  refine ct_of (M := mtX8_strike) [some (.ref q), some (.int x), some (.int y), some (.ref q1), none, none] rfl (by decide) (Nat.le_of_ble_eq_true rfl) (fun _ h => h) (fun a => ?_)
  have K20 : WPs l g mtX8_strike 5 0 0 (pR (some (.int (sHit s i x y))) [(q, ob 8 (sStrike s i x y) []), (q1, ob 0 i r)]) noX a 20 [some (.ref q), some (.int x), some (.int y), some (.ref q1), some (.int (sWho x)), none] [] [(q, ob 8 s []), (q1, ob 0 i r)] 0 0 := by
    refine q_aload_n 0 21 dX8_strike_20 rfl rfl rfl ?_
    refine q_getI 0 24 f_X8_30 dX8_strike_21 rfl rfl rfl ?_
    refine q_if_eq 60 27 dX8_strike_24 (by decide) rfl (fun h24 => ?_) (fun h24 => ?_)
    · refine q_iload_n 1 61 dX8_strike_60 rfl rfl rfl ?_
      refine q_iconst 2 62 dX8_strike_61 ic_2 rfl ?_
      refine q_icmp_ne 70 65 dX8_strike_62 (by decide) rfl (fun h62 => ?_) (fun h62 => ?_)
      · refine q_aload_n 0 71 dX8_strike_70 rfl rfl rfl ?_
        refine q_iload 4 73 dX8_strike_71 rfl rfl ?_
        refine q_cVv 0 [0] [1] [1, 0] 76 (wr := [_]) (w1 := _) (ws' := [_, _]) c_X8_givePoint m_X8_72 dX8_strike_73 rfl rfl rfl rfl rfl rfl rfl rfl (by decide) (by decide) (by decide) (by decide) (Nat.le_of_ble_eq_true rfl) (by omega) (by omega) (by omega) rfl ?_
        refine q_aload_n 0 77 dX8_strike_76 rfl rfl rfl ?_
        refine q_aload_n 3 78 dX8_strike_77 rfl rfl rfl ?_
        refine q_getI 1 81 f_X8_75 dX8_strike_78 rfl rfl rfl ?_
        refine q_cVv 0 [0] [1] [1, 0] 84 (wr := [_]) (w1 := _) (ws' := [_, _]) c_X8_changeEnds m_X8_78 dX8_strike_81 rfl rfl rfl rfl rfl rfl rfl rfl (by decide) (by decide) (by decide) (by decide) (Nat.le_of_ble_eq_true rfl) (by omega) (by omega) (by omega) rfl ?_
        refine q_iload 4 86 dX8_strike_84 rfl rfl ?_
        refine q_ireturn dX8_strike_86 rfl ?_
        exact pR.mk (by simp_all [sHit]) (by simp_all [sHit, sStrike])
      · refine q_aload_n 0 66 dX8_strike_65 rfl rfl rfl ?_
        refine q_iload_n 2 67 dX8_strike_66 rfl rfl rfl ?_
        refine q_cVv 0 [0] [1] [1, 0] 70 (wr := [_]) (w1 := _) (ws' := [_, _]) c_X8_addChase m_X8_69 dX8_strike_67 rfl rfl rfl rfl rfl rfl rfl rfl (by decide) (by decide) (by decide) (by decide) (Nat.le_of_ble_eq_true rfl) (by omega) (by omega) (by omega) rfl ?_
        refine q_aload_n 0 71 dX8_strike_70 rfl rfl rfl ?_
        refine q_iload 4 73 dX8_strike_71 rfl rfl ?_
        refine q_cVv 0 [0] [1] [1, 0] 76 (wr := [_]) (w1 := _) (ws' := [_, _]) c_X8_givePoint m_X8_72 dX8_strike_73 rfl rfl rfl rfl rfl rfl rfl rfl (by decide) (by decide) (by decide) (by decide) (Nat.le_of_ble_eq_true rfl) (by omega) (by omega) (by omega) rfl ?_
        refine q_aload_n 0 77 dX8_strike_76 rfl rfl rfl ?_
        refine q_aload_n 3 78 dX8_strike_77 rfl rfl rfl ?_
        refine q_getI 1 81 f_X8_75 dX8_strike_78 rfl rfl rfl ?_
        refine q_cVv 0 [0] [1] [1, 0] 84 (wr := [_]) (w1 := _) (ws' := [_, _]) c_X8_changeEnds m_X8_78 dX8_strike_81 rfl rfl rfl rfl rfl rfl rfl rfl (by decide) (by decide) (by decide) (by decide) (Nat.le_of_ble_eq_true rfl) (by omega) (by omega) (by omega) rfl ?_
        refine q_iload 4 86 dX8_strike_84 rfl rfl ?_
        refine q_ireturn dX8_strike_86 rfl ?_
        exact pR.mk (by simp_all [sHit]) (by simp_all [sHit, sStrike])
    · refine q_iload_n 1 28 dX8_strike_27 rfl rfl rfl ?_
      refine q_iconst 2 29 dX8_strike_28 ic_2 rfl ?_
      refine q_icmp_ne 47 32 dX8_strike_29 (by decide) rfl (fun h29 => ?_) (fun h29 => ?_)
      · refine q_iload 4 49 dX8_strike_47 rfl rfl ?_
        refine q_istore 5 51 (L' := [_, _, _, _, _, _]) dX8_strike_49 (by decide) rfl rfl ?_
        refine q_aload_n 0 52 dX8_strike_51 rfl rfl rfl ?_
        refine q_iload 5 54 dX8_strike_52 rfl rfl ?_
        refine q_cVv 0 [0] [1] [1, 0] 57 (wr := [_]) (w1 := _) (ws' := [_, _]) c_X8_playOff m_X8_65 dX8_strike_54 rfl rfl rfl rfl rfl rfl rfl rfl (by decide) (by decide) (by decide) (by decide) (Nat.le_of_ble_eq_true rfl) (by omega) (by omega) (by omega) rfl ?_
        refine q_iload 5 59 dX8_strike_57 rfl rfl ?_
        refine q_ireturn dX8_strike_59 rfl ?_
        exact pR.mk (by simp_all [sHit]) (by simp_all [sHit, sStrike])
      · refine q_aload_n 3 33 dX8_strike_32 rfl rfl rfl ?_
        refine q_iload_n 2 34 dX8_strike_33 rfl rfl rfl ?_
        refine q_aload_n 0 35 dX8_strike_34 rfl rfl rfl ?_
        refine q_getI 0 38 f_X8_24 dX8_strike_35 rfl rfl rfl ?_
        refine q_cSi [] [0, 1] [0, 1] 41 (wr := [_, _]) (w1 := _) (ws' := [_, _]) c_J6_compare m_X8_55 dX8_strike_38 rfl rfl rfl rfl rfl (by decide) (by decide) (by decide) (by decide) (Nat.le_of_ble_eq_true rfl) (by omega) (by omega) (by omega) rfl ?_
        refine q_cVi 1 [1] [0] [0, 1] 44 (wr := [_]) (w1 := _) (ws' := [_, _]) c_X0_pointBy m_X8_61 dX8_strike_41 rfl rfl rfl rfl rfl rfl rfl rfl (by decide) (by decide) (by decide) (by decide) (Nat.le_of_ble_eq_true rfl) (by omega) (by omega) (by omega) rfl ?_
        refine q_goto 49 dX8_strike_44 (by decide) ?_
        refine q_istore 5 51 (L' := [_, _, _, _, _, _]) dX8_strike_49 (by decide) rfl rfl ?_
        refine q_aload_n 0 52 dX8_strike_51 rfl rfl rfl ?_
        refine q_iload 5 54 dX8_strike_52 rfl rfl ?_
        refine q_cVv 0 [0] [1] [1, 0] 57 (wr := [_]) (w1 := _) (ws' := [_, _]) c_X8_playOff m_X8_65 dX8_strike_54 rfl rfl rfl rfl rfl rfl rfl rfl (by decide) (by decide) (by decide) (by decide) (Nat.le_of_ble_eq_true rfl) (by omega) (by omega) (by omega) rfl ?_
        refine q_iload 5 59 dX8_strike_57 rfl rfl ?_
        refine q_ireturn dX8_strike_59 rfl ?_
        exact pR.mk (by simp_all [sHit]) (by simp_all [sHit, sStrike])
  by_cases hx0 : x = 0
  · have e : sWho x = 1 := by simp [sWho, hx0]
    rw [e] at K20
    refine q_iload_n 1 1 dX8_strike_0 rfl rfl rfl ?_
    refine q_if_ne 8 4 dX8_strike_1 (by decide) rfl (fun h1 => absurd hx0 h1) (fun h1 => ?_)
    refine q_iconst 1 5 dX8_strike_4 ic_1 rfl ?_
    refine q_goto 18 dX8_strike_5 (by decide) ?_
    refine q_istore 4 20 (L' := [_, _, _, _, _, _]) dX8_strike_18 (by decide) rfl rfl ?_
    exact K20
  · by_cases hx1 : x = 1
    · have e : sWho x = 2 := by simp [sWho, hx1]
      rw [e] at K20
      refine q_iload_n 1 1 dX8_strike_0 rfl rfl rfl ?_
      refine q_if_ne 8 4 dX8_strike_1 (by decide) rfl (fun h1 => ?_) (fun h1 => absurd h1 hx0)
      refine q_iload_n 1 9 dX8_strike_8 rfl rfl rfl ?_
      refine q_iconst 1 10 dX8_strike_9 ic_1 rfl ?_
      refine q_icmp_ne 17 13 dX8_strike_10 (by decide) rfl (fun h10 => absurd hx1 h10) (fun h10 => ?_)
      refine q_iconst 2 14 dX8_strike_13 ic_2 rfl ?_
      refine q_goto 18 dX8_strike_14 (by decide) ?_
      refine q_istore 4 20 (L' := [_, _, _, _, _, _]) dX8_strike_18 (by decide) rfl rfl ?_
      exact K20
    · have e : sWho x = 0 := by simp [sWho, hx0, hx1]
      rw [e] at K20
      refine q_iload_n 1 1 dX8_strike_0 rfl rfl rfl ?_
      refine q_if_ne 8 4 dX8_strike_1 (by decide) rfl (fun h1 => ?_) (fun h1 => absurd h1 hx0)
      refine q_iload_n 1 9 dX8_strike_8 rfl rfl rfl ?_
      refine q_iconst 1 10 dX8_strike_9 ic_1 rfl ?_
      refine q_icmp_ne 17 13 dX8_strike_10 (by decide) rfl (fun h10 => ?_) (fun h10 => absurd h10 hx1)
      refine q_iconst 0 18 dX8_strike_17 ic_0 rfl ?_
      refine q_istore 4 20 (L' := [_, _, _, _, _, _]) dX8_strike_18 (by decide) rfl rfl ?_
      exact K20
def sBisque (s : Sc) (i : Nat → Int32) (p : Int32) : Sc := sEnds (sPt s p) (i 2)
theorem sPtW_or (s : Sc) (p : Int32) : sPtW s p = 0 ∨ sPtW s p = 1 := sWins_or _ _
theorem c_X8_takeBisque {l : Launch} {g : Gh} {q q1 : Nat} {s : Sc} {i : Nat → Int32} {r : List (Option Nat)} {x : Int32} : Cp l g yX8_takeBisque (Cond.code yX8_takeBisque cX8_takeBisque 4 (some .boolean)) 3 [.ref q, .int x, .ref q1] [(q, ob 8 s []), (q1, ob 0 i r)] (some (.int (sPtW s x))) [(q, ob 8 (sBisque s i x) []), (q1, ob 0 i r)] := by
  refine ct_of (M := mtX8_takeBisque) [some (.ref q), some (.int x), some (.ref q1), none] rfl (by decide) (Nat.le_of_ble_eq_true rfl) (fun _ h => h) (fun a => ?_)
  refine q_aload_n 0 1 dX8_takeBisque_0 rfl rfl rfl ?_
  refine q_iload_n 1 2 dX8_takeBisque_1 rfl rfl rfl ?_
  refine q_cVi 0 [0] [1] [1, 0] 5 (wr := [_]) (w1 := _) (ws' := [_, _]) c_X8_point m_X8_81 dX8_takeBisque_2 rfl rfl rfl rfl rfl rfl rfl rfl (by decide) (by decide) (by decide) (by decide) (Nat.le_of_ble_eq_true rfl) (by omega) (by omega) (by omega) rfl ?_
  refine q_istore_n 3 6 (L' := [_, _, _, _]) dX8_takeBisque_5 rfl (by decide) rfl rfl ?_
  refine q_aload_n 0 7 dX8_takeBisque_6 rfl rfl rfl ?_
  refine q_aload_n 2 8 dX8_takeBisque_7 rfl rfl rfl ?_
  refine q_getI 1 11 f_X8_75 dX8_takeBisque_8 rfl rfl rfl ?_
  refine q_cVv 0 [0] [1] [1, 0] 14 (wr := [_]) (w1 := _) (ws' := [_, _]) c_X8_changeEnds m_X8_78 dX8_takeBisque_11 rfl rfl rfl rfl rfl rfl rfl rfl (by decide) (by decide) (by decide) (by decide) (Nat.le_of_ble_eq_true rfl) (by omega) (by omega) (by omega) rfl ?_
  refine q_iload_n 3 15 dX8_takeBisque_14 rfl rfl rfl ?_
  refine q_zreturn dX8_takeBisque_15 rfl (sPtW_or _ _) ?_
  exact pR.rf

