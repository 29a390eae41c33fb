/-! ===== ChaseCourt: needs that are met ===== -/
theorem c_X11_needPlayer {l : Launch} {g : Gh} {x : Int32} (h : x = 0 ∨ x = 1) : Cp l g yX11_needPlayer (Cond.code yX11_needPlayer cX11_needPlayer 1 none) 0 [.int x] [] none [] := by
  refine ct_of (M := mtX11_needPlayer) [some (.int x)] rfl (by decide) (Nat.le_of_ble_eq_true rfl) (fun _ h => h) (fun a => ?_)
  by_cases h0 : x = 0
  · have h9 := h0
    refine q_iload_n 0 1 dX11_needPlayer_0 rfl rfl rfl ?_
    refine q_if_eq 20 4 dX11_needPlayer_1 (by decide) rfl (fun h1 => ?_) (fun h1 => absurd h0 h1)
    refine q_return dX11_needPlayer_20 rfl ?_
    exact pR.rf
  · have h2 : x = 1 := h.resolve_left h0
    refine q_iload_n 0 1 dX11_needPlayer_0 rfl rfl rfl ?_
    refine q_if_eq 20 4 dX11_needPlayer_1 (by decide) rfl (fun h1 => absurd h1 h0) (fun h1 => ?_)
    refine q_iload_n 0 5 dX11_needPlayer_4 rfl rfl rfl ?_
    refine q_iconst 1 6 dX11_needPlayer_5 ic_1 rfl ?_
    refine q_icmp_eq 20 9 dX11_needPlayer_6 (by decide) rfl (fun h6 => ?_) (fun h6 => absurd h2 h6)
    refine q_return dX11_needPlayer_20 rfl ?_
    exact pR.rf
theorem c_X11_needLine {l : Launch} {g : Gh} {x : Int32} (h : ¬ x < 0) (h2 : x < 10) : Cp l g yX11_needLine (Cond.code yX11_needLine cX11_needLine 1 none) 0 [.int x] [] none [] := by
  refine ct_of (M := mtX11_needLine) [some (.int x)] rfl (by decide) (Nat.le_of_ble_eq_true rfl) (fun _ h => h) (fun a => ?_)
  refine q_iload_n 0 1 dX11_needLine_0 rfl rfl rfl ?_
  refine q_if_lt 10 4 dX11_needLine_1 (by decide) rfl (fun h1 => absurd h1 h) (fun h1 => ?_)
  refine q_iload_n 0 5 dX11_needLine_4 rfl rfl rfl ?_
  refine q_bipush 10 7 dX11_needLine_5 bc_10 rfl ?_
  refine q_icmp_lt 21 10 dX11_needLine_7 (by decide) rfl (fun h7 => ?_) (fun h7 => absurd h2 h7)
  refine q_return dX11_needLine_21 rfl ?_
  exact pR.rf
theorem c_X11_needRallies {l : Launch} {g : Gh} {x : Int32} (h : ¬ x < 0) (h2 : x ≤ 30) : Cp l g yX11_needRallies (Cond.code yX11_needRallies cX11_needRallies 1 none) 0 [.int x] [] none [] := by
  refine ct_of (M := mtX11_needRallies) [some (.int x)] rfl (by decide) (Nat.le_of_ble_eq_true rfl) (fun _ h => h) (fun a => ?_)
  refine q_iload_n 0 1 dX11_needRallies_0 rfl rfl rfl ?_
  refine q_if_lt 10 4 dX11_needRallies_1 (by decide) rfl (fun h1 => absurd h1 h) (fun h1 => ?_)
  refine q_iload_n 0 5 dX11_needRallies_4 rfl rfl rfl ?_
  refine q_bipush 30 7 dX11_needRallies_5 bc_30 rfl ?_
  refine q_icmp_le 21 10 dX11_needRallies_7 (by decide) rfl (fun h7 => ?_) (fun h7 => absurd h2 h7)
  refine q_return dX11_needRallies_21 rfl ?_
  exact pR.rf
theorem c_X11_needWhat {l : Launch} {g : Gh} {x y : Int32} (h : ¬ x < 0) (h2 : x < y) : Cp l g yX11_needWhat (Cond.code yX11_needWhat cX11_needWhat 2 none) 0 [.int x, .int y] [] none [] := by
  refine ct_of (M := mtX11_needWhat) [some (.int x), some (.int y)] rfl (by decide) (Nat.le_of_ble_eq_true rfl) (fun _ h => h) (fun a => ?_)
  refine q_iload_n 0 1 dX11_needWhat_0 rfl rfl rfl ?_
  refine q_if_lt 9 4 dX11_needWhat_1 (by decide) rfl (fun h1 => absurd h1 h) (fun h1 => ?_)
  refine q_iload_n 0 5 dX11_needWhat_4 rfl rfl rfl ?_
  refine q_iload_n 1 6 dX11_needWhat_5 rfl rfl rfl ?_
  refine q_icmp_lt 20 9 dX11_needWhat_6 (by decide) rfl (fun h6 => ?_) (fun h6 => absurd h2 h6)
  refine q_return dX11_needWhat_20 rfl ?_
  exact pR.rf
theorem c_X11_needGoingOn {l : Launch} {g : Gh} {q sd la ru so sc : Nat} {i li s : Sc} {R : List (Option Nat)} {t0 t1 t2 t4 t5 t6 t7 t8 : Option Nat} (h : sOver s li = 0) : Cp l g yX11_needGoingOn (Cond.code yX11_needGoingOn cX11_needGoingOn 2 none) 2 [.ref q, .ref sc] [(q, ob 11 i [t0, t1, t2, some sd, t4, t5, t6, t7, t8, none, none]), (sd, ob 10 (fun _ => 0) (rD la ru so)), (la, ob 0 li R), (sc, ob 8 s [])] none [(q, ob 11 i [t0, t1, t2, some sd, t4, t5, t6, t7, t8, none, none]), (sd, ob 10 (fun _ => 0) (rD la ru so)), (la, ob 0 li R), (sc, ob 8 s [])] := by
  refine ct_of (M := mtX11_needGoingOn) [some (.ref q), some (.ref sc)] rfl (by decide) (Nat.le_of_ble_eq_true rfl) (fun _ h => h) (fun a => ?_)
  refine q_aload_n 1 1 dX11_needGoingOn_0 rfl rfl rfl ?_
  refine q_aload_n 0 2 dX11_needGoingOn_1 rfl rfl rfl ?_
  refine q_getR 0 5 f_X11_30 dX11_needGoingOn_2 rfl rfl rfl rfl ?_
  refine q_getR 1 8 f_X11_60 dX11_needGoingOn_5 rfl rfl rfl rfl ?_
  refine q_cVi 3 [3, 2] [0, 1] [0, 1, 3, 2] 11 (wr := [_, _]) (w1 := _) (ws' := [_, _, _, _]) c_X8_isOver m_X11_298 dX11_needGoingOn_8 rfl rfl rfl rfl rfl rfl rfl rfl (by decide) (by decide) (by decide) (by decide) (Nat.le_of_ble_eq_true rfl) (by omega) (by omega) (by omega) rfl ?_
  refine q_if_eq 25 14 dX11_needGoingOn_11 (by decide) rfl (fun h11 => ?_) (fun h11 => absurd h h11)
  refine q_return dX11_needGoingOn_25 rfl ?_
  exact pR.rf

