/-! ===== ChaseCourt: image, back ===== -/
theorem c_X11_back0 {l : Launch} {g : Gh} {q sd : Nat} {i : Sc} {t0 t1 t2 t4 t6 t7 t8 : Option Nat} : Cp l g yX11_back (Cond.code yX11_back cX11_back 1 (some .boolean)) 0 [.ref q] [(q, ob 11 i [t0, t1, t2, some sd, t4, none, t6, t7, t8, none, none])] (some (.int 0)) [(q, ob 11 i [t0, t1, t2, some sd, t4, none, t6, t7, t8, none, none])] := by
  refine ct_of (M := mtX11_back) [some (.ref q)] rfl (by decide) (Nat.le_of_ble_eq_true rfl) (fun _ h => h) (fun a => ?_)
  refine q_aload_n 0 1 dX11_back_0 rfl rfl rfl ?_
  refine q_getN 0 4 f_X11_309 dX11_back_1 rfl rfl rfl rfl ?_
  refine q_ifnonnullN 7 dX11_back_4 rfl ?_
  refine q_iconst 0 8 dX11_back_7 ic_0 rfl ?_
  refine q_zreturn dX11_back_8 rfl (Or.inl rfl) ?_
  exact pR.rf
theorem c_X11_back1 {l : Launch} {g : Gh} {q sd sla sc sru sb sal sso ud ula uc uru ub ual uso num : Nat} {i li ch ri bf x lj dh rj bg y : Sc} {af ag : Nat → Option Nat} {P : List RuR} {Rl : Nat → RLs} {t0 t1 t2 t4 t6 t7 t8 : Option Nat} (hi : rj 2 = nI num) (hO : RsO num bg ag P Rl) (hz : y 6 = 0 ∨ y 6 = 1) : Cp l g yX11_back (Cond.code yX11_back cX11_back 1 (some .boolean)) 3 [.ref q] ([(q, ob 11 i [t0, t1, t2, some sd, t4, some ud, t6, t7, t8, none, none]), (sd, ob 10 (fun _ => 0) (rD sla sru sso)), (sla, ob 0 li (rL sc)), (sc, aI g 192 ch), (sru, ob 6 ri (rQ sb sal)), (sb, aI g 2 bf), (sal, aR g 6 af), (sso, ob 8 x []), (ud, ob 10 (fun _ => 0) (rD ula uru uso)), (ula, ob 0 lj (rL uc)), (uc, aI g 192 dh), (uru, ob 6 rj (rQ ub ual)), (ub, aI g 2 bg), (ual, aR g 6 ag), (uso, ob 8 y [])] ++ plW g P) (some (.int 1)) ([(q, ob 11 i [t0, t1, t2, some sd, t4, some ud, t6, t7, t8, none, none]), (sd, ob 10 (fun _ => 0) (rD sla sru sso)), (sla, ob 0 (lTk li lj) (rL sc)), (sc, aI g 192 dh), (sru, ob 6 (upd ri 2 (nI num)) (rQ sb sal)), (sb, aI g 2 bg), (sal, aR g 6 (cpR af ag num)), (sso, ob 8 y []), (ud, ob 10 (fun _ => 0) (rD ula uru uso)), (ula, ob 0 lj (rL uc)), (uc, aI g 192 dh), (uru, ob 6 rj (rQ ub ual)), (ub, aI g 2 bg), (ual, aR g 6 ag), (uso, ob 8 y [])] ++ plW g P) := by
  refine ct_of (M := mtX11_back) [some (.ref q)] rfl (by decide) (Nat.le_of_ble_eq_true rfl) (fun _ h => h) (fun a => ?_)
  refine q_aload_n 0 1 dX11_back_0 rfl rfl rfl ?_
  refine q_getR 0 4 f_X11_309 dX11_back_1 rfl rfl rfl rfl ?_
  refine q_ifnonnull 9 dX11_back_4 (by decide) ?_
  refine q_aload_n 0 10 dX11_back_9 rfl rfl rfl ?_
  refine q_getR 0 13 f_X11_30 dX11_back_10 rfl rfl rfl rfl ?_
  refine q_aload_n 0 14 dX11_back_13 rfl rfl rfl ?_
  refine q_getR 0 17 f_X11_309 dX11_back_14 rfl rfl rfl rfl ?_
  refine q_ucVv 1 [1, 2, 3, 4, 5, 6, 7, 8, 9, 10, 11, 12, 13, 14] [0] [0, 1, 2, 3, 4, 5, 6, 7, 8, 9, 10, 11, 12, 13, 14] 20 (wr := [_]) (w1 := _) (ws' := [_, _, _, _, _, _, _, _, _, _, _, _, _, _, _]) (c_X10_takeFrom (num := num) (Rl := Rl) hi hO hz) m_X11_312 dX11_back_17 rfl rfl rfl rfl rfl rfl rfl rfl (by decide) (by decide) (by decide) (by decide) (Nat.le_of_ble_eq_true rfl) (by omega) (by omega) (by omega) rfl ?_
  refine q_iconst 1 21 dX11_back_20 ic_1 rfl ?_
  refine q_zreturn dX11_back_21 rfl (by decide) ?_
  exact pR.rf
theorem c_X11_image1 {l : Launch} {g : Gh} {q sd sla sc sru sb sal sso ud ula uc uru ub ual uso num : Nat} {i li ch ri bf x lj dh rj bg y : Sc} {af ag : Nat → Option Nat} {P : List RuR} {Rl : Nat → RLs} {t0 t1 t2 t4 t6 t7 t8 : Option Nat} (hi : ri 2 = nI num) (hO : RsO num bf af P Rl) (hz : x 6 = 0 ∨ x 6 = 1) : Cp l g yX11_image (Cond.code yX11_image cX11_image 1 none) 3 [.ref q] ([(q, ob 11 i [t0, t1, t2, some sd, t4, some ud, t6, t7, t8, none, none]), (sd, ob 10 (fun _ => 0) (rD sla sru sso)), (sla, ob 0 li (rL sc)), (sc, aI g 192 ch), (sru, ob 6 ri (rQ sb sal)), (sb, aI g 2 bf), (sal, aR g 6 af), (sso, ob 8 x []), (ud, ob 10 (fun _ => 0) (rD ula uru uso)), (ula, ob 0 lj (rL uc)), (uc, aI g 192 dh), (uru, ob 6 rj (rQ ub ual)), (ub, aI g 2 bg), (ual, aR g 6 ag), (uso, ob 8 y [])] ++ plW g P) none ([(q, ob 11 i [t0, t1, t2, some sd, t4, some ud, t6, t7, t8, none, none]), (sd, ob 10 (fun _ => 0) (rD sla sru sso)), (sla, ob 0 li (rL sc)), (sc, aI g 192 ch), (sru, ob 6 ri (rQ sb sal)), (sb, aI g 2 bf), (sal, aR g 6 af), (sso, ob 8 x []), (ud, ob 10 (fun _ => 0) (rD ula uru uso)), (ula, ob 0 (lTk lj li) (rL uc)), (uc, aI g 192 ch), (uru, ob 6 (upd rj 2 (nI num)) (rQ ub ual)), (ub, aI g 2 bf), (ual, aR g 6 (cpR ag af num)), (uso, ob 8 x [])] ++ plW g P) := by
  refine ct_of (M := mtX11_image) [some (.ref q)] rfl (by decide) (Nat.le_of_ble_eq_true rfl) (fun _ h => h) (fun a => ?_)
  refine q_aload_n 0 1 dX11_image_0 rfl rfl rfl ?_
  refine q_getR 0 4 f_X11_309 dX11_image_1 rfl rfl rfl rfl ?_
  refine q_ifnonnull 18 dX11_image_4 (by decide) ?_
  refine q_aload_n 0 19 dX11_image_18 rfl rfl rfl ?_
  refine q_getR 0 22 f_X11_309 dX11_image_19 rfl rfl rfl rfl ?_
  refine q_aload_n 0 23 dX11_image_22 rfl rfl rfl ?_
  refine q_getR 0 26 f_X11_30 dX11_image_23 rfl rfl rfl rfl ?_
  refine q_ucVv 8 [8, 9, 10, 11, 12, 13, 14, 1, 2, 3, 4, 5, 6, 7] [0] [0, 8, 9, 10, 11, 12, 13, 14, 1, 2, 3, 4, 5, 6, 7] 29 (wr := [_]) (w1 := _) (ws' := [_, _, _, _, _, _, _, _, _, _, _, _, _, _, _]) (c_X10_takeFrom (num := num) (Rl := Rl) hi hO hz) m_X11_312 dX11_image_26 rfl rfl rfl rfl rfl rfl rfl rfl (by decide) (by decide) (by decide) (by decide) (Nat.le_of_ble_eq_true rfl) (by omega) (by omega) (by omega) rfl ?_
  refine q_return dX11_image_29 rfl ?_
  exact pR.rf

