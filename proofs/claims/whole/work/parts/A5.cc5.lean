/-! ===== ChaseCourt: the first image ===== -/
theorem c_X11_image0 {l : Launch} {g : Gh} {q sd sla sc sru sb sal sso ud ula uc uru ub ual uso num : Nat} {i li ch ri bf x lj dh rj bg y : Sc} {af ag : Nat → Option Nat} {P : List RuR} {Rl : Nat → RLs} {t0 t1 t2 t4 t6 t7 t8 : Option Nat} (hi : ri 2 = nI num) (hO : RsO num bf af P Rl) (hz : x 6 = 0 ∨ x 6 = 1) : Cn l g yX11_image (Cond.code yX11_image cX11_image 1 none) 3 7 222 [.ref q] ([(q, ob 11 i [t0, t1, t2, some sd, t4, none, t6, t7, t8, none, none]), (sd, ob 10 (fun _ => 0) (rD sla sru sso)), (sla, ob 0 li (rL sc)), (sc, aI g 192 ch), (sru, ob 6 ri (rQ sb sal)), (sb, aI g 2 bf), (sal, aR g 6 af), (sso, ob 8 x [])] ++ plW g P) (fun _ : Nat × Nat × Nat × Nat × Nat × Nat × Nat => none) (fun z : Nat × Nat × Nat × Nat × Nat × Nat × Nat => [(q, ob 11 i [t0, t1, t2, some sd, t4, some z.1, t6, t7, t8, none, none]), (sd, ob 10 (fun _ => 0) (rD sla sru sso)), (sla, ob 0 li (rL sc)), (sc, aI g 192 ch), (sru, ob 6 ri (rQ sb sal)), (sb, aI g 2 bf), (sal, aR g 6 af), (sso, ob 8 x []), (z.1, ob 10 (fun _ => 0) (rD z.2.1 z.2.2.2.1 z.2.2.2.2.2.2)), (z.2.1, ob 0 (lTk (upd (fun _ => 0) 1 1) li) (rL z.2.2.1)), (z.2.2.1, aI g 192 ch), (z.2.2.2.1, ob 6 (upd (fun _ => 0) 2 (nI num)) (rQ z.2.2.2.2.1 z.2.2.2.2.2.1)), (z.2.2.2.2.1, aI g 2 bf), (z.2.2.2.2.2.1, aR g 6 (cpR (fun _ => none) af num)), (z.2.2.2.2.2.2, ob 8 x [])] ++ plW g P) (fun _ k m => k = 7 ∧ m = 222) := by
  refine ct_of (M := mtX11_image) [some (.ref q)] rfl (by decide) (Nat.le_of_ble_eq_true rfl) (fun _ h => h) (fun a => ?_)
  refine q_aload_n 0 1 dX11_image_0 rfl rfl rfl ?_
  refine q_getN 0 4 f_X11_309 dX11_image_1 rfl rfl rfl rfl ?_
  refine q_ifnonnullN 7 dX11_image_4 rfl ?_
  refine q_aload_n 0 8 dX11_image_7 rfl rfl rfl ?_
  refine q_tnew (N := 3) 11 n_X11_27 rfl dX11_image_8 (by omega) (by omega) rfl (fun q8 => ?_)
  refine q_dup 12 dX11_image_11 rfl rfl ?_
  refine q_tyIv [8] [0, 1, 2, 3, 4, 5, 6, 7] [0, 1, 2, 3, 4, 5, 6, 7, 8, 9, 10, 11, 12, 13, 14] 15 (wr := [_, _, _, _, _, _, _, _]) (w1 := _) (ws' := fun _ => [_, _, _, _, _, _, _, _, _, _, _, _, _, _, _]) c_X10_init m_X11_29 dX11_image_12 rfl rfl rfl rfl (fun _ => rfl) (by decide) (by decide) (by decide) (by decide) (Nat.le_of_ble_eq_true rfl) (by omega) (by omega) (by omega) rfl (fun z12 k12 n12 hx12 => ?_)
  obtain ⟨la12, c12, ru12, b12, al12, so12⟩ := z12
  dsimp only at hx12 ⊢
  refine q_putR 0 18 (w' := ([_, _, _, _, _, _, _, _, _, _, _, _, _, _, _] ++ _)) (r' := [_, _, _, _, _, _, _, _, _, _, _]) f_X11_309 ft_X11_5 dX11_image_15 rfl rfl (Nat.le_of_ble_eq_true rfl) rfl rfl rfl rfl rfl ?_
  refine q_aload_n 0 19 dX11_image_18 rfl rfl rfl ?_
  refine q_getR 0 22 f_X11_309 dX11_image_19 rfl rfl rfl rfl ?_
  refine q_aload_n 0 23 dX11_image_22 rfl rfl rfl ?_
  refine q_getR 0 26 f_X11_30 dX11_image_23 rfl rfl rfl rfl ?_
  refine q_ucVv 8 [8, 9, 10, 11, 12, 13, 14, 1, 2, 3, 4, 5, 6, 7] [0] [0, 8, 9, 10, 11, 12, 13, 14, 1, 2, 3, 4, 5, 6, 7] 29 (wr := [_]) (w1 := _) (ws' := [_, _, _, _, _, _, _, _, _, _, _, _, _, _, _]) (c_X10_takeFrom (num := num) (Rl := Rl) hi hO hz) m_X11_312 dX11_image_26 rfl rfl rfl rfl rfl rfl rfl rfl (by decide) (by decide) (by decide) (by decide) (Nat.le_of_ble_eq_true rfl) (by omega) (by omega) (by omega) rfl ?_
  refine q_return dX11_image_29 rfl ?_
  exact pX.mk (_, _, _, _, _, _, _) (by obtain ⟨h1, h2⟩ := hx12; exact ⟨by omega, by omega⟩) rfl rfl

