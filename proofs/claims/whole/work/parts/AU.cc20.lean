/-! ===== ChaseCourt: a new one ===== -/
theorem c_X11_init {l : Launch} {g : Gh} {q : Nat} : Cn l g yX11_init (Cond.code yX11_init cX11_init 1 none) 3 15 2050 [.ref q] [(q, ob 11 (fun _ => 0) (List.replicate 11 none))] (fun _ : (Nat × Nat × Nat × Nat × Nat) × (Nat × Nat) × (Nat × Nat × Nat × Nat × Nat × Nat × Nat) × Nat => none) (fun z : (Nat × Nat × Nat × Nat × Nat) × (Nat × Nat) × (Nat × Nat × Nat × Nat × Nat × Nat × Nat) × Nat => [(q, ob 11 (upd (fun _ => 0) 10 (-1)) [some z.1.1, some z.1.2.1, some z.2.1.1, some z.2.2.1.1, some z.2.2.2, none, none, none, none, none, none]), (z.1.1, aB g 400 (fun _ => 0)), (z.1.2.1, ob 7 (fun _ => 0) [some z.1.2.2.1, some z.1.2.2.2.1, some z.1.2.2.2.2, none, none, none, none]), (z.1.2.2.1, aI g 401 (fun _ => 0)), (z.1.2.2.2.1, aI g 401 (fun _ => 0)), (z.1.2.2.2.2, aI g 401 (fun _ => 0)), (z.2.1.1, ob 0 (upd (fun _ => 0) 1 1) (rL z.2.1.2)), (z.2.1.2, aI g 192 (mI 16)), (z.2.2.1.1, ob 10 (fun _ => 0) (rD z.2.2.1.2.1 z.2.2.1.2.2.2.1 z.2.2.1.2.2.2.2.2.2)), (z.2.2.1.2.1, ob 0 (upd (fun _ => 0) 1 1) (rL z.2.2.1.2.2.1)), (z.2.2.1.2.2.1, aI g 192 (mI 16)), (z.2.2.1.2.2.2.1, ob 6 (fun _ => 0) (rQ z.2.2.1.2.2.2.2.1 z.2.2.1.2.2.2.2.2.1)), (z.2.2.1.2.2.2.2.1, aI g 2 (fun _ => -1)), (z.2.2.1.2.2.2.2.2.1, aR g 6 (fun _ => none)), (z.2.2.1.2.2.2.2.2.2, ob 8 (fun _ => 0) []), (z.2.2.2, ob 8 (fun _ => 0) [])]) (fun _ k m => k ≤ 15 ∧ m ≤ 2050) := by
  refine ct_of (M := mtX11_init) [some (.ref q)] rfl (by decide) (Nat.le_of_ble_eq_true rfl) (fun _ h => h) (fun a => ?_)
  refine q_aload_n 0 1 dX11_init_0 rfl rfl rfl ?_
  refine q_objInit 4 m_X11_1 dX11_init_1 (Nat.le_of_ble_eq_true rfl) (by decide) rfl ?_
  refine q_aload_n 0 5 dX11_init_4 rfl rfl rfl ?_
  refine q_sipush 400 8 dX11_init_5 sc_400 rfl ?_
  refine q_newB (N := 400) 10 dX11_init_8 rfl (by decide) (by omega) (by omega) rfl (fun q8 => ?_)
  refine q_putRF 0 13 (w' := [_, _]) (r' := [_, _, _, _, _, _, _, _, _, _, _]) f_X11_9 ft_X11_0 rfl rfl dX11_init_10 rfl rfl (Nat.le_of_ble_eq_true rfl) rfl rfl rfl rfl rfl ?_
  refine q_aload_n 0 14 dX11_init_13 rfl rfl rfl ?_
  refine q_new (N := 7) 17 n_X11_13 rfl dX11_init_14 (by omega) (by omega) rfl (fun q14 => ?_)
  refine q_dup 18 dX11_init_17 rfl rfl ?_
  refine q_yIv [2] [0, 1] [0, 1, 2, 3, 4, 5] 21 (wr := [_, _]) (w1 := _) (ws' := fun _ => [_, _, _, _, _, _]) c_X7_init m_X11_15 dX11_init_18 rfl rfl rfl rfl (fun _ => rfl) (by decide) (by decide) (by decide) (by decide) (Nat.le_of_ble_eq_true rfl) (by omega) (by omega) (by omega) rfl (fun z18 k18 n18 hx18 => ?_)
  obtain ⟨t18, b18, n18⟩ := z18
  dsimp only at hx18 ⊢
  refine q_putRF 0 24 (w' := [_, _, _, _, _, _]) (r' := [_, _, _, _, _, _, _, _, _, _, _]) f_X11_16 ft_X11_1 rfl rfl dX11_init_21 rfl rfl (Nat.le_of_ble_eq_true rfl) rfl rfl rfl rfl rfl ?_
  obtain ⟨ka, na⟩ := hx18
  refine q_aload_n 0 25 dX11_init_24 rfl rfl rfl ?_
  refine q_new (N := 5) 28 n_X11_20 rfl dX11_init_25 (by omega) (by omega) rfl (fun q25 => ?_)
  refine q_dup 29 dX11_init_28 rfl rfl ?_
  refine q_yIv [6] [0, 1, 2, 3, 4, 5] [0, 1, 2, 3, 4, 5, 6, 7] 32 (wr := [_, _, _, _, _, _]) (w1 := _) (ws' := fun _ => [_, _, _, _, _, _, _, _]) c_X0_init m_X11_22 dX11_init_29 rfl rfl rfl rfl (fun _ => rfl) (by decide) (by decide) (by decide) (by decide) (Nat.le_of_ble_eq_true rfl) (by omega) (by omega) (by omega) rfl (fun c29 k29 n29 hx29 => ?_)
  refine q_putRF 0 35 (w' := [_, _, _, _, _, _, _, _]) (r' := [_, _, _, _, _, _, _, _, _, _, _]) f_X11_23 ft_X11_2 rfl rfl dX11_init_32 rfl rfl (Nat.le_of_ble_eq_true rfl) rfl rfl rfl rfl rfl ?_
  obtain ⟨kb, nb⟩ := hx29
  refine q_aload_n 0 36 dX11_init_35 rfl rfl rfl ?_
  refine q_new (N := 3) 39 n_X11_27 rfl dX11_init_36 (by omega) (by omega) rfl (fun q36 => ?_)
  refine q_dup 40 dX11_init_39 rfl rfl ?_
  refine q_yIv [8] [0, 1, 2, 3, 4, 5, 6, 7] [0, 1, 2, 3, 4, 5, 6, 7, 8, 9, 10, 11, 12, 13, 14] 43 (wr := [_, _, _, _, _, _, _, _]) (w1 := _) (ws' := fun _ => [_, _, _, _, _, _, _, _, _, _, _, _, _, _, _]) c_X10_init m_X11_29 dX11_init_40 rfl rfl rfl rfl (fun _ => rfl) (by decide) (by decide) (by decide) (by decide) (Nat.le_of_ble_eq_true rfl) (by omega) (by omega) (by omega) rfl (fun z40 k40 n40 hx40 => ?_)
  obtain ⟨la40, c40, ru40, b40, al40, so40⟩ := z40
  dsimp only at hx40 ⊢
  refine q_putRF 0 46 (w' := [_, _, _, _, _, _, _, _, _, _, _, _, _, _, _]) (r' := [_, _, _, _, _, _, _, _, _, _, _]) f_X11_30 ft_X11_3 rfl rfl dX11_init_43 rfl rfl (Nat.le_of_ble_eq_true rfl) rfl rfl rfl rfl rfl ?_
  obtain ⟨kc, nc⟩ := hx40
  refine q_aload_n 0 47 dX11_init_46 rfl rfl rfl ?_
  refine q_new (N := 11) 50 n_X11_34 rfl dX11_init_47 (by omega) (by omega) rfl (fun q47 => ?_)
  refine q_dup 51 dX11_init_50 rfl rfl ?_
  refine q_axG 15 (ob 8 (fun _ => 0) []) rfl (fun _ h => h) rfl ?_
  refine q_cIv [15] [0, 1, 2, 3, 4, 5, 6, 7, 8, 9, 10, 11, 12, 13, 14] [0, 1, 2, 3, 4, 5, 6, 7, 8, 9, 10, 11, 12, 13, 14, 15] 54 (wr := [_, _, _, _, _, _, _, _, _, _, _, _, _, _, _]) (w1 := _) (ws' := [_, _, _, _, _, _, _, _, _, _, _, _, _, _, _, _]) c_X8_init m_X11_36 dX11_init_51 rfl rfl rfl rfl rfl (by decide) (by decide) (by decide) (by decide) (Nat.le_of_ble_eq_true rfl) (by omega) (by omega) (by omega) rfl ?_
  refine q_putRF 0 57 (w' := [_, _, _, _, _, _, _, _, _, _, _, _, _, _, _, _]) (r' := [_, _, _, _, _, _, _, _, _, _, _]) f_X11_37 ft_X11_4 rfl rfl dX11_init_54 rfl rfl (Nat.le_of_ble_eq_true rfl) rfl rfl rfl rfl rfl ?_
  refine q_aload_n 0 58 dX11_init_57 rfl rfl rfl ?_
  refine q_iconst (-1) 59 dX11_init_58 ic_m1 rfl ?_
  refine q_putI 0 62 (w' := [_, _, _, _, _, _, _, _, _, _, _, _, _, _, _, _]) f_X11_41 ft_X11_10 dX11_init_59 rfl rfl rfl rfl ?_
  refine q_return dX11_init_62 rfl ?_
  exact pX.mk ((_, _, _, _, _), (_, _), (_, _, _, _, _, _, _), _) ⟨by omega, by omega⟩ rfl rfl

