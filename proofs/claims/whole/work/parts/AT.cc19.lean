/-! ===== ChaseCourt: the other throws ===== -/
theorem x_X11_chance1 {l : Launch} {g : Gh} {q : Nat} {p n : Int32} (ha : ¬ p = 0) (hb : ¬ p = 1) : Cx l g yX11_chance (Cond.code yX11_chance cX11_chance 5 (some .int)) 7 [.ref q, .int p, .int n] [] "java/lang/IndexOutOfBoundsException" [] := by
  refine ct_of (M := mtX11_chance) [some (.ref q), some (.int p), some (.int n), none, none] rfl (by decide) (Nat.le_of_ble_eq_true rfl) (fun _ h => h) (fun a => ?_)
  refine q_iload_n 1 1 dX11_chance_0 rfl rfl rfl ?_
  refine q_xS [] [] (wr := []) (w1 := _) (x_X11_needPlayer ha hb) m_X11_130 dX11_chance_1 rfl rfl rfl rfl (by decide) (by decide) (by decide) (Nat.le_of_ble_eq_true rfl) (by omega) (by omega) (by omega) rfl ?_
  exact pT.rf
theorem x_X11_chance2 {l : Launch} {g : Gh} {q : Nat} {p n : Int32} (hp : p = 0 ∨ p = 1) (hn : n < 0 ∨ ¬ n ≤ 30) : Cx l g yX11_chance (Cond.code yX11_chance cX11_chance 5 (some .int)) 7 [.ref q, .int p, .int n] [] "java/lang/IllegalArgumentException" [] := by
  refine ct_of (M := mtX11_chance) [some (.ref q), some (.int p), some (.int n), none, none] rfl (by decide) (Nat.le_of_ble_eq_true rfl) (fun _ h => h) (fun a => ?_)
  refine q_iload_n 1 1 dX11_chance_0 rfl rfl rfl ?_
  refine q_cSv [] [] [] 4 (wr := []) (w1 := _) (ws' := []) (c_X11_needPlayer hp) m_X11_130 dX11_chance_1 rfl rfl rfl rfl rfl (by decide) (by decide) (by decide) (by decide) (Nat.le_of_ble_eq_true rfl) (by omega) (by omega) (by omega) rfl ?_
  refine q_iload_n 2 5 dX11_chance_4 rfl rfl rfl ?_
  refine q_xS [] [] (wr := []) (w1 := _) (x_X11_needRallies hn) m_X11_188 dX11_chance_5 rfl rfl rfl rfl (by decide) (by decide) (by decide) (Nat.le_of_ble_eq_true rfl) (by omega) (by omega) (by omega) rfl ?_
  exact pT.rf
theorem x_X11_chance3 {l : Launch} {g : Gh} {q sd la ru so : Nat} {i s li : Sc} {R : List (Option Nat)} {p n : Int32} {t0 t1 t2 t4 t5 t6 t7 t8 : Option Nat} (hp : p = 0 ∨ p = 1) (hn1 : ¬ n < 0) (hn2 : n ≤ 30) (ho : ¬ sOver s li = 0) : Cx l g yX11_chance (Cond.code yX11_chance cX11_chance 5 (some .int)) 7 [.ref q, .int p, .int n] [(q, ob 11 i [t0, t1, t2, some sd, t4, t5, t6, t7, t8, none, none]), (sd, ob 10 (fun _ => 0) (rD la ru so)), (la, ob 0 li R), (so, ob 8 s [])] "java/lang/IllegalStateException" [(q, ob 11 i [t0, t1, t2, some sd, t4, t5, t6, t7, t8, none, none]), (sd, ob 10 (fun _ => 0) (rD la ru so)), (la, ob 0 li R), (so, ob 8 s [])] := by
  refine ct_of (M := mtX11_chance) [some (.ref q), some (.int p), some (.int n), none, none] rfl (by decide) (Nat.le_of_ble_eq_true rfl) (fun _ h => h) (fun a => ?_)
  refine q_iload_n 1 1 dX11_chance_0 rfl rfl rfl ?_
  refine q_cSv [] [0, 1, 2, 3] [0, 1, 2, 3] 4 (wr := [_, _, _, _]) (w1 := _) (ws' := [_, _, _, _]) (c_X11_needPlayer hp) m_X11_130 dX11_chance_1 rfl rfl rfl rfl rfl (by decide) (by decide) (by decide) (by decide) (Nat.le_of_ble_eq_true rfl) (by omega) (by omega) (by omega) rfl ?_
  refine q_iload_n 2 5 dX11_chance_4 rfl rfl rfl ?_
  refine q_cSv [] [0, 1, 2, 3] [0, 1, 2, 3] 8 (wr := [_, _, _, _]) (w1 := _) (ws' := [_, _, _, _]) (c_X11_needRallies hn1 hn2) m_X11_188 dX11_chance_5 rfl rfl rfl rfl rfl (by decide) (by decide) (by decide) (by decide) (Nat.le_of_ble_eq_true rfl) (by omega) (by omega) (by omega) rfl ?_
  refine q_aload_n 0 9 dX11_chance_8 rfl rfl rfl ?_
  refine q_aload_n 0 10 dX11_chance_9 rfl rfl rfl ?_
  refine q_getR 0 13 f_X11_30 dX11_chance_10 rfl rfl rfl rfl ?_
  refine q_getR 1 16 f_X11_138 dX11_chance_13 rfl rfl rfl rfl ?_
  refine q_xV 0 [0, 1, 2, 3] [] (wr := []) (w1 := _) (x_X11_needGoingOn ho) m_X11_176 dX11_chance_16 rfl rfl rfl rfl rfl rfl rfl (by decide) (by decide) (by decide) (Nat.le_of_ble_eq_true rfl) (by omega) (by omega) (by omega) rfl ?_
  exact pT.rf
theorem x_X11_best1 {l : Launch} {g : Gh} {q : Nat} {p n b : Int32} (ha : ¬ p = 0) (hb : ¬ p = 1) : Cx l g yX11_best (Cond.code yX11_best cX11_best 6 (some .int)) 7 [.ref q, .int p, .int n, .int b] [] "java/lang/IndexOutOfBoundsException" [] := by
  refine ct_of (M := mtX11_best) [some (.ref q), some (.int p), some (.int n), some (.int b), none, none] rfl (by decide) (Nat.le_of_ble_eq_true rfl) (fun _ h => h) (fun a => ?_)
  refine q_iload_n 1 1 dX11_best_0 rfl rfl rfl ?_
  refine q_xS [] [] (wr := []) (w1 := _) (x_X11_needPlayer ha hb) m_X11_130 dX11_best_1 rfl rfl rfl rfl (by decide) (by decide) (by decide) (Nat.le_of_ble_eq_true rfl) (by omega) (by omega) (by omega) rfl ?_
  exact pT.rf
theorem x_X11_best2 {l : Launch} {g : Gh} {q : Nat} {p n b : Int32} (hp : p = 0 ∨ p = 1) (hn : n < 0 ∨ ¬ n ≤ 30) : Cx l g yX11_best (Cond.code yX11_best cX11_best 6 (some .int)) 7 [.ref q, .int p, .int n, .int b] [] "java/lang/IllegalArgumentException" [] := by
  refine ct_of (M := mtX11_best) [some (.ref q), some (.int p), some (.int n), some (.int b), none, none] rfl (by decide) (Nat.le_of_ble_eq_true rfl) (fun _ h => h) (fun a => ?_)
  refine q_iload_n 1 1 dX11_best_0 rfl rfl rfl ?_
  refine q_cSv [] [] [] 4 (wr := []) (w1 := _) (ws' := []) (c_X11_needPlayer hp) m_X11_130 dX11_best_1 rfl rfl rfl rfl rfl (by decide) (by decide) (by decide) (by decide) (Nat.le_of_ble_eq_true rfl) (by omega) (by omega) (by omega) rfl ?_
  refine q_iload_n 2 5 dX11_best_4 rfl rfl rfl ?_
  refine q_xS [] [] (wr := []) (w1 := _) (x_X11_needRallies hn) m_X11_188 dX11_best_5 rfl rfl rfl rfl (by decide) (by decide) (by decide) (Nat.le_of_ble_eq_true rfl) (by omega) (by omega) (by omega) rfl ?_
  exact pT.rf
theorem x_X11_best3 {l : Launch} {g : Gh} {q sd la ru so : Nat} {i s li : Sc} {R : List (Option Nat)} {p n b : Int32} {t0 t1 t2 t4 t5 t6 t7 t8 : Option Nat} (hp : p = 0 ∨ p = 1) (hn1 : ¬ n < 0) (hn2 : n ≤ 30) (ho : ¬ sOver s li = 0) : Cx l g yX11_best (Cond.code yX11_best cX11_best 6 (some .int)) 7 [.ref q, .int p, .int n, .int b] [(q, ob 11 i [t0, t1, t2, some sd, t4, t5, t6, t7, t8, none, none]), (sd, ob 10 (fun _ => 0) (rD la ru so)), (la, ob 0 li R), (so, ob 8 s [])] "java/lang/IllegalStateException" [(q, ob 11 i [t0, t1, t2, some sd, t4, t5, t6, t7, t8, none, none]), (sd, ob 10 (fun _ => 0) (rD la ru so)), (la, ob 0 li R), (so, ob 8 s [])] := by
  refine ct_of (M := mtX11_best) [some (.ref q), some (.int p), some (.int n), some (.int b), none, none] rfl (by decide) (Nat.le_of_ble_eq_true rfl) (fun _ h => h) (fun a => ?_)
  refine q_iload_n 1 1 dX11_best_0 rfl rfl rfl ?_
  refine q_cSv [] [0, 1, 2, 3] [0, 1, 2, 3] 4 (wr := [_, _, _, _]) (w1 := _) (ws' := [_, _, _, _]) (c_X11_needPlayer hp) m_X11_130 dX11_best_1 rfl rfl rfl rfl rfl (by decide) (by decide) (by decide) (by decide) (Nat.le_of_ble_eq_true rfl) (by omega) (by omega) (by omega) rfl ?_
  refine q_iload_n 2 5 dX11_best_4 rfl rfl rfl ?_
  refine q_cSv [] [0, 1, 2, 3] [0, 1, 2, 3] 8 (wr := [_, _, _, _]) (w1 := _) (ws' := [_, _, _, _]) (c_X11_needRallies hn1 hn2) m_X11_188 dX11_best_5 rfl rfl rfl rfl rfl (by decide) (by decide) (by decide) (by decide) (Nat.le_of_ble_eq_true rfl) (by omega) (by omega) (by omega) rfl ?_
  refine q_aload_n 0 9 dX11_best_8 rfl rfl rfl ?_
  refine q_aload_n 0 10 dX11_best_9 rfl rfl rfl ?_
  refine q_getR 0 13 f_X11_30 dX11_best_10 rfl rfl rfl rfl ?_
  refine q_getR 1 16 f_X11_138 dX11_best_13 rfl rfl rfl rfl ?_
  refine q_xV 0 [0, 1, 2, 3] [] (wr := []) (w1 := _) (x_X11_needGoingOn ho) m_X11_176 dX11_best_16 rfl rfl rfl rfl rfl rfl rfl (by decide) (by decide) (by decide) (Nat.le_of_ble_eq_true rfl) (by omega) (by omega) (by omega) rfl ?_
  exact pT.rf
theorem x_X11_saves1 {l : Launch} {g : Gh} {q : Nat} {p n w : Int32} (ha : ¬ p = 0) (hb : ¬ p = 1) : Cx l g yX11_saves (Cond.code yX11_saves cX11_saves 7 (some .int)) 7 [.ref q, .int p, .int n, .int w] [] "java/lang/IndexOutOfBoundsException" [] := by
  refine ct_of (M := mtX11_saves) [some (.ref q), some (.int p), some (.int n), some (.int w), none, none, none] rfl (by decide) (Nat.le_of_ble_eq_true rfl) (fun _ h => h) (fun a => ?_)
  refine q_iload_n 1 1 dX11_saves_0 rfl rfl rfl ?_
  refine q_xS [] [] (wr := []) (w1 := _) (x_X11_needPlayer ha hb) m_X11_130 dX11_saves_1 rfl rfl rfl rfl (by decide) (by decide) (by decide) (Nat.le_of_ble_eq_true rfl) (by omega) (by omega) (by omega) rfl ?_
  exact pT.rf
theorem x_X11_saves2 {l : Launch} {g : Gh} {q : Nat} {p n w : Int32} (hp : p = 0 ∨ p = 1) (hn : n < 0 ∨ ¬ n ≤ 30) : Cx l g yX11_saves (Cond.code yX11_saves cX11_saves 7 (some .int)) 7 [.ref q, .int p, .int n, .int w] [] "java/lang/IllegalArgumentException" [] := by
  refine ct_of (M := mtX11_saves) [some (.ref q), some (.int p), some (.int n), some (.int w), none, none, none] rfl (by decide) (Nat.le_of_ble_eq_true rfl) (fun _ h => h) (fun a => ?_)
  refine q_iload_n 1 1 dX11_saves_0 rfl rfl rfl ?_
  refine q_cSv [] [] [] 4 (wr := []) (w1 := _) (ws' := []) (c_X11_needPlayer hp) m_X11_130 dX11_saves_1 rfl rfl rfl rfl rfl (by decide) (by decide) (by decide) (by decide) (Nat.le_of_ble_eq_true rfl) (by omega) (by omega) (by omega) rfl ?_
  refine q_iload_n 2 5 dX11_saves_4 rfl rfl rfl ?_
  refine q_xS [] [] (wr := []) (w1 := _) (x_X11_needRallies hn) m_X11_188 dX11_saves_5 rfl rfl rfl rfl (by decide) (by decide) (by decide) (Nat.le_of_ble_eq_true rfl) (by omega) (by omega) (by omega) rfl ?_
  exact pT.rf
theorem x_X11_saves3 {l : Launch} {g : Gh} {q sd la ru so : Nat} {i s li : Sc} {R : List (Option Nat)} {p n w : Int32} {t0 t1 t2 t4 t5 t6 t7 t8 : Option Nat} (hp : p = 0 ∨ p = 1) (hn1 : ¬ n < 0) (hn2 : n ≤ 30) (ho : ¬ sOver s li = 0) : Cx l g yX11_saves (Cond.code yX11_saves cX11_saves 7 (some .int)) 7 [.ref q, .int p, .int n, .int w] [(q, ob 11 i [t0, t1, t2, some sd, t4, t5, t6, t7, t8, none, none]), (sd, ob 10 (fun _ => 0) (rD la ru so)), (la, ob 0 li R), (so, ob 8 s [])] "java/lang/IllegalStateException" [(q, ob 11 i [t0, t1, t2, some sd, t4, t5, t6, t7, t8, none, none]), (sd, ob 10 (fun _ => 0) (rD la ru so)), (la, ob 0 li R), (so, ob 8 s [])] := by
  refine ct_of (M := mtX11_saves) [some (.ref q), some (.int p), some (.int n), some (.int w), none, none, none] rfl (by decide) (Nat.le_of_ble_eq_true rfl) (fun _ h => h) (fun a => ?_)
  refine q_iload_n 1 1 dX11_saves_0 rfl rfl rfl ?_
  refine q_cSv [] [0, 1, 2, 3] [0, 1, 2, 3] 4 (wr := [_, _, _, _]) (w1 := _) (ws' := [_, _, _, _]) (c_X11_needPlayer hp) m_X11_130 dX11_saves_1 rfl rfl rfl rfl rfl (by decide) (by decide) (by decide) (by decide) (Nat.le_of_ble_eq_true rfl) (by omega) (by omega) (by omega) rfl ?_
  refine q_iload_n 2 5 dX11_saves_4 rfl rfl rfl ?_
  refine q_cSv [] [0, 1, 2, 3] [0, 1, 2, 3] 8 (wr := [_, _, _, _]) (w1 := _) (ws' := [_, _, _, _]) (c_X11_needRallies hn1 hn2) m_X11_188 dX11_saves_5 rfl rfl rfl rfl rfl (by decide) (by decide) (by decide) (by decide) (Nat.le_of_ble_eq_true rfl) (by omega) (by omega) (by omega) rfl ?_
  refine q_aload_n 0 9 dX11_saves_8 rfl rfl rfl ?_
  refine q_aload_n 0 10 dX11_saves_9 rfl rfl rfl ?_
  refine q_getR 0 13 f_X11_30 dX11_saves_10 rfl rfl rfl rfl ?_
  refine q_getR 1 16 f_X11_138 dX11_saves_13 rfl rfl rfl rfl ?_
  refine q_xV 0 [0, 1, 2, 3] [] (wr := []) (w1 := _) (x_X11_needGoingOn ho) m_X11_176 dX11_saves_16 rfl rfl rfl rfl rfl rfl rfl (by decide) (by decide) (by decide) (Nat.le_of_ble_eq_true rfl) (by omega) (by omega) (by omega) rfl ?_
  exact pT.rf
theorem x_X11_set1 {l : Launch} {g : Gh} {q : Nat} {p n : Int32} (ha : ¬ p = 0) (hb : ¬ p = 1) : Cx l g yX11_set (Cond.code yX11_set cX11_set 9 (some .int)) 7 [.ref q, .int p, .int n] [] "java/lang/IndexOutOfBoundsException" [] := by
  refine ct_of (M := mtX11_set) [some (.ref q), some (.int p), some (.int n), none, none, none, none, none, none] rfl (by decide) (Nat.le_of_ble_eq_true rfl) (fun _ h => h) (fun a => ?_)
  refine q_iload_n 1 1 dX11_set_0 rfl rfl rfl ?_
  refine q_xS [] [] (wr := []) (w1 := _) (x_X11_needPlayer ha hb) m_X11_130 dX11_set_1 rfl rfl rfl rfl (by decide) (by decide) (by decide) (Nat.le_of_ble_eq_true rfl) (by omega) (by omega) (by omega) rfl ?_
  exact pT.rf
theorem x_X11_set2 {l : Launch} {g : Gh} {q : Nat} {p n : Int32} (hp : p = 0 ∨ p = 1) (hn : n < 0 ∨ ¬ n ≤ 30) : Cx l g yX11_set (Cond.code yX11_set cX11_set 9 (some .int)) 7 [.ref q, .int p, .int n] [] "java/lang/IllegalArgumentException" [] := by
  refine ct_of (M := mtX11_set) [some (.ref q), some (.int p), some (.int n), none, none, none, none, none, none] rfl (by decide) (Nat.le_of_ble_eq_true rfl) (fun _ h => h) (fun a => ?_)
  refine q_iload_n 1 1 dX11_set_0 rfl rfl rfl ?_
  refine q_cSv [] [] [] 4 (wr := []) (w1 := _) (ws' := []) (c_X11_needPlayer hp) m_X11_130 dX11_set_1 rfl rfl rfl rfl rfl (by decide) (by decide) (by decide) (by decide) (Nat.le_of_ble_eq_true rfl) (by omega) (by omega) (by omega) rfl ?_
  refine q_iload_n 2 5 dX11_set_4 rfl rfl rfl ?_
  refine q_xS [] [] (wr := []) (w1 := _) (x_X11_needRallies hn) m_X11_188 dX11_set_5 rfl rfl rfl rfl (by decide) (by decide) (by decide) (Nat.le_of_ble_eq_true rfl) (by omega) (by omega) (by omega) rfl ?_
  exact pT.rf
theorem x_X11_set3 {l : Launch} {g : Gh} {q sd la ru so : Nat} {i s li : Sc} {R : List (Option Nat)} {p n : Int32} {t0 t1 t2 t4 t5 t6 t7 t8 : Option Nat} (hp : p = 0 ∨ p = 1) (hn1 : ¬ n < 0) (hn2 : n ≤ 30) (ho : ¬ sOver s li = 0) : Cx l g yX11_set (Cond.code yX11_set cX11_set 9 (some .int)) 7 [.ref q, .int p, .int n] [(q, ob 11 i [t0, t1, t2, some sd, t4, t5, t6, t7, t8, none, none]), (sd, ob 10 (fun _ => 0) (rD la ru so)), (la, ob 0 li R), (so, ob 8 s [])] "java/lang/IllegalStateException" [(q, ob 11 i [t0, t1, t2, some sd, t4, t5, t6, t7, t8, none, none]), (sd, ob 10 (fun _ => 0) (rD la ru so)), (la, ob 0 li R), (so, ob 8 s [])] := by
  refine ct_of (M := mtX11_set) [some (.ref q), some (.int p), some (.int n), none, none, none, none, none, none] rfl (by decide) (Nat.le_of_ble_eq_true rfl) (fun _ h => h) (fun a => ?_)
  refine q_iload_n 1 1 dX11_set_0 rfl rfl rfl ?_
  refine q_cSv [] [0, 1, 2, 3] [0, 1, 2, 3] 4 (wr := [_, _, _, _]) (w1 := _) (ws' := [_, _, _, _]) (c_X11_needPlayer hp) m_X11_130 dX11_set_1 rfl rfl rfl rfl rfl (by decide) (by decide) (by decide) (by decide) (Nat.le_of_ble_eq_true rfl) (by omega) (by omega) (by omega) rfl ?_
  refine q_iload_n 2 5 dX11_set_4 rfl rfl rfl ?_
  refine q_cSv [] [0, 1, 2, 3] [0, 1, 2, 3] 8 (wr := [_, _, _, _]) (w1 := _) (ws' := [_, _, _, _]) (c_X11_needRallies hn1 hn2) m_X11_188 dX11_set_5 rfl rfl rfl rfl rfl (by decide) (by decide) (by decide) (by decide) (Nat.le_of_ble_eq_true rfl) (by omega) (by omega) (by omega) rfl ?_
  refine q_aload_n 0 9 dX11_set_8 rfl rfl rfl ?_
  refine q_aload_n 0 10 dX11_set_9 rfl rfl rfl ?_
  refine q_getR 0 13 f_X11_30 dX11_set_10 rfl rfl rfl rfl ?_
  refine q_getR 1 16 f_X11_138 dX11_set_13 rfl rfl rfl rfl ?_
  refine q_xV 0 [0, 1, 2, 3] [] (wr := []) (w1 := _) (x_X11_needGoingOn ho) m_X11_176 dX11_set_16 rfl rfl rfl rfl rfl rfl rfl (by decide) (by decide) (by decide) (Nat.le_of_ble_eq_true rfl) (by omega) (by omega) (by omega) rfl ?_
  exact pT.rf
theorem x_X11_saves4 {l : Launch} {g : Gh} {q sd la ru so : Nat} {i s li : Sc} {R : List (Option Nat)} {p n w : Int32} {t0 t1 t2 t4 t5 t6 t7 t8 : Option Nat} (hp : p = 0 ∨ p = 1) (hn1 : ¬ n < 0) (hn2 : n ≤ 30) (ho : sOver s li = 0) (hw : w < 0 ∨ ¬ w < 3) : Cx l g yX11_saves (Cond.code yX11_saves cX11_saves 7 (some .int)) 7 [.ref q, .int p, .int n, .int w] [(q, ob 11 i [t0, t1, t2, some sd, t4, t5, t6, t7, t8, none, none]), (sd, ob 10 (fun _ => 0) (rD la ru so)), (la, ob 0 li R), (so, ob 8 s [])] "java/util/NoSuchElementException" [(q, ob 11 i [t0, t1, t2, some sd, t4, t5, t6, t7, t8, none, none]), (sd, ob 10 (fun _ => 0) (rD la ru so)), (la, ob 0 li R), (so, ob 8 s [])] := by
  refine ct_of (M := mtX11_saves) [some (.ref q), some (.int p), some (.int n), some (.int w), none, none, none] rfl (by decide) (Nat.le_of_ble_eq_true rfl) (fun _ h => h) (fun a => ?_)
  refine q_iload_n 1 1 dX11_saves_0 rfl rfl rfl ?_
  refine q_cSv [] [0, 1, 2, 3] [0, 1, 2, 3] 4 (wr := [_, _, _, _]) (w1 := _) (ws' := [_, _, _, _]) (c_X11_needPlayer hp) m_X11_130 dX11_saves_1 rfl rfl rfl rfl rfl (by decide) (by decide) (by decide) (by decide) (Nat.le_of_ble_eq_true rfl) (by omega) (by omega) (by omega) rfl ?_
  refine q_iload_n 2 5 dX11_saves_4 rfl rfl rfl ?_
  refine q_cSv [] [0, 1, 2, 3] [0, 1, 2, 3] 8 (wr := [_, _, _, _]) (w1 := _) (ws' := [_, _, _, _]) (c_X11_needRallies hn1 hn2) m_X11_188 dX11_saves_5 rfl rfl rfl rfl rfl (by decide) (by decide) (by decide) (by decide) (Nat.le_of_ble_eq_true rfl) (by omega) (by omega) (by omega) rfl ?_
  refine q_aload_n 0 9 dX11_saves_8 rfl rfl rfl ?_
  refine q_aload_n 0 10 dX11_saves_9 rfl rfl rfl ?_
  refine q_getR 0 13 f_X11_30 dX11_saves_10 rfl rfl rfl rfl ?_
  refine q_getR 1 16 f_X11_138 dX11_saves_13 rfl rfl rfl rfl ?_
  refine q_cVv 0 [0, 1, 2, 3] [] [0, 1, 2, 3] 19 (wr := []) (w1 := _) (ws' := [_, _, _, _]) (c_X11_needGoingOn ho) m_X11_176 dX11_saves_16 rfl rfl rfl rfl rfl rfl rfl rfl (by decide) (by decide) (by decide) (by decide) (Nat.le_of_ble_eq_true rfl) (by omega) (by omega) (by omega) rfl ?_
  refine q_iload_n 3 20 dX11_saves_19 rfl rfl rfl ?_
  refine q_iconst 3 21 dX11_saves_20 ic_3 rfl ?_
  refine q_xS [] [0, 1, 2, 3] (wr := [_, _, _, _]) (w1 := _) (x_X11_needWhat hw) m_X11_122 dX11_saves_21 rfl rfl rfl rfl (by decide) (by decide) (by decide) (Nat.le_of_ble_eq_true rfl) (by omega) (by omega) (by omega) rfl ?_
  exact pT.rf
theorem x_X11_worth1 {l : Launch} {g : Gh} {q : Nat} {p ln n : Int32} (ha : ¬ p = 0) (hb : ¬ p = 1) : Cx l g yX11_worth (Cond.code yX11_worth cX11_worth 7 (some .int)) 7 [.ref q, .int p, .int ln, .int n] [] "java/lang/IndexOutOfBoundsException" [] := by
  refine ct_of (M := mtX11_worth) [some (.ref q), some (.int p), some (.int ln), some (.int n), none, none, none] rfl (by decide) (Nat.le_of_ble_eq_true rfl) (fun _ h => h) (fun a => ?_)
  refine q_iload_n 1 1 dX11_worth_0 rfl rfl rfl ?_
  refine q_xS [] [] (wr := []) (w1 := _) (x_X11_needPlayer ha hb) m_X11_130 dX11_worth_1 rfl rfl rfl rfl (by decide) (by decide) (by decide) (Nat.le_of_ble_eq_true rfl) (by omega) (by omega) (by omega) rfl ?_
  exact pT.rf
theorem x_X11_worth2 {l : Launch} {g : Gh} {q : Nat} {p ln n : Int32} (hp : p = 0 ∨ p = 1) (hl : ln < 0 ∨ ¬ ln < 10) : Cx l g yX11_worth (Cond.code yX11_worth cX11_worth 7 (some .int)) 7 [.ref q, .int p, .int ln, .int n] [] "java/lang/IndexOutOfBoundsException" [] := by
  refine ct_of (M := mtX11_worth) [some (.ref q), some (.int p), some (.int ln), some (.int n), none, none, none] rfl (by decide) (Nat.le_of_ble_eq_true rfl) (fun _ h => h) (fun a => ?_)
  refine q_iload_n 1 1 dX11_worth_0 rfl rfl rfl ?_
  refine q_cSv [] [] [] 4 (wr := []) (w1 := _) (ws' := []) (c_X11_needPlayer hp) m_X11_130 dX11_worth_1 rfl rfl rfl rfl rfl (by decide) (by decide) (by decide) (by decide) (Nat.le_of_ble_eq_true rfl) (by omega) (by omega) (by omega) rfl ?_
  refine q_iload_n 2 5 dX11_worth_4 rfl rfl rfl ?_
  refine q_xS [] [] (wr := []) (w1 := _) (x_X11_needLine hl) m_X11_171 dX11_worth_5 rfl rfl rfl rfl (by decide) (by decide) (by decide) (Nat.le_of_ble_eq_true rfl) (by omega) (by omega) (by omega) rfl ?_
  exact pT.rf
theorem x_X11_worth3 {l : Launch} {g : Gh} {q : Nat} {p ln n : Int32} (hp : p = 0 ∨ p = 1) (hl1 : ¬ ln < 0) (hl2 : ln < 10) (hn : n < 0 ∨ ¬ n ≤ 30) : Cx l g yX11_worth (Cond.code yX11_worth cX11_worth 7 (some .int)) 7 [.ref q, .int p, .int ln, .int n] [] "java/lang/IllegalArgumentException" [] := by
  refine ct_of (M := mtX11_worth) [some (.ref q), some (.int p), some (.int ln), some (.int n), none, none, none] rfl (by decide) (Nat.le_of_ble_eq_true rfl) (fun _ h => h) (fun a => ?_)
  refine q_iload_n 1 1 dX11_worth_0 rfl rfl rfl ?_
  refine q_cSv [] [] [] 4 (wr := []) (w1 := _) (ws' := []) (c_X11_needPlayer hp) m_X11_130 dX11_worth_1 rfl rfl rfl rfl rfl (by decide) (by decide) (by decide) (by decide) (Nat.le_of_ble_eq_true rfl) (by omega) (by omega) (by omega) rfl ?_
  refine q_iload_n 2 5 dX11_worth_4 rfl rfl rfl ?_
  refine q_cSv [] [] [] 8 (wr := []) (w1 := _) (ws' := []) (c_X11_needLine hl1 hl2) m_X11_171 dX11_worth_5 rfl rfl rfl rfl rfl (by decide) (by decide) (by decide) (by decide) (Nat.le_of_ble_eq_true rfl) (by omega) (by omega) (by omega) rfl ?_
  refine q_iload_n 3 9 dX11_worth_8 rfl rfl rfl ?_
  refine q_xS [] [] (wr := []) (w1 := _) (x_X11_needRallies hn) m_X11_188 dX11_worth_9 rfl rfl rfl rfl (by decide) (by decide) (by decide) (Nat.le_of_ble_eq_true rfl) (by omega) (by omega) (by omega) rfl ?_
  exact pT.rf
theorem x_X11_worth4 {l : Launch} {g : Gh} {q sd la ru so : Nat} {i s li : Sc} {R : List (Option Nat)} {p ln n : Int32} {t0 t1 t2 t4 t5 t6 t7 t8 : Option Nat} (hp : p = 0 ∨ p = 1) (hl1 : ¬ ln < 0) (hl2 : ln < 10) (hn1 : ¬ n < 0) (hn2 : n ≤ 30) (ho : ¬ sOver s li = 0) : Cx l g yX11_worth (Cond.code yX11_worth cX11_worth 7 (some .int)) 7 [.ref q, .int p, .int ln, .int n] [(q, ob 11 i [t0, t1, t2, some sd, t4, t5, t6, t7, t8, none, none]), (sd, ob 10 (fun _ => 0) (rD la ru so)), (la, ob 0 li R), (so, ob 8 s [])] "java/lang/IllegalStateException" [(q, ob 11 i [t0, t1, t2, some sd, t4, t5, t6, t7, t8, none, none]), (sd, ob 10 (fun _ => 0) (rD la ru so)), (la, ob 0 li R), (so, ob 8 s [])] := by
  refine ct_of (M := mtX11_worth) [some (.ref q), some (.int p), some (.int ln), some (.int n), none, none, none] rfl (by decide) (Nat.le_of_ble_eq_true rfl) (fun _ h => h) (fun a => ?_)
  refine q_iload_n 1 1 dX11_worth_0 rfl rfl rfl ?_
  refine q_cSv [] [0, 1, 2, 3] [0, 1, 2, 3] 4 (wr := [_, _, _, _]) (w1 := _) (ws' := [_, _, _, _]) (c_X11_needPlayer hp) m_X11_130 dX11_worth_1 rfl rfl rfl rfl rfl (by decide) (by decide) (by decide) (by decide) (Nat.le_of_ble_eq_true rfl) (by omega) (by omega) (by omega) rfl ?_
  refine q_iload_n 2 5 dX11_worth_4 rfl rfl rfl ?_
  refine q_cSv [] [0, 1, 2, 3] [0, 1, 2, 3] 8 (wr := [_, _, _, _]) (w1 := _) (ws' := [_, _, _, _]) (c_X11_needLine hl1 hl2) m_X11_171 dX11_worth_5 rfl rfl rfl rfl rfl (by decide) (by decide) (by decide) (by decide) (Nat.le_of_ble_eq_true rfl) (by omega) (by omega) (by omega) rfl ?_
  refine q_iload_n 3 9 dX11_worth_8 rfl rfl rfl ?_
  refine q_cSv [] [0, 1, 2, 3] [0, 1, 2, 3] 12 (wr := [_, _, _, _]) (w1 := _) (ws' := [_, _, _, _]) (c_X11_needRallies hn1 hn2) m_X11_188 dX11_worth_9 rfl rfl rfl rfl rfl (by decide) (by decide) (by decide) (by decide) (Nat.le_of_ble_eq_true rfl) (by omega) (by omega) (by omega) rfl ?_
  refine q_aload_n 0 13 dX11_worth_12 rfl rfl rfl ?_
  refine q_aload_n 0 14 dX11_worth_13 rfl rfl rfl ?_
  refine q_getR 0 17 f_X11_30 dX11_worth_14 rfl rfl rfl rfl ?_
  refine q_getR 1 20 f_X11_138 dX11_worth_17 rfl rfl rfl rfl ?_
  refine q_xV 0 [0, 1, 2, 3] [] (wr := []) (w1 := _) (x_X11_needGoingOn ho) m_X11_176 dX11_worth_20 rfl rfl rfl rfl rfl rfl rfl (by decide) (by decide) (by decide) (Nat.le_of_ble_eq_true rfl) (by omega) (by omega) (by omega) rfl ?_
  exact pT.rf
theorem x_X11_ways1 {l : Launch} {g : Gh} {q : Nat} {v0 w0 t9 n : Int32} (ha : ¬ v0 = 0) (hb : ¬ v0 = 1) : Cx l g yX11_ways (Cond.code yX11_ways cX11_ways 7 (some .int)) 7 [.ref q, .int v0, .int w0, .int t9, .int n] [] "java/lang/IndexOutOfBoundsException" [] := by
  refine ct_of (M := mtX11_ways) [some (.ref q), some (.int v0), some (.int w0), some (.int t9), some (.int n), none, none] rfl (by decide) (Nat.le_of_ble_eq_true rfl) (fun _ h => h) (fun a => ?_)
  refine q_iload_n 1 1 dX11_ways_0 rfl rfl rfl ?_
  refine q_xS [] [] (wr := []) (w1 := _) (x_X11_needPlayer ha hb) m_X11_130 dX11_ways_1 rfl rfl rfl rfl (by decide) (by decide) (by decide) (Nat.le_of_ble_eq_true rfl) (by omega) (by omega) (by omega) rfl ?_
  exact pT.rf
theorem x_X11_ways2 {l : Launch} {g : Gh} {q : Nat} {v0 w0 t9 n : Int32} (h1 : v0 = 0 ∨ v0 = 1) (ha : ¬ w0 = 0) (hb : ¬ w0 = 1) : Cx l g yX11_ways (Cond.code yX11_ways cX11_ways 7 (some .int)) 7 [.ref q, .int v0, .int w0, .int t9, .int n] [] "java/lang/IndexOutOfBoundsException" [] := by
  refine ct_of (M := mtX11_ways) [some (.ref q), some (.int v0), some (.int w0), some (.int t9), some (.int n), none, none] rfl (by decide) (Nat.le_of_ble_eq_true rfl) (fun _ h => h) (fun a => ?_)
  refine q_iload_n 1 1 dX11_ways_0 rfl rfl rfl ?_
  refine q_cSv [] [] [] 4 (wr := []) (w1 := _) (ws' := []) (c_X11_needPlayer h1) m_X11_130 dX11_ways_1 rfl rfl rfl rfl rfl (by decide) (by decide) (by decide) (by decide) (Nat.le_of_ble_eq_true rfl) (by omega) (by omega) (by omega) rfl ?_
  refine q_iload_n 2 5 dX11_ways_4 rfl rfl rfl ?_
  refine q_xS [] [] (wr := []) (w1 := _) (x_X11_needPlayer ha hb) m_X11_130 dX11_ways_5 rfl rfl rfl rfl (by decide) (by decide) (by decide) (Nat.le_of_ble_eq_true rfl) (by omega) (by omega) (by omega) rfl ?_
  exact pT.rf
theorem x_X11_ways3 {l : Launch} {g : Gh} {q : Nat} {v0 w0 t9 n : Int32} (h1 : v0 = 0 ∨ v0 = 1) (h2 : w0 = 0 ∨ w0 = 1) (ha : ¬ t9 = 0) (hb : ¬ t9 = 1) : Cx l g yX11_ways (Cond.code yX11_ways cX11_ways 7 (some .int)) 7 [.ref q, .int v0, .int w0, .int t9, .int n] [] "java/lang/IndexOutOfBoundsException" [] := by
  refine ct_of (M := mtX11_ways) [some (.ref q), some (.int v0), some (.int w0), some (.int t9), some (.int n), none, none] rfl (by decide) (Nat.le_of_ble_eq_true rfl) (fun _ h => h) (fun a => ?_)
  refine q_iload_n 1 1 dX11_ways_0 rfl rfl rfl ?_
  refine q_cSv [] [] [] 4 (wr := []) (w1 := _) (ws' := []) (c_X11_needPlayer h1) m_X11_130 dX11_ways_1 rfl rfl rfl rfl rfl (by decide) (by decide) (by decide) (by decide) (Nat.le_of_ble_eq_true rfl) (by omega) (by omega) (by omega) rfl ?_
  refine q_iload_n 2 5 dX11_ways_4 rfl rfl rfl ?_
  refine q_cSv [] [] [] 8 (wr := []) (w1 := _) (ws' := []) (c_X11_needPlayer h2) m_X11_130 dX11_ways_5 rfl rfl rfl rfl rfl (by decide) (by decide) (by decide) (by decide) (Nat.le_of_ble_eq_true rfl) (by omega) (by omega) (by omega) rfl ?_
  refine q_iload_n 3 9 dX11_ways_8 rfl rfl rfl ?_
  refine q_xS [] [] (wr := []) (w1 := _) (x_X11_needPlayer ha hb) m_X11_130 dX11_ways_9 rfl rfl rfl rfl (by decide) (by decide) (by decide) (Nat.le_of_ble_eq_true rfl) (by omega) (by omega) (by omega) rfl ?_
  exact pT.rf
theorem x_X11_ways4 {l : Launch} {g : Gh} {q : Nat} {v0 w0 t9 n : Int32} (h1 : v0 = 0 ∨ v0 = 1) (h2 : w0 = 0 ∨ w0 = 1) (h3 : t9 = 0 ∨ t9 = 1) (hn : n < 0 ∨ ¬ n ≤ 30) : Cx l g yX11_ways (Cond.code yX11_ways cX11_ways 7 (some .int)) 7 [.ref q, .int v0, .int w0, .int t9, .int n] [] "java/lang/IllegalArgumentException" [] := by
  refine ct_of (M := mtX11_ways) [some (.ref q), some (.int v0), some (.int w0), some (.int t9), some (.int n), none, none] rfl (by decide) (Nat.le_of_ble_eq_true rfl) (fun _ h => h) (fun a => ?_)
  refine q_iload_n 1 1 dX11_ways_0 rfl rfl rfl ?_
  refine q_cSv [] [] [] 4 (wr := []) (w1 := _) (ws' := []) (c_X11_needPlayer h1) m_X11_130 dX11_ways_1 rfl rfl rfl rfl rfl (by decide) (by decide) (by decide) (by decide) (Nat.le_of_ble_eq_true rfl) (by omega) (by omega) (by omega) rfl ?_
  refine q_iload_n 2 5 dX11_ways_4 rfl rfl rfl ?_
  refine q_cSv [] [] [] 8 (wr := []) (w1 := _) (ws' := []) (c_X11_needPlayer h2) m_X11_130 dX11_ways_5 rfl rfl rfl rfl rfl (by decide) (by decide) (by decide) (by decide) (Nat.le_of_ble_eq_true rfl) (by omega) (by omega) (by omega) rfl ?_
  refine q_iload_n 3 9 dX11_ways_8 rfl rfl rfl ?_
  refine q_cSv [] [] [] 12 (wr := []) (w1 := _) (ws' := []) (c_X11_needPlayer h3) m_X11_130 dX11_ways_9 rfl rfl rfl rfl rfl (by decide) (by decide) (by decide) (by decide) (Nat.le_of_ble_eq_true rfl) (by omega) (by omega) (by omega) rfl ?_
  refine q_iload 4 14 dX11_ways_12 rfl rfl ?_
  refine q_xS [] [] (wr := []) (w1 := _) (x_X11_needRallies hn) m_X11_188 dX11_ways_14 rfl rfl rfl rfl (by decide) (by decide) (by decide) (Nat.le_of_ble_eq_true rfl) (by omega) (by omega) (by omega) rfl ?_
  exact pT.rf
theorem x_X11_even1 {l : Launch} {g : Gh} {q : Nat} {n x : Int32} (hn : n < 0 ∨ ¬ n ≤ 30) : Cx l g yX11_even (Cond.code yX11_even cX11_even 11 (some .int)) 7 [.ref q, .int n, .int x] [] "java/lang/IllegalArgumentException" [] := by
  refine ct_of (M := mtX11_even) [some (.ref q), some (.int n), some (.int x), none, none, none, none, none, none, none, none] rfl (by decide) (Nat.le_of_ble_eq_true rfl) (fun _ h => h) (fun a => ?_)
  refine q_iload_n 1 1 dX11_even_0 rfl rfl rfl ?_
  refine q_xS [] [] (wr := []) (w1 := _) (x_X11_needRallies hn) m_X11_188 dX11_even_1 rfl rfl rfl rfl (by decide) (by decide) (by decide) (Nat.le_of_ble_eq_true rfl) (by omega) (by omega) (by omega) rfl ?_
  exact pT.rf
theorem x_X11_even2 {l : Launch} {g : Gh} {q : Nat} {n x : Int32} (hn1 : ¬ n < 0) (hn2 : n ≤ 30) (h : x < 0 ∨ ¬ x ≤ 500000) : Cx l g yX11_even (Cond.code yX11_even cX11_even 11 (some .int)) 6 [.ref q, .int n, .int x] [] "java/lang/IllegalArgumentException" [] := by
  refine ct_of (M := mtX11_even) [some (.ref q), some (.int n), some (.int x), none, none, none, none, none, none, none, none] rfl (by decide) (Nat.le_of_ble_eq_true rfl) (fun _ h => h) (fun a => ?_)
  by_cases ha : x < 0
  · skip
    refine q_iload_n 1 1 dX11_even_0 rfl rfl rfl ?_
    refine q_cSv [] [] [] 4 (wr := []) (w1 := _) (ws' := []) (c_X11_needRallies hn1 hn2) m_X11_188 dX11_even_1 rfl rfl rfl rfl rfl (by decide) (by decide) (by decide) (by decide) (Nat.le_of_ble_eq_true rfl) (by omega) (by omega) (by omega) rfl ?_
    refine q_iload_n 2 5 dX11_even_4 rfl rfl rfl ?_
    refine q_if_lt 14 8 dX11_even_5 (by decide) rfl (fun h5 => ?_) (fun h5 => absurd ha h5)
    refine q_throwS ex_IAE sr_X11_248 rfl rfl dX11_even_14 dX11_even_17 dX11_even_18 dX11_even_20 dX11_even_23 (by omega) (by omega) (by omega) ?_
    exact pT.rf
  · have hb := h.resolve_left ha
    refine q_iload_n 1 1 dX11_even_0 rfl rfl rfl ?_
    refine q_cSv [] [] [] 4 (wr := []) (w1 := _) (ws' := []) (c_X11_needRallies hn1 hn2) m_X11_188 dX11_even_1 rfl rfl rfl rfl rfl (by decide) (by decide) (by decide) (by decide) (Nat.le_of_ble_eq_true rfl) (by omega) (by omega) (by omega) rfl ?_
    refine q_iload_n 2 5 dX11_even_4 rfl rfl rfl ?_
    refine q_if_lt 14 8 dX11_even_5 (by decide) rfl (fun h5 => absurd h5 ha) (fun h5 => ?_)
    refine q_iload_n 2 9 dX11_even_8 rfl rfl rfl ?_
    refine q_ldc 500000 11 k_X11_247 dX11_even_9 rfl ?_
    refine q_icmp_le 24 14 dX11_even_11 (by decide) rfl (fun h11 => absurd h11 hb) (fun h11 => ?_)
    refine q_throwS ex_IAE sr_X11_248 rfl rfl dX11_even_14 dX11_even_17 dX11_even_18 dX11_even_20 dX11_even_23 (by omega) (by omega) (by omega) ?_
    exact pT.rf
theorem c_X11_saves00 {l : Launch} {g : Gh} {q sd la ru so : Nat} {i s li : Sc} {R : List (Option Nat)} {p w : Int32} {t0 t1 t2 t4 t5 t6 t7 t8 : Option Nat} (hp : p = 0 ∨ p = 1) (ho : sOver s li = 0) (hw1 : ¬ w < 0) (hw2 : w < 3) : Cp l g yX11_saves (Cond.code yX11_saves cX11_saves 7 (some .int)) 3 [.ref q, .int p, .int 0, .int w] [(q, ob 11 i [t0, t1, t2, some sd, t4, t5, t6, t7, t8, none, none]), (sd, ob 10 (fun _ => 0) (rD la ru so)), (la, ob 0 li R), (so, ob 8 s [])] (some (.int 0)) [(q, ob 11 i [t0, t1, t2, some sd, t4, t5, t6, t7, t8, none, none]), (sd, ob 10 (fun _ => 0) (rD la ru so)), (la, ob 0 li R), (so, ob 8 s [])] := by
  refine ct_of (M := mtX11_saves) [some (.ref q), some (.int p), some (.int 0), some (.int w), none, none, none] rfl (by decide) (Nat.le_of_ble_eq_true rfl) (fun _ h => h) (fun a => ?_)
  refine q_iload_n 1 1 dX11_saves_0 rfl rfl rfl ?_
  refine q_cSv [] [0, 1, 2, 3] [0, 1, 2, 3] 4 (wr := [_, _, _, _]) (w1 := _) (ws' := [_, _, _, _]) (c_X11_needPlayer hp) m_X11_130 dX11_saves_1 rfl rfl rfl rfl rfl (by decide) (by decide) (by decide) (by decide) (Nat.le_of_ble_eq_true rfl) (by omega) (by omega) (by omega) rfl ?_
  refine q_iload_n 2 5 dX11_saves_4 rfl rfl rfl ?_
  refine q_cSv [] [0, 1, 2, 3] [0, 1, 2, 3] 8 (wr := [_, _, _, _]) (w1 := _) (ws' := [_, _, _, _]) (c_X11_needRallies (by decide) (by decide)) m_X11_188 dX11_saves_5 rfl rfl rfl rfl rfl (by decide) (by decide) (by decide) (by decide) (Nat.le_of_ble_eq_true rfl) (by omega) (by omega) (by omega) rfl ?_
  refine q_aload_n 0 9 dX11_saves_8 rfl rfl rfl ?_
  refine q_aload_n 0 10 dX11_saves_9 rfl rfl rfl ?_
  refine q_getR 0 13 f_X11_30 dX11_saves_10 rfl rfl rfl rfl ?_
  refine q_getR 1 16 f_X11_138 dX11_saves_13 rfl rfl rfl rfl ?_
  refine q_cVv 0 [0, 1, 2, 3] [] [0, 1, 2, 3] 19 (wr := []) (w1 := _) (ws' := [_, _, _, _]) (c_X11_needGoingOn ho) m_X11_176 dX11_saves_16 rfl rfl rfl rfl rfl rfl rfl rfl (by decide) (by decide) (by decide) (by decide) (Nat.le_of_ble_eq_true rfl) (by omega) (by omega) (by omega) rfl ?_
  refine q_iload_n 3 20 dX11_saves_19 rfl rfl rfl ?_
  refine q_iconst 3 21 dX11_saves_20 ic_3 rfl ?_
  refine q_cSv [] [0, 1, 2, 3] [0, 1, 2, 3] 24 (wr := [_, _, _, _]) (w1 := _) (ws' := [_, _, _, _]) (c_X11_needWhat hw1 hw2) m_X11_122 dX11_saves_21 rfl rfl rfl rfl rfl (by decide) (by decide) (by decide) (by decide) (Nat.le_of_ble_eq_true rfl) (by omega) (by omega) (by omega) rfl ?_
  refine q_iload_n 2 25 dX11_saves_24 rfl rfl rfl ?_
  refine q_if_ne 30 28 dX11_saves_25 (by decide) rfl (fun h25 => absurd rfl h25) (fun h25 => ?_)
  refine q_iconst 0 29 dX11_saves_28 ic_0 rfl ?_
  refine q_ireturn dX11_saves_29 rfl ?_
  exact pR.rf
theorem c_X11_worth9 {l : Launch} {g : Gh} {q sd la ru so : Nat} {i s li : Sc} {R : List (Option Nat)} {p ln n : Int32} {t0 t1 t2 t4 t5 t6 t7 t8 : Option Nat} (hp : p = 0 ∨ p = 1) (hl1 : ¬ ln < 0) (hl2 : ln < 10) (hn1 : ¬ n < 0) (hn2 : n ≤ 30) (ho : sOver s li = 0) (hof : ¬ s 6 = 0) : Cp l g yX11_worth (Cond.code yX11_worth cX11_worth 7 (some .int)) 3 [.ref q, .int p, .int ln, .int n] [(q, ob 11 i [t0, t1, t2, some sd, t4, t5, t6, t7, t8, none, none]), (sd, ob 10 (fun _ => 0) (rD la ru so)), (la, ob 0 li R), (so, ob 8 s [])] (some (.int (-2000000000))) [(q, ob 11 i [t0, t1, t2, some sd, t4, t5, t6, t7, t8, none, none]), (sd, ob 10 (fun _ => 0) (rD la ru so)), (la, ob 0 li R), (so, ob 8 s [])] := by
  refine ct_of (M := mtX11_worth) [some (.ref q), some (.int p), some (.int ln), some (.int n), none, none, none] rfl (by decide) (Nat.le_of_ble_eq_true rfl) (fun _ h => h) (fun a => ?_)
  refine q_iload_n 1 1 dX11_worth_0 rfl rfl rfl ?_
  refine q_cSv [] [0, 1, 2, 3] [0, 1, 2, 3] 4 (wr := [_, _, _, _]) (w1 := _) (ws' := [_, _, _, _]) (c_X11_needPlayer hp) m_X11_130 dX11_worth_1 rfl rfl rfl rfl rfl (by decide) (by decide) (by decide) (by decide) (Nat.le_of_ble_eq_true rfl) (by omega) (by omega) (by omega) rfl ?_
  refine q_iload_n 2 5 dX11_worth_4 rfl rfl rfl ?_
  refine q_cSv [] [0, 1, 2, 3] [0, 1, 2, 3] 8 (wr := [_, _, _, _]) (w1 := _) (ws' := [_, _, _, _]) (c_X11_needLine hl1 hl2) m_X11_171 dX11_worth_5 rfl rfl rfl rfl rfl (by decide) (by decide) (by decide) (by decide) (Nat.le_of_ble_eq_true rfl) (by omega) (by omega) (by omega) rfl ?_
  refine q_iload_n 3 9 dX11_worth_8 rfl rfl rfl ?_
  refine q_cSv [] [0, 1, 2, 3] [0, 1, 2, 3] 12 (wr := [_, _, _, _]) (w1 := _) (ws' := [_, _, _, _]) (c_X11_needRallies hn1 hn2) m_X11_188 dX11_worth_9 rfl rfl rfl rfl rfl (by decide) (by decide) (by decide) (by decide) (Nat.le_of_ble_eq_true rfl) (by omega) (by omega) (by omega) rfl ?_
  refine q_aload_n 0 13 dX11_worth_12 rfl rfl rfl ?_
  refine q_aload_n 0 14 dX11_worth_13 rfl rfl rfl ?_
  refine q_getR 0 17 f_X11_30 dX11_worth_14 rfl rfl rfl rfl ?_
  refine q_getR 1 20 f_X11_138 dX11_worth_17 rfl rfl rfl rfl ?_
  refine q_cVv 0 [0, 1, 2, 3] [] [0, 1, 2, 3] 23 (wr := []) (w1 := _) (ws' := [_, _, _, _]) (c_X11_needGoingOn ho) m_X11_176 dX11_worth_20 rfl rfl rfl rfl rfl rfl rfl rfl (by decide) (by decide) (by decide) (by decide) (Nat.le_of_ble_eq_true rfl) (by omega) (by omega) (by omega) rfl ?_
  refine q_aload_n 0 24 dX11_worth_23 rfl rfl rfl ?_
  refine q_getR 0 27 f_X11_30 dX11_worth_24 rfl rfl rfl rfl ?_
  refine q_getR 1 30 f_X11_138 dX11_worth_27 rfl rfl rfl rfl ?_
  refine q_getI 3 33 f_X11_223 dX11_worth_30 rfl rfl rfl ?_
  refine q_if_eq 39 36 dX11_worth_33 (by decide) rfl (fun h33 => absurd h33 hof) (fun h33 => ?_)
  refine q_ldc (-2000000000) 38 k_X11_227 dX11_worth_36 rfl ?_
  refine q_ireturn dX11_worth_38 rfl ?_
  exact pR.rf

