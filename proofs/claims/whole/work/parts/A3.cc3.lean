/-! ===== ChaseCourt: count ===== -/
theorem c_X11_count0 {l : Launch} {g : Gh} {q sd la ru so cc b0 al : Nat} {i li ri s0 : Sc} {t0 t1 t2 t4 t5 t6 t7 t8 : Option Nat} : Cp l g yX11_count (Cond.code yX11_count cX11_count 2 (some .int)) 0 [.ref q, .int 0] [(q, ob 11 i [t0, t1, t2, some sd, t4, t5, t6, t7, t8, none, none]), (sd, ob 10 (fun _ => 0) (rD la ru so)), (la, ob 0 li (rL cc)), (ru, ob 6 ri (rQ b0 al)), (so, ob 8 s0 [])] (some (.int (li 4))) [(q, ob 11 i [t0, t1, t2, some sd, t4, t5, t6, t7, t8, none, none]), (sd, ob 10 (fun _ => 0) (rD la ru so)), (la, ob 0 li (rL cc)), (ru, ob 6 ri (rQ b0 al)), (so, ob 8 s0 [])] := by
  refine ct_of (M := mtX11_count) [some (.ref q), some (.int 0)] rfl (by decide) (Nat.le_of_ble_eq_true rfl) (fun _ h => h) (fun a => ?_)
  refine q_iload_n 1 1 dX11_count_0 rfl rfl rfl ?_
  refine q_tableIn 44 dX11_count_1 (by decide) (by decide) rfl (by decide) ?_
  refine q_aload_n 0 45 dX11_count_44 rfl rfl rfl ?_
  refine q_getR 0 48 f_X11_30 dX11_count_45 rfl rfl rfl rfl ?_
  refine q_getR 1 51 f_X11_60 dX11_count_48 rfl rfl rfl rfl ?_
  refine q_getI 2 54 f_X11_78 dX11_count_51 rfl rfl rfl ?_
  refine q_ireturn dX11_count_54 rfl ?_
  exact pR.rf
theorem c_X11_count1 {l : Launch} {g : Gh} {q sd la ru so cc b0 al : Nat} {i li ri s0 : Sc} {t0 t1 t2 t4 t5 t6 t7 t8 : Option Nat} : Cp l g yX11_count (Cond.code yX11_count cX11_count 2 (some .int)) 0 [.ref q, .int 1] [(q, ob 11 i [t0, t1, t2, some sd, t4, t5, t6, t7, t8, none, none]), (sd, ob 10 (fun _ => 0) (rD la ru so)), (la, ob 0 li (rL cc)), (ru, ob 6 ri (rQ b0 al)), (so, ob 8 s0 [])] (some (.int (ri 2))) [(q, ob 11 i [t0, t1, t2, some sd, t4, t5, t6, t7, t8, none, none]), (sd, ob 10 (fun _ => 0) (rD la ru so)), (la, ob 0 li (rL cc)), (ru, ob 6 ri (rQ b0 al)), (so, ob 8 s0 [])] := by
  refine ct_of (M := mtX11_count) [some (.ref q), some (.int 1)] rfl (by decide) (Nat.le_of_ble_eq_true rfl) (fun _ h => h) (fun a => ?_)
  refine q_iload_n 1 1 dX11_count_0 rfl rfl rfl ?_
  refine q_tableIn 55 dX11_count_1 (by decide) (by decide) rfl (by decide) ?_
  refine q_aload_n 0 56 dX11_count_55 rfl rfl rfl ?_
  refine q_getR 0 59 f_X11_30 dX11_count_56 rfl rfl rfl rfl ?_
  refine q_getR 1 62 f_X11_98 dX11_count_59 rfl rfl rfl rfl ?_
  refine q_getI 3 65 f_X11_102 dX11_count_62 rfl rfl rfl ?_
  refine q_ireturn dX11_count_65 rfl ?_
  exact pR.rf
theorem c_X11_count2 {l : Launch} {g : Gh} {q sd la ru so cc b0 al : Nat} {i li ri s0 : Sc} {t0 t1 t2 t4 t5 t6 t7 t8 : Option Nat} : Cp l g yX11_count (Cond.code yX11_count cX11_count 2 (some .int)) 0 [.ref q, .int 2] [(q, ob 11 i [t0, t1, t2, some sd, t4, t5, t6, t7, t8, none, none]), (sd, ob 10 (fun _ => 0) (rD la ru so)), (la, ob 0 li (rL cc)), (ru, ob 6 ri (rQ b0 al)), (so, ob 8 s0 [])] (some (.int (li 1))) [(q, ob 11 i [t0, t1, t2, some sd, t4, t5, t6, t7, t8, none, none]), (sd, ob 10 (fun _ => 0) (rD la ru so)), (la, ob 0 li (rL cc)), (ru, ob 6 ri (rQ b0 al)), (so, ob 8 s0 [])] := by
  refine ct_of (M := mtX11_count) [some (.ref q), some (.int 2)] rfl (by decide) (Nat.le_of_ble_eq_true rfl) (fun _ h => h) (fun a => ?_)
  refine q_iload_n 1 1 dX11_count_0 rfl rfl rfl ?_
  refine q_tableIn 66 dX11_count_1 (by decide) (by decide) rfl (by decide) ?_
  refine q_aload_n 0 67 dX11_count_66 rfl rfl rfl ?_
  refine q_getR 0 70 f_X11_30 dX11_count_67 rfl rfl rfl rfl ?_
  refine q_getR 1 73 f_X11_60 dX11_count_70 rfl rfl rfl rfl ?_
  refine q_getI 2 76 f_X11_314 dX11_count_73 rfl rfl rfl ?_
  refine q_ireturn dX11_count_76 rfl ?_
  exact pR.rf
theorem c_X11_count3 {l : Launch} {g : Gh} {q sd la ru so cc b0 al : Nat} {i li ri s0 : Sc} {t0 t1 t2 t4 t5 t6 t7 t8 : Option Nat} : Cp l g yX11_count (Cond.code yX11_count cX11_count 2 (some .int)) 0 [.ref q, .int 3] [(q, ob 11 i [t0, t1, t2, some sd, t4, t5, t6, t7, t8, none, none]), (sd, ob 10 (fun _ => 0) (rD la ru so)), (la, ob 0 li (rL cc)), (ru, ob 6 ri (rQ b0 al)), (so, ob 8 s0 [])] (some (.int (li 2))) [(q, ob 11 i [t0, t1, t2, some sd, t4, t5, t6, t7, t8, none, none]), (sd, ob 10 (fun _ => 0) (rD la ru so)), (la, ob 0 li (rL cc)), (ru, ob 6 ri (rQ b0 al)), (so, ob 8 s0 [])] := by
  refine ct_of (M := mtX11_count) [some (.ref q), some (.int 3)] rfl (by decide) (Nat.le_of_ble_eq_true rfl) (fun _ h => h) (fun a => ?_)
  refine q_iload_n 1 1 dX11_count_0 rfl rfl rfl ?_
  refine q_tableIn 77 dX11_count_1 (by decide) (by decide) rfl (by decide) ?_
  refine q_aload_n 0 78 dX11_count_77 rfl rfl rfl ?_
  refine q_getR 0 81 f_X11_30 dX11_count_78 rfl rfl rfl rfl ?_
  refine q_getR 1 84 f_X11_60 dX11_count_81 rfl rfl rfl rfl ?_
  refine q_getI 2 87 f_X11_317 dX11_count_84 rfl rfl rfl ?_
  refine q_ireturn dX11_count_87 rfl ?_
  exact pR.rf
theorem c_X11_count4 {l : Launch} {g : Gh} {q sd la ru so cc b0 al : Nat} {i li ri s0 : Sc} {t0 t1 t2 t4 t5 t6 t7 t8 : Option Nat} : Cp l g yX11_count (Cond.code yX11_count cX11_count 2 (some .int)) 0 [.ref q, .int 4] [(q, ob 11 i [t0, t1, t2, some sd, t4, t5, t6, t7, t8, none, none]), (sd, ob 10 (fun _ => 0) (rD la ru so)), (la, ob 0 li (rL cc)), (ru, ob 6 ri (rQ b0 al)), (so, ob 8 s0 [])] (some (.int (li 3))) [(q, ob 11 i [t0, t1, t2, some sd, t4, t5, t6, t7, t8, none, none]), (sd, ob 10 (fun _ => 0) (rD la ru so)), (la, ob 0 li (rL cc)), (ru, ob 6 ri (rQ b0 al)), (so, ob 8 s0 [])] := by
  refine ct_of (M := mtX11_count) [some (.ref q), some (.int 4)] rfl (by decide) (Nat.le_of_ble_eq_true rfl) (fun _ h => h) (fun a => ?_)
  refine q_iload_n 1 1 dX11_count_0 rfl rfl rfl ?_
  refine q_tableIn 88 dX11_count_1 (by decide) (by decide) rfl (by decide) ?_
  refine q_aload_n 0 89 dX11_count_88 rfl rfl rfl ?_
  refine q_getR 0 92 f_X11_30 dX11_count_89 rfl rfl rfl rfl ?_
  refine q_getR 1 95 f_X11_60 dX11_count_92 rfl rfl rfl rfl ?_
  refine q_getI 2 98 f_X11_320 dX11_count_95 rfl rfl rfl ?_
  refine q_ireturn dX11_count_98 rfl ?_
  exact pR.rf
theorem c_X11_count5 {l : Launch} {g : Gh} {q sd la ru so cc b0 al : Nat} {i li ri s0 : Sc} {t0 t1 t2 t4 t5 t6 t7 t8 : Option Nat} : Cp l g yX11_count (Cond.code yX11_count cX11_count 2 (some .int)) 0 [.ref q, .int 5] [(q, ob 11 i [t0, t1, t2, some sd, t4, t5, t6, t7, t8, none, none]), (sd, ob 10 (fun _ => 0) (rD la ru so)), (la, ob 0 li (rL cc)), (ru, ob 6 ri (rQ b0 al)), (so, ob 8 s0 [])] (some (.int (s0 9))) [(q, ob 11 i [t0, t1, t2, some sd, t4, t5, t6, t7, t8, none, none]), (sd, ob 10 (fun _ => 0) (rD la ru so)), (la, ob 0 li (rL cc)), (ru, ob 6 ri (rQ b0 al)), (so, ob 8 s0 [])] := by
  refine ct_of (M := mtX11_count) [some (.ref q), some (.int 5)] rfl (by decide) (Nat.le_of_ble_eq_true rfl) (fun _ h => h) (fun a => ?_)
  refine q_iload_n 1 1 dX11_count_0 rfl rfl rfl ?_
  refine q_tableIn 99 dX11_count_1 (by decide) (by decide) rfl (by decide) ?_
  refine q_aload_n 0 100 dX11_count_99 rfl rfl rfl ?_
  refine q_getR 0 103 f_X11_30 dX11_count_100 rfl rfl rfl rfl ?_
  refine q_getR 1 106 f_X11_138 dX11_count_103 rfl rfl rfl rfl ?_
  refine q_getI 4 109 f_X11_161 dX11_count_106 rfl rfl rfl ?_
  refine q_ireturn dX11_count_109 rfl ?_
  exact pR.rf
theorem c_X11_count6 {l : Launch} {g : Gh} {q sd la ru so cc b0 al : Nat} {i li ri s0 : Sc} {t0 t1 t2 t4 t5 t6 t7 t8 : Option Nat} : Cp l g yX11_count (Cond.code yX11_count cX11_count 2 (some .int)) 0 [.ref q, .int 6] [(q, ob 11 i [t0, t1, t2, some sd, t4, t5, t6, t7, t8, none, none]), (sd, ob 10 (fun _ => 0) (rD la ru so)), (la, ob 0 li (rL cc)), (ru, ob 6 ri (rQ b0 al)), (so, ob 8 s0 [])] (some (.int (s0 10))) [(q, ob 11 i [t0, t1, t2, some sd, t4, t5, t6, t7, t8, none, none]), (sd, ob 10 (fun _ => 0) (rD la ru so)), (la, ob 0 li (rL cc)), (ru, ob 6 ri (rQ b0 al)), (so, ob 8 s0 [])] := by
  refine ct_of (M := mtX11_count) [some (.ref q), some (.int 6)] rfl (by decide) (Nat.le_of_ble_eq_true rfl) (fun _ h => h) (fun a => ?_)
  refine q_iload_n 1 1 dX11_count_0 rfl rfl rfl ?_
  refine q_tableIn 110 dX11_count_1 (by decide) (by decide) rfl (by decide) ?_
  refine q_aload_n 0 111 dX11_count_110 rfl rfl rfl ?_
  refine q_getR 0 114 f_X11_30 dX11_count_111 rfl rfl rfl rfl ?_
  refine q_getR 1 117 f_X11_138 dX11_count_114 rfl rfl rfl rfl ?_
  refine q_getI 4 120 f_X11_164 dX11_count_117 rfl rfl rfl ?_
  refine q_ireturn dX11_count_120 rfl ?_
  exact pR.rf
theorem c_X11_countD {l : Launch} {g : Gh} {q sd la ru so cc b0 al : Nat} {i li ri s0 : Sc} {t0 t1 t2 t4 t5 t6 t7 t8 : Option Nat} {x : Int32} (h : x.toInt < 0 ∨ 6 < x.toInt) : Cp l g yX11_count (Cond.code yX11_count cX11_count 2 (some .int)) 0 [.ref q, .int x] [(q, ob 11 i [t0, t1, t2, some sd, t4, t5, t6, t7, t8, none, none]), (sd, ob 10 (fun _ => 0) (rD la ru so)), (la, ob 0 li (rL cc)), (ru, ob 6 ri (rQ b0 al)), (so, ob 8 s0 [])] (some (.int (-1))) [(q, ob 11 i [t0, t1, t2, some sd, t4, t5, t6, t7, t8, none, none]), (sd, ob 10 (fun _ => 0) (rD la ru so)), (la, ob 0 li (rL cc)), (ru, ob 6 ri (rQ b0 al)), (so, ob 8 s0 [])] := by
  refine ct_of (M := mtX11_count) [some (.ref q), some (.int x)] rfl (by decide) (Nat.le_of_ble_eq_true rfl) (fun _ h => h) (fun a => ?_)
  refine q_iload_n 1 1 dX11_count_0 rfl rfl rfl ?_
  refine q_tableOut 121 dX11_count_1 h (by decide) ?_
  refine q_iconst (-1) 122 dX11_count_121 ic_m1 rfl ?_
  refine q_ireturn dX11_count_122 rfl ?_
  exact pR.rf

