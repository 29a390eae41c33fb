/-! ===== ChaseCourt: log, play ===== -/
/-- a log's score behind k rallies -/
def lgS (li Tc s : Sc) : Nat → Sc
  | 0 => s
  | k + 1 => sStrike (lgS li Tc s k) li (hoW (Tc (2 * k))) (Tc (2 * k + 1) - 48)
theorem w_log {l : Launch} {g : Gh} {q tp tq sd la ru so e : Nat} {i tr s li Tc : Sc} {R : List (Option Nat)} {t1 t2 t5 t6 t7 t8 : Option Nat} {rc rs d w9 : Nat} {w0 : Int32} {post : Pst} {px : Pxc} {a : Act} (hd : 7 ≤ d) (he : i 9 = nI e) (he4 : e ≤ 400) (hl : lgOK Tc e) (h6 : s 6 = 0 ∨ s 6 = 1) (N : Nat) (hN : 2 * N ≤ e) (hgo : ∀ k, k < N → sOver (lgS li Tc s k) li = 0) (K : WPs l g mtX11_log d rc rs post px a 26 [some (.ref q), some (.int w0), some (.int (nI e)), some (.int (nI (2 * N)))] [] [(q, ob 11 (upd i 9 0) [some tp, t1, t2, some sd, some tq, t5, t6, t7, t8, none, none]), (tp, aB g 400 Tc), (tq, ob 8 (lgS li Tc s N) []), (sd, ob 10 (fun _ => 0) (rD la ru so)), (la, ob 0 li R), (so, ob 8 s [])] 0 0) : WPs l g mtX11_log d rc rs post px a 0 [some (.ref q), some (.int w0), none, none] [] [(q, ob 11 i [some tp, t1, t2, some sd, some tq, t5, t6, t7, t8, none, none]), (tp, aB g 400 Tc), (tq, ob 8 tr []), (sd, ob 10 (fun _ => 0) (rD la ru so)), (la, ob 0 li R), (so, ob 8 s [])] 0 0 := by
  have he60 := hl.2.1
  have he2 := hl.1
  have K26 : ∀ (c k : Nat), c + k = N → WPs l g mtX11_log d rc rs post px a 26 [some (.ref q), some (.int w0), some (.int (nI e)), some (.int (nI (2 * k)))] [] [(q, ob 11 (upd i 9 0) [some tp, t1, t2, some sd, some tq, t5, t6, t7, t8, none, none]), (tp, aB g 400 Tc), (tq, ob 8 (lgS li Tc s k) []), (sd, ob 10 (fun _ => 0) (rD la ru so)), (la, ob 0 li R), (so, ob 8 s [])] 0 0 := by
    intro c
    induction c with
    | zero =>
      intro k hk
      obtain rfl : k = N := by omega
      exact K
    | succ c ih =>
      intro k hk
      have k2 := ih (k + 1) (by omega)
      clear ih K
      rw [show lgS li Tc s (k + 1) = sStrike (lgS li Tc s k) li (hoW (Tc (2 * k))) (Tc (2 * k + 1) - 48) from rfl] at k2
      have ho := hgo k (by omega)
      have e1 : nI (2 * k) + 1 = nI (2 * k + 1) := by rw [nI_1]
      have e2 : nI (2 * k) + Int32.ofInt 2 = nI (2 * (k + 1)) := by rw [inc2]; congr 1
      have hlt : ¬ nI e ≤ nI (2 * k) + 1 := by rw [nI_1]; exact nI_ge (by omega) (by omega)
      generalize lgS li Tc s k = sk at *
      generalize ek2 : 2 * (k + 1) = kn at *
      generalize ekk : 2 * k = kk at *
      generalize ekq : kk + 1 = kq at *
      refine q_iload_n 3 27 dX11_log_26 rfl rfl rfl ?_
      refine q_iconst 1 28 dX11_log_27 ic_1 rfl ?_
      refine q_iadd 29 dX11_log_28 rfl ?_
      refine q_iload_n 2 30 dX11_log_29 rfl rfl rfl ?_
      refine q_icmp_ge 82 33 dX11_log_30 (by decide) rfl (fun h30 => absurd h30 hlt) (fun h30 => ?_)
      refine q_aload_n 0 34 dX11_log_33 rfl rfl rfl ?_
      refine q_aload_n 0 35 dX11_log_34 rfl rfl rfl ?_
      refine q_getR 0 38 f_X11_37 dX11_log_35 rfl rfl rfl rfl ?_
      refine q_cVv 0 [0, 3, 4, 2] [1, 5] [2, 0, 5, 3, 4, 1] 41 (wr := [_, _]) (w1 := _) (ws' := [_, _, _, _, _, _]) (c_X11_needGoingOn ho) m_X11_176 dX11_log_38 rfl rfl rfl rfl rfl rfl rfl rfl (by decide) (by decide) (by decide) (by decide) (Nat.le_of_ble_eq_true rfl) (by omega) (by omega) (by omega) rfl ?_
      refine q_aload_n 0 42 dX11_log_41 rfl rfl rfl ?_
      refine q_getR 0 45 f_X11_37 dX11_log_42 rfl rfl rfl rfl ?_
      refine q_aload_n 0 46 dX11_log_45 rfl rfl rfl ?_
      refine q_getR 0 49 f_X11_9 dX11_log_46 rfl rfl rfl rfl ?_
      refine q_iload_n 3 50 dX11_log_49 rfl rfl rfl ?_
      refine q_bald 1 kk 51 dX11_log_50 rfl ⟨rfl, by omega, by decide⟩ rfl ?_
      refine q_cSi [] [0, 1, 2, 3, 4, 5] [0, 1, 2, 3, 4, 5] 54 (wr := [_, _, _, _, _, _]) (w1 := _) (ws' := [_, _, _, _, _, _]) c_X11_howOf m_X11_269 dX11_log_51 rfl rfl rfl rfl rfl (by decide) (by decide) (by decide) (by decide) (Nat.le_of_ble_eq_true rfl) (by omega) (by omega) (by omega) rfl ?_
      refine q_aload_n 0 55 dX11_log_54 rfl rfl rfl ?_
      refine q_getR 0 58 f_X11_9 dX11_log_55 rfl rfl rfl rfl ?_
      refine q_iload_n 3 59 dX11_log_58 rfl rfl rfl ?_
      refine q_iconst 1 60 dX11_log_59 ic_1 rfl ?_
      refine q_iadd 61 dX11_log_60 rfl ?_
      refine q_bald 1 kq 62 dX11_log_61 rfl ⟨e1, by omega, by decide⟩ rfl ?_
      refine q_bipush 48 64 dX11_log_62 bc_48 rfl ?_
      refine q_isub 65 dX11_log_64 rfl ?_
      refine q_aload_n 0 66 dX11_log_65 rfl rfl rfl ?_
      refine q_getR 0 69 f_X11_30 dX11_log_66 rfl rfl rfl rfl ?_
      refine q_getR 3 72 f_X11_60 dX11_log_69 rfl rfl rfl rfl ?_
      refine q_cVi 2 [2, 4] [0, 1, 3, 5] [0, 1, 4, 2, 5, 3] 75 (wr := [_, _, _, _]) (w1 := _) (ws' := [_, _, _, _, _, _]) c_X8_strike m_X11_180 dX11_log_72 rfl rfl rfl rfl rfl rfl rfl rfl (by decide) (by decide) (by decide) (by decide) (Nat.le_of_ble_eq_true rfl) (by omega) (by omega) (by omega) rfl ?_
      refine q_pop 76 dX11_log_75 rfl rfl ?_
      refine q_iinc 3 _ 79 (L' := [_, _, _, _]) dX11_log_76 rfl rfl (by decide) rfl rfl ?_
      refine q_goto 26 dX11_log_79 (by decide) ?_
      rw [e2]; exact k2
  have k2 := K26 N 0 (by omega)
  clear K26 K
  rw [show lgS li Tc s 0 = s from rfl, show 2 * 0 = 0 from rfl, show nI 0 = (0 : Int32) from by decide] at k2
  refine q_aload_n 0 1 dX11_log_0 rfl rfl rfl ?_
  refine q_cVi 0 [0] [1, 2, 3, 4, 5] [5, 0, 1, 2, 3, 4] 4 (wr := [_, _, _, _, _]) (w1 := _) (ws' := [_, _, _, _, _, _]) c_X11_useUp m_X11_52 dX11_log_1 rfl rfl rfl rfl rfl rfl rfl rfl (by decide) (by decide) (by decide) (by decide) (Nat.le_of_ble_eq_true rfl) (by omega) (by omega) (by omega) rfl ?_
  rw [he]
  refine q_istore_n 2 5 (L' := [_, _, _, _]) dX11_log_4 rfl (by decide) rfl rfl ?_
  refine q_aload_n 0 6 dX11_log_5 rfl rfl rfl ?_
  refine q_iload_n 2 7 dX11_log_6 rfl rfl rfl ?_
  refine q_cVv 0 [0, 1] [2, 3, 4, 5] [4, 5, 0, 1, 2, 3] 10 (wr := [_, _, _, _]) (w1 := _) (ws' := [_, _, _, _, _, _]) (c_X11_needLog he4 hl) m_X11_266 dX11_log_7 rfl rfl rfl rfl rfl rfl rfl rfl (by decide) (by decide) (by decide) (by decide) (Nat.le_of_ble_eq_true rfl) (by omega) (by omega) (by omega) rfl ?_
  refine q_aload_n 0 11 dX11_log_10 rfl rfl rfl ?_
  refine q_getR 0 14 f_X11_37 dX11_log_11 rfl rfl rfl rfl ?_
  refine q_aload_n 0 15 dX11_log_14 rfl rfl rfl ?_
  refine q_getR 0 18 f_X11_30 dX11_log_15 rfl rfl rfl rfl ?_
  refine q_getR 3 21 f_X11_138 dX11_log_18 rfl rfl rfl rfl ?_
  refine q_cVv 2 [2, 5] [0, 1, 3, 4] [0, 1, 4, 2, 3, 5] 24 (wr := [_, _, _, _]) (w1 := _) (ws' := [_, _, _, _, _, _]) (c_X8_takeFrom h6) m_X11_228 dX11_log_21 rfl rfl rfl rfl rfl rfl rfl rfl (by decide) (by decide) (by decide) (by decide) (Nat.le_of_ble_eq_true rfl) (by omega) (by omega) (by omega) rfl ?_
  refine q_iconst 0 25 dX11_log_24 ic_0 rfl ?_
  refine q_istore_n 3 26 (L' := [_, _, _, _]) dX11_log_25 rfl (by decide) rfl rfl ?_
  exact k2
theorem c_X11_log {l : Launch} {g : Gh} {q tp tq sd la ru so e : Nat} {i tr s li Tc : Sc} {R : List (Option Nat)} {t1 t2 t5 t6 t7 t8 : Option Nat} {w0 : Nat} (he : i 9 = nI e) (he4 : e ≤ 400) (hl : lgOK Tc e) (h6 : s 6 = 0 ∨ s 6 = 1) (hgo : ∀ k, k < e / 2 → sOver (lgS li Tc s k) li = 0) (hw : w0 < 10) : Cp l g yX11_log (Cond.code yX11_log cX11_log 4 (some .int)) 7 [.ref q, .int (nI w0)] [(q, ob 11 i [some tp, t1, t2, some sd, some tq, t5, t6, t7, t8, none, none]), (tp, aB g 400 Tc), (tq, ob 8 tr []), (sd, ob 10 (fun _ => 0) (rD la ru so)), (la, ob 0 li R), (so, ob 8 s [])] (some (.int (sTell (lgS li Tc s (e / 2)) w0))) [(q, ob 11 (upd i 9 0) [some tp, t1, t2, some sd, some tq, t5, t6, t7, t8, none, none]), (tp, aB g 400 Tc), (tq, ob 8 (lgS li Tc s (e / 2)) []), (sd, ob 10 (fun _ => 0) (rD la ru so)), (la, ob 0 li R), (so, ob 8 s [])] := by
  refine ct_of (M := mtX11_log) [some (.ref q), some (.int (nI w0)), none, none] rfl (by decide) (Nat.le_of_ble_eq_true rfl) (fun _ h => h) (fun a => ?_)
  have g1 := nI_nn (a := w0) (by omega)
  have g2 : nI w0 < (10 : Int32) := nI_lt9 10 (by decide) hw (by decide)
  refine w_log (w9 := 0) (by omega) he he4 hl h6 (e / 2) (by omega) hgo ?_
  have hge : nI e ≤ nI (2 * (e / 2)) + 1 := by rw [nI_1]; exact nI_le (by omega) (by omega)
  generalize lgS li Tc s (e / 2) = v at *
  generalize 2 * (e / 2) = kk at *
  refine q_iload_n 3 27 dX11_log_26 rfl rfl rfl ?_
  refine q_iconst 1 28 dX11_log_27 ic_1 rfl ?_
  refine q_iadd 29 dX11_log_28 rfl ?_
  refine q_iload_n 2 30 dX11_log_29 rfl rfl rfl ?_
  refine q_icmp_ge 82 33 dX11_log_30 (by decide) rfl (fun h30 => ?_) (fun h30 => absurd hge h30)
  refine q_iload_n 1 83 dX11_log_82 rfl rfl rfl ?_
  refine q_bipush 10 85 dX11_log_83 bc_10 rfl ?_
  refine q_cSv [] [0, 1, 2, 3, 4, 5] [0, 1, 2, 3, 4, 5] 88 (wr := [_, _, _, _, _, _]) (w1 := _) (ws' := [_, _, _, _, _, _]) (c_X11_needWhat g1 g2) m_X11_122 dX11_log_85 rfl rfl rfl rfl rfl (by decide) (by decide) (by decide) (by decide) (Nat.le_of_ble_eq_true rfl) (by omega) (by omega) (by omega) rfl ?_
  refine q_aload_n 0 89 dX11_log_88 rfl rfl rfl ?_
  refine q_getR 0 92 f_X11_37 dX11_log_89 rfl rfl rfl rfl ?_
  refine q_iload_n 1 93 dX11_log_92 rfl rfl rfl ?_
  refine q_cVi 2 [2] [0, 1, 3, 4, 5] [0, 1, 5, 2, 3, 4] 96 (wr := [_, _, _, _, _]) (w1 := _) (ws' := [_, _, _, _, _, _]) (c_X8_tell rfl hw) m_X11_167 dX11_log_93 rfl rfl rfl rfl rfl rfl rfl rfl (by decide) (by decide) (by decide) (by decide) (Nat.le_of_ble_eq_true rfl) (by omega) (by omega) (by omega) rfl ?_
  refine q_ireturn dX11_log_96 rfl ?_
  exact pR.rf
theorem x_X11_log1 {l : Launch} {g : Gh} {q tp tq sd la ru so e : Nat} {i tr s li Tc : Sc} {R : List (Option Nat)} {t1 t2 t5 t6 t7 t8 : Option Nat} {x : Int32} {t3 t4 : Option Nat} (he : i 9 = nI e) (he4 : e ≤ 400) (hl : ¬ lgOK Tc e) : Cx l g yX11_log (Cond.code yX11_log cX11_log 4 (some .int)) 7 [.ref q, .int x] [(q, ob 11 i [some tp, t1, t2, t3, t4, t5, t6, t7, t8, none, none]), (tp, aB g 400 Tc)] "java/lang/IllegalArgumentException" [(q, ob 11 (upd i 9 0) [some tp, t1, t2, t3, t4, t5, t6, t7, t8, none, none]), (tp, aB g 400 Tc)] := by
  refine ct_of (M := mtX11_log) [some (.ref q), some (.int x), none, none] rfl (by decide) (Nat.le_of_ble_eq_true rfl) (fun _ h => h) (fun a => ?_)
  refine q_aload_n 0 1 dX11_log_0 rfl rfl rfl ?_
  refine q_cVi 0 [0] [1] [1, 0] 4 (wr := [_]) (w1 := _) (ws' := [_, _]) c_X11_useUp m_X11_52 dX11_log_1 rfl rfl rfl rfl rfl rfl rfl rfl (by decide) (by decide) (by decide) (by decide) (Nat.le_of_ble_eq_true rfl) (by omega) (by omega) (by omega) rfl ?_
  rw [he]
  refine q_istore_n 2 5 (L' := [_, _, _, _]) dX11_log_4 rfl (by decide) rfl rfl ?_
  refine q_aload_n 0 6 dX11_log_5 rfl rfl rfl ?_
  refine q_iload_n 2 7 dX11_log_6 rfl rfl rfl ?_
  refine q_xV 0 [0, 1] [] (wr := []) (w1 := _) (x_X11_needLog he4 hl) m_X11_266 dX11_log_7 rfl rfl rfl rfl rfl rfl rfl (by decide) (by decide) (by decide) (Nat.le_of_ble_eq_true rfl) (by omega) (by omega) (by omega) rfl ?_
  exact pT.rf
theorem x_X11_log2 {l : Launch} {g : Gh} {q tp tq sd la ru so e : Nat} {i tr s li Tc : Sc} {R : List (Option Nat)} {t1 t2 t5 t6 t7 t8 : Option Nat} {x : Int32} (he : i 9 = nI e) (he4 : e ≤ 400) (hl : lgOK Tc e) (h6 : s 6 = 0 ∨ s 6 = 1) (N : Nat) (hN : N < e / 2) (hgo : ∀ k, k < N → sOver (lgS li Tc s k) li = 0) (ho : ¬ sOver (lgS li Tc s N) li = 0) : Cx l g yX11_log (Cond.code yX11_log cX11_log 4 (some .int)) 7 [.ref q, .int x] [(q, ob 11 i [some tp, t1, t2, some sd, some tq, t5, t6, t7, t8, none, none]), (tp, aB g 400 Tc), (tq, ob 8 tr []), (sd, ob 10 (fun _ => 0) (rD la ru so)), (la, ob 0 li R), (so, ob 8 s [])] "java/lang/IllegalStateException" [(tp, aB g 400 Tc), (so, ob 8 s []), (q, ob 11 (upd i 9 0) [some tp, t1, t2, some sd, some tq, t5, t6, t7, t8, none, none]), (sd, ob 10 (fun _ => 0) (rD la ru so)), (la, ob 0 li R), (tq, ob 8 (lgS li Tc s N) [])] := by
  refine ct_of (M := mtX11_log) [some (.ref q), some (.int x), none, none] rfl (by decide) (Nat.le_of_ble_eq_true rfl) (fun _ h => h) (fun a => ?_)
  refine w_log (w9 := 0) (by omega) he he4 hl h6 N (by omega) hgo ?_
  have hlt : ¬ nI e ≤ nI (2 * N) + 1 := by rw [nI_1]; exact nI_ge (by omega) (by omega)
  generalize lgS li Tc s N = v at *
  generalize 2 * N = kk at *
  refine q_iload_n 3 27 dX11_log_26 rfl rfl rfl ?_
  refine q_iconst 1 28 dX11_log_27 ic_1 rfl ?_
  refine q_iadd 29 dX11_log_28 rfl ?_
  refine q_iload_n 2 30 dX11_log_29 rfl rfl rfl ?_
  refine q_icmp_ge 82 33 dX11_log_30 (by decide) rfl (fun h30 => absurd h30 hlt) (fun h30 => ?_)
  refine q_aload_n 0 34 dX11_log_33 rfl rfl rfl ?_
  refine q_aload_n 0 35 dX11_log_34 rfl rfl rfl ?_
  refine q_getR 0 38 f_X11_37 dX11_log_35 rfl rfl rfl rfl ?_
  refine q_xV 0 [0, 3, 4, 2] [1, 5] (wr := [_, _]) (w1 := _) (x_X11_needGoingOn ho) m_X11_176 dX11_log_38 rfl rfl rfl rfl rfl rfl rfl (by decide) (by decide) (by decide) (Nat.le_of_ble_eq_true rfl) (by omega) (by omega) (by omega) rfl ?_
  exact pT.rf
theorem x_X11_log3 {l : Launch} {g : Gh} {q tp tq sd la ru so e : Nat} {i tr s li Tc : Sc} {R : List (Option Nat)} {t1 t2 t5 t6 t7 t8 : Option Nat} {x : Int32} (he : i 9 = nI e) (he4 : e ≤ 400) (hl : lgOK Tc e) (h6 : s 6 = 0 ∨ s 6 = 1) (hgo : ∀ k, k < e / 2 → sOver (lgS li Tc s k) li = 0) (hw : x < 0 ∨ ¬ x < 10) : Cx l g yX11_log (Cond.code yX11_log cX11_log 4 (some .int)) 7 [.ref q, .int x] [(q, ob 11 i [some tp, t1, t2, some sd, some tq, t5, t6, t7, t8, none, none]), (tp, aB g 400 Tc), (tq, ob 8 tr []), (sd, ob 10 (fun _ => 0) (rD la ru so)), (la, ob 0 li R), (so, ob 8 s [])] "java/util/NoSuchElementException" [(q, ob 11 (upd i 9 0) [some tp, t1, t2, some sd, some tq, t5, t6, t7, t8, none, none]), (tp, aB g 400 Tc), (tq, ob 8 (lgS li Tc s (e / 2)) []), (sd, ob 10 (fun _ => 0) (rD la ru so)), (la, ob 0 li R), (so, ob 8 s [])] := by
  refine ct_of (M := mtX11_log) [some (.ref q), some (.int x), none, none] rfl (by decide) (Nat.le_of_ble_eq_true rfl) (fun _ h => h) (fun a => ?_)
  refine w_log (w9 := 0) (by omega) he he4 hl h6 (e / 2) (by omega) hgo ?_
  have hge : nI e ≤ nI (2 * (e / 2)) + 1 := by rw [nI_1]; exact nI_le (by omega) (by omega)
  generalize lgS li Tc s (e / 2) = v at *
  generalize 2 * (e / 2) = kk at *
  refine q_iload_n 3 27 dX11_log_26 rfl rfl rfl ?_
  refine q_iconst 1 28 dX11_log_27 ic_1 rfl ?_
  refine q_iadd 29 dX11_log_28 rfl ?_
  refine q_iload_n 2 30 dX11_log_29 rfl rfl rfl ?_
  refine q_icmp_ge 82 33 dX11_log_30 (by decide) rfl (fun h30 => ?_) (fun h30 => absurd hge h30)
  refine q_iload_n 1 83 dX11_log_82 rfl rfl rfl ?_
  refine q_bipush 10 85 dX11_log_83 bc_10 rfl ?_
  refine q_xS [] [0, 1, 2, 3, 4, 5] (wr := [_, _, _, _, _, _]) (w1 := _) (x_X11_needWhat hw) m_X11_122 dX11_log_85 rfl rfl rfl rfl (by decide) (by decide) (by decide) (Nat.le_of_ble_eq_true rfl) (by omega) (by omega) (by omega) rfl ?_
  exact pT.rf
def drN (d : Int32) : Int32 := d * 1103515245 + 12345
def drO (d : Int32) : Int32 := (d >>> ((16 : Int32) &&& 31) &&& 32767) - (d >>> ((16 : Int32) &&& 31) &&& 32767) / 100 * 100
/-- the score and the draw behind k rallies that were played -/
def pyS (li cf yf : Sc) (Rl : Nat → RLs) (s : Sc) (d : Int32) : Nat → Sc × Int32
  | 0 => (s, d)
  | k + 1 => (sStrike (pyS li cf yf Rl s d k).1 li (iMin (nI (dwO cf (12 * (paV yf Rl (pyS li cf yf Rl s d k).1).toNatClampNeg) (drO (drN (pyS li cf yf Rl s d k).2)) 11 0)) 2) (nI (dwO cf (12 * (paV yf Rl (pyS li cf yf Rl s d k).1).toNatClampNeg) (drO (drN (pyS li cf yf Rl s d k).2)) 11 0) - 2), drN (pyS li cf yf Rl s d k).2)
theorem c_X11_play {l : Launch} {g : Gh} {q tq sd la ru so cc b0 al num : Nat} {i tr s li cf ri yf : Sc} {af : Nat → Option Nat} {PL : List RuR} {Rl : Nat → RLs} {t0 t1 t2 t5 t6 t7 t8 : Option Nat} {n w0 N : Nat} {sd0 : Int32} (hn : n ≤ 200) (hw : w0 < 11) (h6 : s 6 = 0 ∨ s 6 = 1) (hri : ri 2 = nI num) (hRs : ∀ Q, SaP PL Q → RsO num yf af Q Rl) (hSt : ∀ P1 P2 P3, SaP P1 P2 → SaP P2 P3 → SaP P1 P3) (hS0 : SaP PL PL) (hN : N ≤ n) (hgo : ∀ k, k < N → sOver (pyS li cf yf Rl s sd0 k).1 li = 0) (hend : N = n ∨ ¬ sOver (pyS li cf yf Rl s sd0 N).1 li = 0) (hst : ∀ k, k < N → ((pyS li cf yf Rl s sd0 k).1 2 = 0 ∨ (pyS li cf yf Rl s sd0 k).1 2 = 1) ∧ ∃ p, p < 16 ∧ paV yf Rl (pyS li cf yf Rl s sd0 k).1 = nI p) : Ce l g yX11_play (Cond.code yX11_play cX11_play 7 (some .int)) 7 [.ref q, .int sd0, .int (nI n), .int (nI w0)] ([(q, ob 11 i [t0, t1, t2, some sd, some tq, t5, t6, t7, t8, none, none]), (tq, ob 8 tr []), (sd, ob 10 (fun _ => 0) (rD la ru so)), (la, ob 0 li (rL cc)), (cc, aI g 192 cf), (ru, ob 6 ri (rQ b0 al)), (b0, aI g 2 yf), (al, aR g 6 af), (so, ob 8 s [])] ++ plW g PL) (fun _ : List RuR => some (.int (if w0 = 10 then nI N else sTell (pyS li cf yf Rl s sd0 N).1 w0))) (fun Q : List RuR => ([(q, ob 11 i [t0, t1, t2, some sd, some tq, t5, t6, t7, t8, none, none]), (tq, ob 8 (pyS li cf yf Rl s sd0 N).1 []), (sd, ob 10 (fun _ => 0) (rD la ru so)), (la, ob 0 li (rL cc)), (cc, aI g 192 cf), (ru, ob 6 ri (rQ b0 al)), (b0, aI g 2 yf), (al, aR g 6 af), (so, ob 8 s [])] ++ plW g Q)) (fun Q => SaP PL Q) := by
  refine ct_of (M := mtX11_play) [some (.ref q), some (.int sd0), some (.int (nI n)), some (.int (nI w0)), none, none, none] rfl (by decide) (Nat.le_of_ble_eq_true rfl) (fun _ h => h) (fun a => ?_)
  have g1 := nI_nn (a := w0) (by omega)
  have g2 : nI w0 < (11 : Int32) := nI_lt9 11 (by decide) hw (by decide)
  have g3 := nI_nn (a := n) (by omega)
  have g4 : nI n ≤ (200 : Int32) := by rw [show (200 : Int32) = nI 200 by decide]; exact nI_le hn (by decide)
  have K149 : ∀ (v : Sc) (Q : List RuR) (L5 L6 : Option Value), SaP PL Q → WPs l g mtX11_play 7 0 0 (pE (fun _ : List RuR => some (.int (if w0 = 10 then nI N else sTell v w0))) (fun Q : List RuR => ([(q, ob 11 i [t0, t1, t2, some sd, some tq, t5, t6, t7, t8, none, none]), (tq, ob 8 v []), (sd, ob 10 (fun _ => 0) (rD la ru so)), (la, ob 0 li (rL cc)), (cc, aI g 192 cf), (ru, ob 6 ri (rQ b0 al)), (b0, aI g 2 yf), (al, aR g 6 af), (so, ob 8 s [])] ++ plW g Q)) (fun Q => SaP PL Q)) noX a 149 [some (.ref q), some (.int sd0), some (.int (nI n)), some (.int (nI w0)), some (.int (nI N)), L5, L6] [] ([(q, ob 11 i [t0, t1, t2, some sd, some tq, t5, t6, t7, t8, none, none]), (tq, ob 8 v []), (sd, ob 10 (fun _ => 0) (rD la ru so)), (la, ob 0 li (rL cc)), (cc, aI g 192 cf), (ru, ob 6 ri (rQ b0 al)), (b0, aI g 2 yf), (al, aR g 6 af), (so, ob 8 s [])] ++ plW g Q) 0 0 := by
    intro v Q L5 L6 hQ
    by_cases h10 : w0 = 10
    · have g5 : nI w0 = 10 := by rw [h10]; decide
      rw [if_pos h10]
      refine q_iload_n 3 150 dX11_play_149 rfl rfl rfl ?_
      refine q_bipush 10 152 dX11_play_150 bc_10 rfl ?_
      refine q_icmp_ne 160 155 dX11_play_152 (by decide) rfl (fun h152 => absurd g5 h152) (fun h152 => ?_)
      refine q_iload 4 157 dX11_play_155 rfl rfl ?_
      refine q_goto 168 dX11_play_157 (by decide) ?_
      refine q_ireturn dX11_play_168 rfl ?_
      exact pE.mk Q hQ rfl rfl
    · have g5 : ¬ nI w0 = 10 := fun h => h10 (nI_eqI (by omega) (by decide) (h.trans (by decide : (10 : Int32) = nI 10)))
      rw [if_neg h10]
      refine q_iload_n 3 150 dX11_play_149 rfl rfl rfl ?_
      refine q_bipush 10 152 dX11_play_150 bc_10 rfl ?_
      refine q_icmp_ne 160 155 dX11_play_152 (by decide) rfl (fun h152 => ?_) (fun h152 => absurd h152 g5)
      refine q_aload_n 0 161 dX11_play_160 rfl rfl rfl ?_
      refine q_getR 0 164 f_X11_37 dX11_play_161 rfl rfl rfl rfl ?_
      refine q_iload_n 3 165 dX11_play_164 rfl rfl rfl ?_
      refine q_tcVi 1 [1] [0, 2, 3, 4, 5, 6, 7, 8] [0, 8, 1, 2, 3, 4, 5, 6, 7] 168 (wr := [_, _, _, _, _, _, _, _]) (w1 := _) (ws' := [_, _, _, _, _, _, _, _, _]) (c_X8_tell rfl (by omega)) m_X11_167 dX11_play_165 rfl rfl rfl rfl rfl rfl rfl rfl (by decide) (by decide) (by decide) (by decide) (Nat.le_of_ble_eq_true rfl) (by omega) (by omega) (by omega) rfl ?_
      refine q_ireturn dX11_play_168 rfl ?_
      exact pE.mk Q hQ rfl rfl
  have K48 : ∀ (c k : Nat) (Q : List RuR) (L6 : Option Value), c + k = N → SaP PL Q → WPs l g mtX11_play 7 0 0 (pE (fun _ : List RuR => some (.int (if w0 = 10 then nI N else sTell (pyS li cf yf Rl s sd0 N).1 w0))) (fun Q : List RuR => ([(q, ob 11 i [t0, t1, t2, some sd, some tq, t5, t6, t7, t8, none, none]), (tq, ob 8 (pyS li cf yf Rl s sd0 N).1 []), (sd, ob 10 (fun _ => 0) (rD la ru so)), (la, ob 0 li (rL cc)), (cc, aI g 192 cf), (ru, ob 6 ri (rQ b0 al)), (b0, aI g 2 yf), (al, aR g 6 af), (so, ob 8 s [])] ++ plW g Q)) (fun Q => SaP PL Q)) noX a 48 [some (.ref q), some (.int sd0), some (.int (nI n)), some (.int (nI w0)), some (.int (nI k)), some (.int (pyS li cf yf Rl s sd0 k).2), L6] [] ([(q, ob 11 i [t0, t1, t2, some sd, some tq, t5, t6, t7, t8, none, none]), (tq, ob 8 (pyS li cf yf Rl s sd0 k).1 []), (sd, ob 10 (fun _ => 0) (rD la ru so)), (la, ob 0 li (rL cc)), (cc, aI g 192 cf), (ru, ob 6 ri (rQ b0 al)), (b0, aI g 2 yf), (al, aR g 6 af), (so, ob 8 s [])] ++ plW g Q) 0 0 := by
    intro c
    induction c with
    | zero =>
      intro k Q L6 hk hQ
      obtain rfl : k = N := by omega
      have k2 := fun L5 => K149 (pyS li cf yf Rl s sd0 k).1 Q L5 L6 hQ
      clear K149
      generalize pyS li cf yf Rl s sd0 k = v at *
      obtain ⟨v, dv⟩ := v
      dsimp only at *
      by_cases hkn : k = n
      · have hge : nI n ≤ nI k := by rw [hkn]; exact Int32.le_refl _
        refine q_iload 4 50 dX11_play_48 rfl rfl ?_
        refine q_iload_n 2 51 dX11_play_50 rfl rfl rfl ?_
        refine q_icmp_ge 149 54 dX11_play_51 (by decide) rfl (fun h51 => ?_) (fun h51 => absurd hge h51)
        exact k2 _
      · have ho := hend.resolve_left hkn
        have hlt : ¬ nI n ≤ nI k := nI_ge (by omega) (by omega)
        refine q_iload 4 50 dX11_play_48 rfl rfl ?_
        refine q_iload_n 2 51 dX11_play_50 rfl rfl rfl ?_
        refine q_icmp_ge 149 54 dX11_play_51 (by decide) rfl (fun h51 => absurd h51 hlt) (fun h51 => ?_)
        refine q_aload_n 0 55 dX11_play_54 rfl rfl rfl ?_
        refine q_getR 0 58 f_X11_37 dX11_play_55 rfl rfl rfl rfl ?_
        refine q_aload_n 0 59 dX11_play_58 rfl rfl rfl ?_
        refine q_getR 0 62 f_X11_30 dX11_play_59 rfl rfl rfl rfl ?_
        refine q_getR 2 65 f_X11_60 dX11_play_62 rfl rfl rfl rfl ?_
        refine q_tcVi 1 [1, 3] [0, 2, 4, 5, 6, 7, 8] [0, 7, 1, 8, 2, 3, 4, 5, 6] 68 (wr := [_, _, _, _, _, _, _]) (w1 := _) (ws' := [_, _, _, _, _, _, _, _, _]) c_X8_isOver m_X11_298 dX11_play_65 rfl rfl rfl rfl rfl rfl rfl rfl (by decide) (by decide) (by decide) (by decide) (Nat.le_of_ble_eq_true rfl) (by omega) (by omega) (by omega) rfl ?_
        refine q_if_ne 149 71 dX11_play_68 (by decide) rfl (fun h68 => ?_) (fun h68 => absurd h68 ho)
        exact k2 _
    | succ c ih =>
      intro k Q L6 hk hQ
      have k2 := fun Q L6 => ih (k + 1) Q L6 (by omega)
      clear ih K149
      rw [pyS] at k2
      have ho := hgo k (by omega)
      obtain ⟨hs2, p, hp, hpv⟩ := hst k (by omega)
      rw [hpv, show (nI p).toNatClampNeg = p from nI_clamp (by omega)] at k2
      generalize pyS li cf yf Rl s sd0 N = vN at *
      generalize pyS li cf yf Rl s sd0 k = v at *
      obtain ⟨v, dv⟩ := v
      dsimp only at *
      have hlt : ¬ nI n ≤ nI k := nI_ge (by omega) (by omega)
      have ed : dv * 1103515245 + 12345 = drN dv := rfl
      have eo : (drN dv >>> ((16 : Int32) &&& 31) &&& 32767) - (drN dv >>> ((16 : Int32) &&& 31) &&& 32767) / 100 * 100 = drO (drN dv) := rfl
      generalize drN dv = d2 at *
      refine q_iload 4 50 dX11_play_48 rfl rfl ?_
      refine q_iload_n 2 51 dX11_play_50 rfl rfl rfl ?_
      refine q_icmp_ge 149 54 dX11_play_51 (by decide) rfl (fun h51 => absurd h51 hlt) (fun h51 => ?_)
      refine q_aload_n 0 55 dX11_play_54 rfl rfl rfl ?_
      refine q_getR 0 58 f_X11_37 dX11_play_55 rfl rfl rfl rfl ?_
      refine q_aload_n 0 59 dX11_play_58 rfl rfl rfl ?_
      refine q_getR 0 62 f_X11_30 dX11_play_59 rfl rfl rfl rfl ?_
      refine q_getR 2 65 f_X11_60 dX11_play_62 rfl rfl rfl rfl ?_
      refine q_tcVi 1 [1, 3] [0, 2, 4, 5, 6, 7, 8] [0, 7, 1, 8, 2, 3, 4, 5, 6] 68 (wr := [_, _, _, _, _, _, _]) (w1 := _) (ws' := [_, _, _, _, _, _, _, _, _]) c_X8_isOver m_X11_298 dX11_play_65 rfl rfl rfl rfl rfl rfl rfl rfl (by decide) (by decide) (by decide) (by decide) (Nat.le_of_ble_eq_true rfl) (by omega) (by omega) (by omega) rfl ?_
      refine q_if_ne 149 71 dX11_play_68 (by decide) rfl (fun h68 => absurd ho h68) (fun h68 => ?_)
      refine q_iload 5 73 dX11_play_71 rfl rfl ?_
      refine q_ldcw 1103515245 76 k_X11_302 dX11_play_73 rfl ?_
      refine q_imul 77 dX11_play_76 rfl ?_
      refine q_sipush 12345 80 dX11_play_77 sc_12345 rfl ?_
      refine q_iadd 81 dX11_play_80 rfl ?_
      rw [ed]
      refine q_istore 5 83 (L' := [_, _, _, _, _, _, _]) dX11_play_81 (by decide) rfl rfl ?_
      refine q_aload_n 0 84 dX11_play_83 rfl rfl rfl ?_
      refine q_getR 0 87 f_X11_30 dX11_play_84 rfl rfl rfl rfl ?_
      refine q_getR 2 90 f_X11_60 dX11_play_87 rfl rfl rfl rfl ?_
      refine q_aload_n 0 91 dX11_play_90 rfl rfl rfl ?_
      refine q_getR 0 94 f_X11_30 dX11_play_91 rfl rfl rfl rfl ?_
      refine q_aload_n 0 95 dX11_play_94 rfl rfl rfl ?_
      refine q_getR 0 98 f_X11_37 dX11_play_95 rfl rfl rfl rfl ?_
      refine q_uxVi 2 [2, 5, 6, 7, 1] [0, 3, 4, 8] [0, 8, 4, 1, 2, 5, 6, 7, 3] 101 (wr := [_, _, _, _]) (w1 := _) (ws' := fun _ => [_, _, _, _, _, _, _, _, _]) (c_X10_pairOf (num := num) (Rl := Rl) hri (hRs Q hQ) hs2) m_X11_303 dX11_play_98 rfl rfl rfl rfl rfl rfl rfl (fun _ => rfl) (by decide) (by decide) (by decide) (by decide) (Nat.le_of_ble_eq_true rfl) (by omega) (by omega) (by omega) rfl (fun Q98 hx98 => ?_)
      rw [hpv]
      refine q_iload 5 103 dX11_play_101 rfl rfl ?_
      refine q_bipush 16 105 dX11_play_103 bc_16 rfl ?_
      refine q_ishr 106 dX11_play_105 rfl ?_
      refine q_sipush 32767 109 dX11_play_106 sc_32767 rfl ?_
      refine q_iand 110 dX11_play_109 rfl ?_
      refine q_bipush 100 112 dX11_play_110 bc_100 rfl ?_
      refine q_irem 113 dX11_play_112 (by decide) rfl ?_
      rw [eo]
      refine q_tcVi 3 [3, 4] [0, 1, 2, 5, 6, 7, 8] [0, 1, 2, 7, 8, 3, 4, 5, 6] 116 (wr := [_, _, _, _, _, _, _]) (w1 := _) (ws' := [_, _, _, _, _, _, _, _, _]) (c_X0_drawOutcome hp) m_X11_306 dX11_play_113 rfl rfl rfl rfl rfl rfl rfl rfl (by decide) (by decide) (by decide) (by decide) (Nat.le_of_ble_eq_true rfl) (by omega) (by omega) (by omega) rfl ?_
      refine q_istore 6 118 (L' := [_, _, _, _, _, _, _]) dX11_play_116 (by decide) rfl rfl ?_
      refine q_aload_n 0 119 dX11_play_118 rfl rfl rfl ?_
      refine q_getR 0 122 f_X11_37 dX11_play_119 rfl rfl rfl rfl ?_
      refine q_iload 6 124 dX11_play_122 rfl rfl ?_
      refine q_iconst 2 125 dX11_play_124 ic_2 rfl ?_
      refine q_mmin 128 mm_X11_259 dX11_play_125 (Nat.le_of_ble_eq_true rfl) (by omega) (by omega) (by omega) rfl ?_
      refine q_iload 6 130 dX11_play_128 rfl rfl ?_
      refine q_iconst 2 131 dX11_play_130 ic_2 rfl ?_
      refine q_isub 132 dX11_play_131 rfl ?_
      refine q_aload_n 0 133 dX11_play_132 rfl rfl rfl ?_
      refine q_getR 0 136 f_X11_30 dX11_play_133 rfl rfl rfl rfl ?_
      refine q_getR 2 139 f_X11_60 dX11_play_136 rfl rfl rfl rfl ?_
      refine q_tcVi 1 [1, 3] [0, 2, 4, 5, 6, 7, 8] [0, 7, 1, 8, 2, 3, 4, 5, 6] 142 (wr := [_, _, _, _, _, _, _]) (w1 := _) (ws' := [_, _, _, _, _, _, _, _, _]) c_X8_strike m_X11_180 dX11_play_139 rfl rfl rfl rfl rfl rfl rfl rfl (by decide) (by decide) (by decide) (by decide) (Nat.le_of_ble_eq_true rfl) (by omega) (by omega) (by omega) rfl ?_
      refine q_pop 143 dX11_play_142 rfl rfl ?_
      refine q_iinc 4 (nI (k + 1)) 146 (L' := [_, _, _, _, _, _, _]) dX11_play_143 rfl (inc1 (k)) (by decide) rfl rfl ?_
      refine q_goto 48 dX11_play_146 (by decide) ?_
      exact k2 _ _ (hSt _ _ _ hQ hx98)
  have k2 := K48 N 0 PL none (by omega) hS0
  clear K48 K149
  rw [show pyS li cf yf Rl s sd0 0 = (s, sd0) from rfl] at k2
  generalize pyS li cf yf Rl s sd0 N = vN at *
  refine q_iload_n 2 1 dX11_play_0 rfl rfl rfl ?_
  refine q_if_lt 11 4 dX11_play_1 (by decide) rfl (fun h1 => absurd h1 g3) (fun h1 => ?_)
  refine q_iload_n 2 5 dX11_play_4 rfl rfl rfl ?_
  refine q_sipush 200 8 dX11_play_5 sc_200 rfl ?_
  refine q_icmp_le 22 11 dX11_play_8 (by decide) rfl (fun h8 => ?_) (fun h8 => absurd g4 h8)
  refine q_iload_n 3 23 dX11_play_22 rfl rfl rfl ?_
  refine q_bipush 11 25 dX11_play_23 bc_11 rfl ?_
  refine q_tcSv [] [0, 1, 2, 3, 4, 5, 6, 7, 8] [0, 1, 2, 3, 4, 5, 6, 7, 8] 28 (wr := [_, _, _, _, _, _, _, _, _]) (w1 := _) (ws' := [_, _, _, _, _, _, _, _, _]) (c_X11_needWhat g1 g2) m_X11_122 dX11_play_25 rfl rfl rfl rfl rfl (by decide) (by decide) (by decide) (by decide) (Nat.le_of_ble_eq_true rfl) (by omega) (by omega) (by omega) rfl ?_
  refine q_aload_n 0 29 dX11_play_28 rfl rfl rfl ?_
  refine q_getR 0 32 f_X11_37 dX11_play_29 rfl rfl rfl rfl ?_
  refine q_aload_n 0 33 dX11_play_32 rfl rfl rfl ?_
  refine q_getR 0 36 f_X11_30 dX11_play_33 rfl rfl rfl rfl ?_
  refine q_getR 2 39 f_X11_138 dX11_play_36 rfl rfl rfl rfl ?_
  refine q_tcVv 1 [1, 8] [0, 2, 3, 4, 5, 6, 7] [0, 7, 1, 2, 3, 4, 5, 6, 8] 42 (wr := [_, _, _, _, _, _, _]) (w1 := _) (ws' := [_, _, _, _, _, _, _, _, _]) (c_X8_takeFrom h6) m_X11_228 dX11_play_39 rfl rfl rfl rfl rfl rfl rfl rfl (by decide) (by decide) (by decide) (by decide) (Nat.le_of_ble_eq_true rfl) (by omega) (by omega) (by omega) rfl ?_
  refine q_iconst 0 43 dX11_play_42 ic_0 rfl ?_
  refine q_istore 4 45 (L' := [_, _, _, _, _, _, _]) dX11_play_43 (by decide) rfl rfl ?_
  refine q_iload_n 1 46 dX11_play_45 rfl rfl rfl ?_
  refine q_istore 5 48 (L' := [_, _, _, _, _, _, _]) dX11_play_46 (by decide) rfl rfl ?_
  exact k2
theorem x_X11_play1 {l : Launch} {g : Gh} {q : Nat} {x y z : Int32} (h : y < 0 ∨ ¬ y ≤ 200) : Cx l g yX11_play (Cond.code yX11_play cX11_play 7 (some .int)) 6 [.ref q, .int x, .int y, .int z] [] "java/lang/IllegalArgumentException" [] := by
  refine ct_of (M := mtX11_play) [some (.ref q), some (.int x), some (.int y), some (.int z), none, none, none] rfl (by decide) (Nat.le_of_ble_eq_true rfl) (fun _ h => h) (fun a => ?_)
  by_cases ha : y < 0
  · skip
    refine q_iload_n 2 1 dX11_play_0 rfl rfl rfl ?_
    refine q_if_lt 11 4 dX11_play_1 (by decide) rfl (fun h1 => ?_) (fun h1 => absurd ha h1)
    refine q_throwW ex_IAE sr_X11_296 rfl rfl dX11_play_11 dX11_play_14 dX11_play_15 dX11_play_18 dX11_play_21 (by omega) (by omega) (by omega) ?_
    exact pT.rf
  · have hb := h.resolve_left ha
    refine q_iload_n 2 1 dX11_play_0 rfl rfl rfl ?_
    refine q_if_lt 11 4 dX11_play_1 (by decide) rfl (fun h1 => absurd h1 ha) (fun h1 => ?_)
    refine q_iload_n 2 5 dX11_play_4 rfl rfl rfl ?_
    refine q_sipush 200 8 dX11_play_5 sc_200 rfl ?_
    refine q_icmp_le 22 11 dX11_play_8 (by decide) rfl (fun h8 => absurd h8 hb) (fun h8 => ?_)
    refine q_throwW ex_IAE sr_X11_296 rfl rfl dX11_play_11 dX11_play_14 dX11_play_15 dX11_play_18 dX11_play_21 (by omega) (by omega) (by omega) ?_
    exact pT.rf
theorem x_X11_play2 {l : Launch} {g : Gh} {q : Nat} {x y z : Int32} (ha : ¬ y < 0) (hb : y ≤ 200) (h : z < 0 ∨ ¬ z < 11) : Cx l g yX11_play (Cond.code yX11_play cX11_play 7 (some .int)) 7 [.ref q, .int x, .int y, .int z] [] "java/util/NoSuchElementException" [] := by
  refine ct_of (M := mtX11_play) [some (.ref q), some (.int x), some (.int y), some (.int z), none, none, none] rfl (by decide) (Nat.le_of_ble_eq_true rfl) (fun _ h => h) (fun a => ?_)
  refine q_iload_n 2 1 dX11_play_0 rfl rfl rfl ?_
  refine q_if_lt 11 4 dX11_play_1 (by decide) rfl (fun h1 => absurd h1 ha) (fun h1 => ?_)
  refine q_iload_n 2 5 dX11_play_4 rfl rfl rfl ?_
  refine q_sipush 200 8 dX11_play_5 sc_200 rfl ?_
  refine q_icmp_le 22 11 dX11_play_8 (by decide) rfl (fun h8 => ?_) (fun h8 => absurd hb h8)
  refine q_iload_n 3 23 dX11_play_22 rfl rfl rfl ?_
  refine q_bipush 11 25 dX11_play_23 bc_11 rfl ?_
  refine q_xS [] [] (wr := []) (w1 := _) (x_X11_needWhat h) m_X11_122 dX11_play_25 rfl rfl rfl rfl (by decide) (by decide) (by decide) (Nat.le_of_ble_eq_true rfl) (by omega) (by omega) (by omega) rfl ?_
  exact pT.rf

