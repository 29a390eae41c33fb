/-! ===== ChaseCourt: mends ===== -/
/-- behind k rallies of a log: who was fetched last, and the rows -/
def mdE (li Tc s : Sc) : Nat → Sc × ME
  | 0 => (s, [(kyM s, 0, 1)])
  | k + 1 => meG li (hoW (Tc (2 * k))) (Tc (2 * k + 1) - 48) (mdE li Tc s k).2 (mdE li Tc s k).1 (mdE li Tc s k).2.length
def mdV9 (li Tc s : Sc) (pa pb pc pd wy : Int32) (N : Nat) : Int64 := if wy = 0 then (meT pa pb pc pd (mdE li Tc s N).2 (mdE li Tc s N).1 (mdE li Tc s N).2.length).2.1.toInt64 else (meT pa pb pc pd (mdE li Tc s N).2 (mdE li Tc s N).1 (mdE li Tc s N).2.length).2.2
theorem w_mends {l : Launch} {g : Gh} {q tp mq fr be sd la ru so cc e : Nat} {i mi sf sb s li Tc : Sc} {mj : Nat → Int64} {X Y : MrS} {sdo : Option Nat} {pa pb pc pd wy : Int32} {t1 t2 t4 t5 t6 t8 : Option Nat} {rc rs d kk0 nn0 : Nat} {post : Pst} {px : Pxc} {a : Act} (hd : 9 ≤ d) (he4 : e ≤ 400) (hl : lgOK Tc e) (h6 : s 6 = 0 ∨ s 6 = 1) (hlen : ∀ k, k ≤ e / 2 → (mdE li Tc s k).2.length ≤ 4000) (hX : PlO (mrP X)) (hXN : plN (mrP X) ≤ 4096) (hY : PlO (mrP Y)) (hYN : plN (mrP Y) ≤ 4096) (hrc : kk0 + (8192 - (plN (mrP X) + plN (mrP Y))) ≤ rc) (hrs : nn0 + 14 * (8192 - (plN (mrP X) + plN (mrP Y))) ≤ rs) (K : ∀ (z : MrS × MrS × Sc × (Nat → Int64) × Sc × Sc) (k n : Nat), (PlO (mrP z.1) ∧ plN (mrP z.1) ≤ 4096 ∧ PlO (mrP z.2.1) ∧ plN (mrP z.2.1) ≤ 4096) → k + (plN (mrP X) + plN (mrP Y)) ≤ kk0 + (plN (mrP z.1) + plN (mrP z.2.1)) → n + 14 * (plN (mrP X) + plN (mrP Y)) ≤ nn0 + 14 * (plN (mrP z.1) + plN (mrP z.2.1)) → post (some (.long (mdV9 li Tc s pa pb pc pd wy (e / 2)))) [(q, ob 11 (upd i 9 0) [some tp, t1, t2, some sd, t4, t5, t6, some mq, t8, none, none]), (tp, aB g 400 Tc), (mq, obj 1 z.2.2.1 (rMd fr be z.1 z.2.1 (some sd)) z.2.2.2.1), (fr, ob 8 z.2.2.2.2.1 []), (be, ob 8 z.2.2.2.2.2 []), (mrA z.1, ob 3 (plI (mrP z.1)) (rPl (plKe (mrP z.1)) (plTa (mrP z.1)))), (plKe (mrP z.1), aI g (plN (mrP z.1)) (plKf (mrP z.1))), (plTa (mrP z.1), aI g (4 * plN (mrP z.1)) (plTb (mrP z.1))), (mrC z.1, aI g (plN (mrP z.1)) (mrF z.1)), (mrN z.1, aJ g (plN (mrP z.1)) (mrG z.1)), (mrA z.2.1, ob 3 (plI (mrP z.2.1)) (rPl (plKe (mrP z.2.1)) (plTa (mrP z.2.1)))), (plKe (mrP z.2.1), aI g (plN (mrP z.2.1)) (plKf (mrP z.2.1))), (plTa (mrP z.2.1), aI g (4 * plN (mrP z.2.1)) (plTb (mrP z.2.1))), (mrC z.2.1, aI g (plN (mrP z.2.1)) (mrF z.2.1)), (mrN z.2.1, aJ g (plN (mrP z.2.1)) (mrG z.2.1)), (sd, ob 10 (fun _ => 0) (rD la ru so)), (la, ob 0 li (rL cc)), (so, ob 8 s [])] k n) : WPs l g mtX11_mends d rc rs post px a 30 [some (.ref q), some (.int pa), some (.int pb), some (.int pc), some (.int pd), some (.int wy), some (.int (nI e)), none] [] [(q, ob 11 (upd i 9 0) [some tp, t1, t2, some sd, t4, t5, t6, some mq, t8, none, none]), (tp, aB g 400 Tc), (mq, obj 1 mi (rMd fr be X Y sdo) mj), (fr, ob 8 sf []), (be, ob 8 sb []), (mrA X, ob 3 (plI (mrP X)) (rPl (plKe (mrP X)) (plTa (mrP X)))), (plKe (mrP X), aI g (plN (mrP X)) (plKf (mrP X))), (plTa (mrP X), aI g (4 * plN (mrP X)) (plTb (mrP X))), (mrC X, aI g (plN (mrP X)) (mrF X)), (mrN X, aJ g (plN (mrP X)) (mrG X)), (mrA Y, ob 3 (plI (mrP Y)) (rPl (plKe (mrP Y)) (plTa (mrP Y)))), (plKe (mrP Y), aI g (plN (mrP Y)) (plKf (mrP Y))), (plTa (mrP Y), aI g (4 * plN (mrP Y)) (plTb (mrP Y))), (mrC Y, aI g (plN (mrP Y)) (mrF Y)), (mrN Y, aJ g (plN (mrP Y)) (mrG Y)), (sd, ob 10 (fun _ => 0) (rD la ru so)), (la, ob 0 li (rL cc)), (so, ob 8 s [])] kk0 nn0 := by
  have he60 := hl.2.1
  have he2 := hl.1
  have K88 : ∀ (X1 Y1 : MrS) (sb1 : Sc) (L7 : Option Value) (kk nn : Nat), MrO X1 (mdE li Tc s (e / 2)).2 → PlO (mrP Y1) → plN (mrP Y1) ≤ 4096 → kk + (plN (mrP X) + plN (mrP Y)) ≤ kk0 + (plN (mrP X1) + plN (mrP Y1)) → nn + 14 * (plN (mrP X) + plN (mrP Y)) ≤ nn0 + 14 * (plN (mrP X1) + plN (mrP Y1)) → WPs l g mtX11_mends d rc rs post px a 88 [some (.ref q), some (.int pa), some (.int pb), some (.int pc), some (.int pd), some (.int wy), some (.int (nI e)), L7] [] [(q, ob 11 (upd i 9 0) [some tp, t1, t2, some sd, t4, t5, t6, some mq, t8, none, none]), (tp, aB g 400 Tc), (mq, obj 1 mi (rMd fr be X1 Y1 (some sd)) mj), (fr, ob 8 (mdE li Tc s (e / 2)).1 []), (be, ob 8 sb1 []), (mrA X1, ob 3 (plI (mrP X1)) (rPl (plKe (mrP X1)) (plTa (mrP X1)))), (plKe (mrP X1), aI g (plN (mrP X1)) (plKf (mrP X1))), (plTa (mrP X1), aI g (4 * plN (mrP X1)) (plTb (mrP X1))), (mrC X1, aI g (plN (mrP X1)) (mrF X1)), (mrN X1, aJ g (plN (mrP X1)) (mrG X1)), (mrA Y1, ob 3 (plI (mrP Y1)) (rPl (plKe (mrP Y1)) (plTa (mrP Y1)))), (plKe (mrP Y1), aI g (plN (mrP Y1)) (plKf (mrP Y1))), (plTa (mrP Y1), aI g (4 * plN (mrP Y1)) (plTb (mrP Y1))), (mrC Y1, aI g (plN (mrP Y1)) (mrF Y1)), (mrN Y1, aJ g (plN (mrP Y1)) (mrG Y1)), (sd, ob 10 (fun _ => 0) (rD la ru so)), (la, ob 0 li (rL cc)), (so, ob 8 s [])] kk nn := by
    intro X1 Y1 sb1 L7 kk nn hX1 hY1 hY1N hk hn
    have hXN1 := hX1.2.1
    have hE0 := hlen (e / 2) (Nat.le_refl _)
    have k2 := fun z2 z3 z4 => K (X1, Y1, z2, z3, z4, sb1) kk nn ⟨hX1.1, hX1.2.1, hY1, hY1N⟩ hk hn
    clear K
    dsimp only at k2
    unfold mdV9 at k2
    generalize mdE li Tc s (e / 2) = me at *
    obtain ⟨sf1, E1⟩ := me
    dsimp only at *
    refine q_aload_n 0 89 dX11_mends_88 rfl rfl rfl ?_
    refine q_getR 0 92 f_X11_272 dX11_mends_89 rfl rfl rfl rfl ?_
    refine q_iload_n 1 93 dX11_mends_92 rfl rfl rfl ?_
    refine q_iload_n 2 94 dX11_mends_93 rfl rfl rfl ?_
    refine q_iload_n 3 95 dX11_mends_94 rfl rfl rfl ?_
    refine q_iload 4 97 dX11_mends_95 rfl rfl ?_
    refine q_xVv 2 [2, 3, 5, 6, 8, 9] [0, 1, 4, 7, 10, 11, 12, 13, 14, 15, 16, 17] [0, 1, 12, 13, 2, 14, 15, 3, 16, 17, 4, 5, 6, 7, 8, 9, 10, 11] 100 (wr := [_, _, _, _, _, _, _, _, _, _, _, _]) (w1 := _) (ws' := fun _ => [_, _, _, _, _, _, _, _, _, _, _, _, _, _, _, _, _, _]) (c_X1_close hX1 hE0) m_X11_286 dX11_mends_97 rfl rfl rfl rfl rfl rfl rfl (fun _ => rfl) (by decide) (by decide) (by decide) (by decide) (Nat.le_of_ble_eq_true rfl) (by omega) (by omega) (by omega) rfl (fun z97 hx97 => ?_)
    obtain ⟨i97, j97, s97⟩ := z97
    dsimp only at hx97 ⊢
    skip
    obtain ⟨z9, z10⟩ := hx97
    rw [← z9, ← z10] at k2
    by_cases hw : wy = 0
    · rw [if_pos hw] at k2
      refine q_iload 5 102 dX11_mends_100 rfl rfl ?_
      refine q_if_eq 115 105 dX11_mends_102 (by decide) rfl (fun h102 => ?_) (fun h102 => absurd hw h102)
      refine q_aload_n 0 116 dX11_mends_115 rfl rfl rfl ?_
      refine q_getR 0 119 f_X11_272 dX11_mends_116 rfl rfl rfl rfl ?_
      refine q_getI 2 122 f_X11_293 dX11_mends_119 rfl rfl rfl ?_
      refine q_i2l 123 dX11_mends_122 rfl ?_
      refine q_lreturn dX11_mends_123 rfl ?_
      exact k2 _ _ _
    · rw [if_neg hw] at k2
      refine q_iload 5 102 dX11_mends_100 rfl rfl ?_
      refine q_if_eq 115 105 dX11_mends_102 (by decide) rfl (fun h102 => absurd h102 hw) (fun h102 => ?_)
      refine q_aload_n 0 106 dX11_mends_105 rfl rfl rfl ?_
      refine q_getR 0 109 f_X11_272 dX11_mends_106 rfl rfl rfl rfl ?_
      refine q_getJ 2 112 f_X11_290 dX11_mends_109 rfl rfl rfl ?_
      refine q_goto 123 dX11_mends_112 (by decide) ?_
      refine q_lreturn dX11_mends_123 rfl ?_
      exact k2 _ _ _
  clear K
  have K44 : ∀ (c k : Nat) (X1 Y1 : MrS) (sb1 : Sc) (kk nn : Nat), c + k = e / 2 → MrO X1 (mdE li Tc s k).2 → PlO (mrP Y1) → plN (mrP Y1) ≤ 4096 → kk + (plN (mrP X) + plN (mrP Y)) ≤ kk0 + (plN (mrP X1) + plN (mrP Y1)) → nn + 14 * (plN (mrP X) + plN (mrP Y)) ≤ nn0 + 14 * (plN (mrP X1) + plN (mrP Y1)) → WPs l g mtX11_mends d rc rs post px a 44 [some (.ref q), some (.int pa), some (.int pb), some (.int pc), some (.int pd), some (.int wy), some (.int (nI e)), some (.int (nI (2 * k)))] [] [(q, ob 11 (upd i 9 0) [some tp, t1, t2, some sd, t4, t5, t6, some mq, t8, none, none]), (tp, aB g 400 Tc), (mq, obj 1 mi (rMd fr be X1 Y1 (some sd)) mj), (fr, ob 8 (mdE li Tc s k).1 []), (be, ob 8 sb1 []), (mrA X1, ob 3 (plI (mrP X1)) (rPl (plKe (mrP X1)) (plTa (mrP X1)))), (plKe (mrP X1), aI g (plN (mrP X1)) (plKf (mrP X1))), (plTa (mrP X1), aI g (4 * plN (mrP X1)) (plTb (mrP X1))), (mrC X1, aI g (plN (mrP X1)) (mrF X1)), (mrN X1, aJ g (plN (mrP X1)) (mrG X1)), (mrA Y1, ob 3 (plI (mrP Y1)) (rPl (plKe (mrP Y1)) (plTa (mrP Y1)))), (plKe (mrP Y1), aI g (plN (mrP Y1)) (plKf (mrP Y1))), (plTa (mrP Y1), aI g (4 * plN (mrP Y1)) (plTb (mrP Y1))), (mrC Y1, aI g (plN (mrP Y1)) (mrF Y1)), (mrN Y1, aJ g (plN (mrP Y1)) (mrG Y1)), (sd, ob 10 (fun _ => 0) (rD la ru so)), (la, ob 0 li (rL cc)), (so, ob 8 s [])] kk nn := by
    intro c
    induction c with
    | zero =>
      intro k X1 Y1 sb1 kk nn hk hX1 hY1 hY1N hkk hnn
      obtain rfl : k = e / 2 := by omega
      have k2 := fun L7 => K88 X1 Y1 sb1 L7 kk nn hX1 hY1 hY1N hkk hnn
      clear K88
      have hge : nI e ≤ nI (2 * (e / 2)) + 1 := by rw [nI_1]; exact nI_le (by omega) (by omega)
      generalize mdE li Tc s (e / 2) = me at *
      generalize 2 * (e / 2) = k9 at *
      refine q_iload 7 46 dX11_mends_44 rfl rfl ?_
      refine q_iconst 1 47 dX11_mends_46 ic_1 rfl ?_
      refine q_iadd 48 dX11_mends_47 rfl ?_
      refine q_iload 6 50 dX11_mends_48 rfl rfl ?_
      refine q_icmp_ge 88 53 dX11_mends_50 (by decide) rfl (fun h50 => ?_) (fun h50 => absurd hge h50)
      exact k2 _
    | succ c ih =>
      intro k X1 Y1 sb1 kk nn hk hX1 hY1 hY1N hkk hnn
      have k2 := ih (k + 1)
      clear ih K88
      have e1 : nI (2 * k) + 1 = nI (2 * k + 1) := by rw [nI_1]
      have e2 : nI (2 * k) + Int32.ofInt 2 = nI (2 * (k + 1)) := by rw [inc2]; congr 1
      have hlt : ¬ nI e ≤ nI (2 * k) + 1 := by rw [nI_1]; exact nI_ge (by omega) (by omega)
      have hE0 := hlen k (by omega)
      have hE1 := hlen (k + 1) (by omega)
      have hXN1 := hX1.2.1
      rw [show mdE li Tc s (k + 1) = meG li (hoW (Tc (2 * k))) (Tc (2 * k + 1) - 48) (mdE li Tc s k).2 (mdE li Tc s k).1 (mdE li Tc s k).2.length from rfl] at k2 hE1
      generalize mdE li Tc s k = me at *
      obtain ⟨sf1, E1⟩ := me
      dsimp only at *
      generalize ek2 : 2 * (k + 1) = kn at *
      generalize ekk : 2 * k = k9 at *
      generalize ekq : k9 + 1 = kq at *
      refine q_iload 7 46 dX11_mends_44 rfl rfl ?_
      refine q_iconst 1 47 dX11_mends_46 ic_1 rfl ?_
      refine q_iadd 48 dX11_mends_47 rfl ?_
      refine q_iload 6 50 dX11_mends_48 rfl rfl ?_
      refine q_icmp_ge 88 53 dX11_mends_50 (by decide) rfl (fun h50 => absurd h50 hlt) (fun h50 => ?_)
      refine q_aload_n 0 54 dX11_mends_53 rfl rfl rfl ?_
      refine q_getR 0 57 f_X11_272 dX11_mends_54 rfl rfl rfl rfl ?_
      refine q_aload_n 0 58 dX11_mends_57 rfl rfl rfl ?_
      refine q_getR 0 61 f_X11_9 dX11_mends_58 rfl rfl rfl rfl ?_
      refine q_iload 7 63 dX11_mends_61 rfl rfl ?_
      refine q_bald 1 k9 64 dX11_mends_63 rfl ⟨rfl, by omega, by decide⟩ rfl ?_
      refine q_cSi [] [0, 1, 2, 3, 4, 5, 6, 7, 8, 9, 10, 11, 12, 13, 14, 15, 16, 17] [0, 1, 2, 3, 4, 5, 6, 7, 8, 9, 10, 11, 12, 13, 14, 15, 16, 17] 67 (wr := [_, _, _, _, _, _, _, _, _, _, _, _, _, _, _, _, _, _]) (w1 := _) (ws' := [_, _, _, _, _, _, _, _, _, _, _, _, _, _, _, _, _, _]) c_X11_howOf m_X11_269 dX11_mends_64 rfl rfl rfl rfl rfl (by decide) (by decide) (by decide) (by decide) (Nat.le_of_ble_eq_true rfl) (by omega) (by omega) (by omega) rfl ?_
      refine q_aload_n 0 68 dX11_mends_67 rfl rfl rfl ?_
      refine q_getR 0 71 f_X11_9 dX11_mends_68 rfl rfl rfl rfl ?_
      refine q_iload 7 73 dX11_mends_71 rfl rfl ?_
      refine q_iconst 1 74 dX11_mends_73 ic_1 rfl ?_
      refine q_iadd 75 dX11_mends_74 rfl ?_
      refine q_bald 1 kq 76 dX11_mends_75 rfl ⟨e1, by omega, by decide⟩ rfl ?_
      refine q_bipush 48 78 dX11_mends_76 bc_48 rfl ?_
      refine q_isub 79 dX11_mends_78 rfl ?_
      refine q_yVv 2 [2, 3, 4, 5, 6, 7, 8, 9, 10, 11, 12, 13, 14, 15, 16] [0, 1, 17] [0, 1, 3, 4, 5, 6, 7, 8, 9, 10, 11, 12, 13, 14, 15, 16, 17, 2] 82 (wr := [_, _, _]) (w1 := _) (ws' := fun _ => [_, _, _, _, _, _, _, _, _, _, _, _, _, _, _, _, _, _]) (c_X1_step hX1 hY1 hY1N hE0 hE1) m_X11_283 dX11_mends_79 rfl rfl rfl rfl rfl rfl rfl (fun _ => rfl) (by decide) (by decide) (by decide) (by decide) (Nat.le_of_ble_eq_true rfl) (by omega) (by omega) (by omega) rfl (fun z79 k79 n79 hx79 => ?_)
      obtain ⟨Z79, b79⟩ := z79
      dsimp only at hx79 ⊢
      refine q_iinc 7 _ 85 (L' := [_, _, _, _, _, _, _, _]) dX11_mends_82 rfl rfl (by decide) rfl rfl ?_
      refine q_goto 44 dX11_mends_85 (by decide) ?_
      obtain ⟨w1, w2, w3, w4, w5⟩ := hx79
      rw [e2]
      exact k2 Z79 X1 b79 _ _ (by omega) w1 hX1.1 hX1.2.1 (by omega) (by omega)
  have k2 := K44 (e / 2) 0
  clear K44 K88
  rw [show mdE li Tc s 0 = (s, [(kyM s, 0, 1)]) from rfl, show 2 * 0 = 0 from rfl, show nI 0 = (0 : Int32) from by decide] at k2
  refine q_aload_n 0 31 dX11_mends_30 rfl rfl rfl ?_
  refine q_getR 0 34 f_X11_272 dX11_mends_31 rfl rfl rfl rfl ?_
  refine q_aload_n 0 35 dX11_mends_34 rfl rfl rfl ?_
  refine q_getR 0 38 f_X11_30 dX11_mends_35 rfl rfl rfl rfl ?_
  refine q_yVv 2 [2, 3, 4, 10, 11, 12, 13, 14, 15, 17] [0, 1, 5, 6, 7, 8, 9, 16] [0, 1, 8, 9, 10, 2, 3, 4, 5, 6, 11, 12, 13, 14, 15, 16, 7, 17] 41 (wr := [_, _, _, _, _, _, _, _]) (w1 := _) (ws' := fun _ => [_, _, _, _, _, _, _, _, _, _, _, _, _, _, _, _, _, _]) (c_X1_open hY hYN h6) m_X11_279 dX11_mends_38 rfl rfl rfl rfl rfl rfl rfl (fun _ => rfl) (by decide) (by decide) (by decide) (by decide) (Nat.le_of_ble_eq_true rfl) (by omega) (by omega) (by omega) rfl (fun Z38 k38 n38 hx38 => ?_)
  refine q_iconst 0 42 dX11_mends_41 ic_0 rfl ?_
  refine q_istore 7 44 (L' := [_, _, _, _, _, _, _, _]) dX11_mends_42 (by decide) rfl rfl ?_
  obtain ⟨w1, w2, w3, w4, w5⟩ := hx38
  refine q_sub (ws' := [_, _, _, _, _, _, _, _, _, _, _, _, _, _, _, _, _, _]) [0, 1, 2, 3, 4, 10, 11, 12, 13, 14, 5, 6, 7, 8, 9, 15, 16, 17] rfl rfl ?_
  exact k2 Z38 X s (kk0 + k38) (nn0 + n38) (by omega) w1 hX hXN (by omega) (by omega)
theorem c_X11_mends1 {l : Launch} {g : Gh} {q tp mq fr be sd la ru so cc e : Nat} {i mi sf sb s li Tc : Sc} {mj : Nat → Int64} {X Y : MrS} {sdo : Option Nat} {pa pb pc pd wy : Int32} {t1 t2 t4 t5 t6 t8 : Option Nat} (he : i 9 = nI e) (he4 : e ≤ 400) (hl : lgOK Tc e) (h6 : s 6 = 0 ∨ s 6 = 1) (hlen : ∀ k, k ≤ e / 2 → (mdE li Tc s k).2.length ≤ 4000) (hX : PlO (mrP X)) (hXN : plN (mrP X) ≤ 4096) (hY : PlO (mrP Y)) (hYN : plN (mrP Y) ≤ 4096) : Cn l g yX11_mends (Cond.code yX11_mends cX11_mends 8 (some .long)) 9 (8192 - (plN (mrP X) + plN (mrP Y))) (14 * (8192 - (plN (mrP X) + plN (mrP Y)))) [.ref q, .int pa, .int pb, .int pc, .int pd, .int wy] [(q, ob 11 i [some tp, t1, t2, some sd, t4, t5, t6, some mq, t8, none, none]), (tp, aB g 400 Tc), (mq, obj 1 mi (rMd fr be X Y sdo) mj), (fr, ob 8 sf []), (be, ob 8 sb []), (mrA X, ob 3 (plI (mrP X)) (rPl (plKe (mrP X)) (plTa (mrP X)))), (plKe (mrP X), aI g (plN (mrP X)) (plKf (mrP X))), (plTa (mrP X), aI g (4 * plN (mrP X)) (plTb (mrP X))), (mrC X, aI g (plN (mrP X)) (mrF X)), (mrN X, aJ g (plN (mrP X)) (mrG X)), (mrA Y, ob 3 (plI (mrP Y)) (rPl (plKe (mrP Y)) (plTa (mrP Y)))), (plKe (mrP Y), aI g (plN (mrP Y)) (plKf (mrP Y))), (plTa (mrP Y), aI g (4 * plN (mrP Y)) (plTb (mrP Y))), (mrC Y, aI g (plN (mrP Y)) (mrF Y)), (mrN Y, aJ g (plN (mrP Y)) (mrG Y)), (sd, ob 10 (fun _ => 0) (rD la ru so)), (la, ob 0 li (rL cc)), (so, ob 8 s [])] (fun _ : MrS × MrS × Sc × (Nat → Int64) × Sc × Sc => some (.long (mdV9 li Tc s pa pb pc pd wy (e / 2)))) (fun z : MrS × MrS × Sc × (Nat → Int64) × Sc × Sc => [(q, ob 11 (upd i 9 0) [some tp, t1, t2, some sd, t4, t5, t6, some mq, t8, none, none]), (tp, aB g 400 Tc), (mq, obj 1 z.2.2.1 (rMd fr be z.1 z.2.1 (some sd)) z.2.2.2.1), (fr, ob 8 z.2.2.2.2.1 []), (be, ob 8 z.2.2.2.2.2 []), (mrA z.1, ob 3 (plI (mrP z.1)) (rPl (plKe (mrP z.1)) (plTa (mrP z.1)))), (plKe (mrP z.1), aI g (plN (mrP z.1)) (plKf (mrP z.1))), (plTa (mrP z.1), aI g (4 * plN (mrP z.1)) (plTb (mrP z.1))), (mrC z.1, aI g (plN (mrP z.1)) (mrF z.1)), (mrN z.1, aJ g (plN (mrP z.1)) (mrG z.1)), (mrA z.2.1, ob 3 (plI (mrP z.2.1)) (rPl (plKe (mrP z.2.1)) (plTa (mrP z.2.1)))), (plKe (mrP z.2.1), aI g (plN (mrP z.2.1)) (plKf (mrP z.2.1))), (plTa (mrP z.2.1), aI g (4 * plN (mrP z.2.1)) (plTb (mrP z.2.1))), (mrC z.2.1, aI g (plN (mrP z.2.1)) (mrF z.2.1)), (mrN z.2.1, aJ g (plN (mrP z.2.1)) (mrG z.2.1)), (sd, ob 10 (fun _ => 0) (rD la ru so)), (la, ob 0 li (rL cc)), (so, ob 8 s [])]) (fun z k n => (PlO (mrP z.1) ∧ plN (mrP z.1) ≤ 4096 ∧ PlO (mrP z.2.1) ∧ plN (mrP z.2.1) ≤ 4096) ∧ k + (plN (mrP X) + plN (mrP Y)) ≤ plN (mrP z.1) + plN (mrP z.2.1) ∧ n + 14 * (plN (mrP X) + plN (mrP Y)) ≤ 14 * (plN (mrP z.1) + plN (mrP z.2.1))) := by
  refine ct_of (M := mtX11_mends) [some (.ref q), some (.int pa), some (.int pb), some (.int pc), some (.int pd), some (.int wy), none, none] rfl (by decide) (Nat.le_of_ble_eq_true rfl) (fun _ h => h) (fun a => ?_)
  have k2 := fun post K => @w_mends l g q tp mq fr be sd la ru so cc e i mi sf sb s li Tc mj X Y sdo pa pb pc pd wy t1 t2 t4 t5 t6 t8 _ _ 9 0 0 post noX a (by omega) he4 hl h6 hlen hX hXN hY hYN (Nat.le_of_eq (Nat.zero_add _)) (Nat.le_of_eq (Nat.zero_add _)) K
  refine q_aload_n 0 1 dX11_mends_0 rfl rfl rfl ?_
  refine q_cVi 0 [0] [1, 2, 3, 4, 5, 6, 7, 8, 9, 10, 11, 12, 13, 14, 15, 16, 17] [17, 0, 1, 2, 3, 4, 5, 6, 7, 8, 9, 10, 11, 12, 13, 14, 15, 16] 4 (wr := [_, _, _, _, _, _, _, _, _, _, _, _, _, _, _, _, _]) (w1 := _) (ws' := [_, _, _, _, _, _, _, _, _, _, _, _, _, _, _, _, _, _]) c_X11_useUp m_X11_52 dX11_mends_1 rfl rfl rfl rfl rfl rfl rfl rfl (by decide) (by decide) (by decide) (by decide) (Nat.le_of_ble_eq_true rfl) (by omega) (by omega) (by omega) rfl ?_
  rw [he]
  refine q_istore 6 6 (L' := [_, _, _, _, _, _, _, _]) dX11_mends_4 (by decide) rfl rfl ?_
  refine q_aload_n 0 7 dX11_mends_6 rfl rfl rfl ?_
  refine q_iload 6 9 dX11_mends_7 rfl rfl ?_
  refine q_cVv 0 [0, 1] [2, 3, 4, 5, 6, 7, 8, 9, 10, 11, 12, 13, 14, 15, 16, 17] [16, 17, 0, 1, 2, 3, 4, 5, 6, 7, 8, 9, 10, 11, 12, 13, 14, 15] 12 (wr := [_, _, _, _, _, _, _, _, _, _, _, _, _, _, _, _]) (w1 := _) (ws' := [_, _, _, _, _, _, _, _, _, _, _, _, _, _, _, _, _, _]) (c_X11_needLog he4 hl) m_X11_266 dX11_mends_9 rfl rfl rfl rfl rfl rfl rfl rfl (by decide) (by decide) (by decide) (by decide) (Nat.le_of_ble_eq_true rfl) (by omega) (by omega) (by omega) rfl ?_
  refine q_aload_n 0 13 dX11_mends_12 rfl rfl rfl ?_
  refine q_getR 0 16 f_X11_272 dX11_mends_13 rfl rfl rfl rfl ?_
  refine q_ifnonnull 30 dX11_mends_16 (by decide) ?_
  exact k2 _ (fun z k n h1 h2 h3 => pX.mk z ⟨h1, by omega, by omega⟩ rfl rfl)
theorem c_X11_mends0 {l : Launch} {g : Gh} {q tp sd la ru so cc e : Nat} {i s li Tc : Sc} {pa pb pc pd wy : Int32} {t1 t2 t4 t5 t6 t8 : Option Nat} (he : i 9 = nI e) (he4 : e ≤ 400) (hl : lgOK Tc e) (h6 : s 6 = 0 ∨ s 6 = 1) (hlen : ∀ k, k ≤ e / 2 → (mdE li Tc s k).2.length ≤ 4000) : Cn l g yX11_mends (Cond.code yX11_mends cX11_mends 8 (some .long)) 9 (13 + 8160) (263 + 14 * 8160) [.ref q, .int pa, .int pb, .int pc, .int pd, .int wy] [(q, ob 11 i [some tp, t1, t2, some sd, t4, t5, t6, none, t8, none, none]), (tp, aB g 400 Tc), (sd, ob 10 (fun _ => 0) (rD la ru so)), (la, ob 0 li (rL cc)), (so, ob 8 s [])] (fun _ : (Nat × Nat × Nat) × MrS × MrS × Sc × (Nat → Int64) × Sc × Sc => some (.long (mdV9 li Tc s pa pb pc pd wy (e / 2)))) (fun x : (Nat × Nat × Nat) × MrS × MrS × Sc × (Nat → Int64) × Sc × Sc => [(q, ob 11 (upd i 9 0) [some tp, t1, t2, some sd, t4, t5, t6, some x.1.1, t8, none, none]), (tp, aB g 400 Tc), (x.1.1, obj 1 x.2.2.2.1 (rMd x.1.2.1 x.1.2.2 x.2.1 x.2.2.1 (some sd)) x.2.2.2.2.1), (x.1.2.1, ob 8 x.2.2.2.2.2.1 []), (x.1.2.2, ob 8 x.2.2.2.2.2.2 []), (mrA x.2.1, ob 3 (plI (mrP x.2.1)) (rPl (plKe (mrP x.2.1)) (plTa (mrP x.2.1)))), (plKe (mrP x.2.1), aI g (plN (mrP x.2.1)) (plKf (mrP x.2.1))), (plTa (mrP x.2.1), aI g (4 * plN (mrP x.2.1)) (plTb (mrP x.2.1))), (mrC x.2.1, aI g (plN (mrP x.2.1)) (mrF x.2.1)), (mrN x.2.1, aJ g (plN (mrP x.2.1)) (mrG x.2.1)), (mrA x.2.2.1, ob 3 (plI (mrP x.2.2.1)) (rPl (plKe (mrP x.2.2.1)) (plTa (mrP x.2.2.1)))), (plKe (mrP x.2.2.1), aI g (plN (mrP x.2.2.1)) (plKf (mrP x.2.2.1))), (plTa (mrP x.2.2.1), aI g (4 * plN (mrP x.2.2.1)) (plTb (mrP x.2.2.1))), (mrC x.2.2.1, aI g (plN (mrP x.2.2.1)) (mrF x.2.2.1)), (mrN x.2.2.1, aJ g (plN (mrP x.2.2.1)) (mrG x.2.2.1)), (sd, ob 10 (fun _ => 0) (rD la ru so)), (la, ob 0 li (rL cc)), (so, ob 8 s [])]) (fun x k n => (PlO (mrP x.2.1) ∧ plN (mrP x.2.1) ≤ 4096 ∧ PlO (mrP x.2.2.1) ∧ plN (mrP x.2.2.1) ≤ 4096) ∧ k + 32 ≤ 13 + (plN (mrP x.2.1) + plN (mrP x.2.2.1)) ∧ n + 14 * 32 ≤ 263 + 14 * (plN (mrP x.2.1) + plN (mrP x.2.2.1))) := by
  refine ct_of (M := mtX11_mends) [some (.ref q), some (.int pa), some (.int pb), some (.int pc), some (.int pd), some (.int wy), none, none] rfl (by decide) (Nat.le_of_ble_eq_true rfl) (fun _ h => h) (fun a => ?_)
  refine q_aload_n 0 1 dX11_mends_0 rfl rfl rfl ?_
  refine q_cVi 0 [0] [1, 2, 3, 4] [4, 0, 1, 2, 3] 4 (wr := [_, _, _, _]) (w1 := _) (ws' := [_, _, _, _, _]) c_X11_useUp m_X11_52 dX11_mends_1 rfl rfl rfl rfl rfl rfl rfl rfl (by decide) (by decide) (by decide) (by decide) (Nat.le_of_ble_eq_true rfl) (by omega) (by omega) (by omega) rfl ?_
  rw [he]
  refine q_istore 6 6 (L' := [_, _, _, _, _, _, _, _]) dX11_mends_4 (by decide) rfl rfl ?_
  refine q_aload_n 0 7 dX11_mends_6 rfl rfl rfl ?_
  refine q_iload 6 9 dX11_mends_7 rfl rfl ?_
  refine q_cVv 0 [0, 1] [2, 3, 4] [3, 4, 0, 1, 2] 12 (wr := [_, _, _]) (w1 := _) (ws' := [_, _, _, _, _]) (c_X11_needLog he4 hl) m_X11_266 dX11_mends_9 rfl rfl rfl rfl rfl rfl rfl rfl (by decide) (by decide) (by decide) (by decide) (Nat.le_of_ble_eq_true rfl) (by omega) (by omega) (by omega) rfl ?_
  refine q_aload_n 0 13 dX11_mends_12 rfl rfl rfl ?_
  refine q_getN 0 16 f_X11_272 dX11_mends_13 rfl rfl rfl rfl ?_
  refine q_ifnonnullN 19 dX11_mends_16 rfl ?_
  refine q_aload_n 0 20 dX11_mends_19 rfl rfl rfl ?_
  refine q_new (N := 11) 23 n_X11_276 rfl dX11_mends_20 (by omega) (by omega) rfl (fun q20 => ?_)
  refine q_dup 24 dX11_mends_23 rfl rfl ?_
  refine q_yIv [5] [0, 1, 2, 3, 4] [0, 1, 2, 3, 4, 5, 6, 7, 8, 9, 10, 11, 12, 13, 14, 15, 16, 17] 27 (wr := [_, _, _, _, _]) (w1 := _) (ws' := fun _ => [_, _, _, _, _, _, _, _, _, _, _, _, _, _, _, _, _, _]) c_X1_init m_X11_278 dX11_mends_24 rfl rfl rfl rfl (fun _ => rfl) (by decide) (by decide) (by decide) (by decide) (Nat.le_of_ble_eq_true rfl) (by omega) (by omega) (by omega) rfl (fun z24 k24 n24 hx24 => ?_)
  obtain ⟨fr24, be24, X24, Y24⟩ := z24
  dsimp only at hx24 ⊢
  refine q_putR 0 30 (w' := [_, _, _, _, _, _, _, _, _, _, _, _, _, _, _, _, _, _]) (r' := [_, _, _, _, _, _, _, _, _, _, _]) f_X11_272 ft_X11_7 dX11_mends_27 rfl rfl (Nat.le_of_ble_eq_true rfl) rfl rfl rfl rfl rfl ?_
  skip
  obtain ⟨o1, o2, o3, o4, o5, o6⟩ := hx24
  refine q_sub (ws' := [_, _, _, _, _, _, _, _, _, _, _, _, _, _, _, _, _, _]) [0, 1, 5, 6, 7, 8, 9, 10, 11, 12, 13, 14, 15, 16, 17, 2, 3, 4] rfl rfl ?_
  exact w_mends (by omega) he4 hl h6 hlen o1.1 o1.2.1 o2.1 o2.2.1 (by omega) (by omega) (fun z k n h1 h2 h3 => pX.mk ((q20, fr24, be24), z) ⟨h1, by show k + 32 ≤ 13 + (plN (mrP z.1) + plN (mrP z.2.1)); omega, by show n + 14 * 32 ≤ 263 + 14 * (plN (mrP z.1) + plN (mrP z.2.1)); omega⟩ rfl rfl)
theorem x_X11_mends {l : Launch} {g : Gh} {q tp e : Nat} {i Tc : Sc} {pa pb pc pd wy : Int32} {t1 t2 t3 t4 t5 t6 t7 t8 : Option Nat} (he : i 9 = nI e) (he4 : e ≤ 400) (hl : ¬ lgOK Tc e) : Cx l g yX11_mends (Cond.code yX11_mends cX11_mends 8 (some .long)) 7 [.ref q, .int pa, .int pb, .int pc, .int pd, .int wy] [(q, ob 11 i [some tp, t1, t2, t3, t4, t5, t6, t7, t8, none, none]), (tp, aB g 400 Tc)] "java/lang/IllegalArgumentException" [(q, ob 11 (upd i 9 0) [some tp, t1, t2, t3, t4, t5, t6, t7, t8, none, none]), (tp, aB g 400 Tc)] := by
  refine ct_of (M := mtX11_mends) [some (.ref q), some (.int pa), some (.int pb), some (.int pc), some (.int pd), some (.int wy), none, none] rfl (by decide) (Nat.le_of_ble_eq_true rfl) (fun _ h => h) (fun a => ?_)
  refine q_aload_n 0 1 dX11_mends_0 rfl rfl rfl ?_
  refine q_cVi 0 [0] [1] [1, 0] 4 (wr := [_]) (w1 := _) (ws' := [_, _]) c_X11_useUp m_X11_52 dX11_mends_1 rfl rfl rfl rfl rfl rfl rfl rfl (by decide) (by decide) (by decide) (by decide) (Nat.le_of_ble_eq_true rfl) (by omega) (by omega) (by omega) rfl ?_
  rw [he]
  refine q_istore 6 6 (L' := [_, _, _, _, _, _, _, _]) dX11_mends_4 (by decide) rfl rfl ?_
  refine q_aload_n 0 7 dX11_mends_6 rfl rfl rfl ?_
  refine q_iload 6 9 dX11_mends_7 rfl rfl ?_
  refine q_xV 0 [0, 1] [] (wr := []) (w1 := _) (x_X11_needLog he4 hl) m_X11_266 dX11_mends_9 rfl rfl rfl rfl rfl rfl rfl (by decide) (by decide) (by decide) (Nat.le_of_ble_eq_true rfl) (by omega) (by omega) (by omega) rfl ?_
  exact pT.rf

