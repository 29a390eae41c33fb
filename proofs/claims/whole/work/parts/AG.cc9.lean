/-! ===== ChaseCourt: rule ===== -/
/-- what a text of a rule makes -/
def ruR (Tc : Sc) (e : Nat) : PR := rdR (toks Tc e) e
theorem tokL_le (T : Sc) (e : Nat) : ∀ (f p : Nat), ∀ t ∈ tokL T e f p, t.2.1 ≤ e
  | 0, _, t, h => by cases h
  | f + 1, p, t, h => by
    rw [tokL] at h
    by_cases hp : p < e
    · rw [if_pos hp] at h
      by_cases h32 : T p = 32
      · rw [if_pos h32] at h
        exact tokL_le T e f _ t h
      · rw [if_neg h32] at h
        rcases List.mem_cons.mp h with rfl | h
        · exact Nat.le_of_lt hp
        · exact tokL_le T e f _ t h
    · rw [if_neg hp] at h
      cases h
theorem toks_at (T : Sc) (e k : Nat) : (tA (toks T e) e k).2.1 ≤ e := by
  unfold tA
  by_cases h : k < (toks T e).length
  · have : (toks T e).getD k (dT e) ∈ toks T e := by
      simp only [List.getD, List.getElem?_eq_getElem h, Option.getD_some]
      exact List.getElem_mem h
    exact tokL_le T e 400 0 _ this
  · simp [List.getD, List.getElem?_eq_none (by omega : (toks T e).length ≤ k), dT]
theorem c_X11_rule0 {l : Launch} {g : Gh} {q tp sq st sb sn sd la ru so b0 al e num : Nat} {i si th be nu ri Tc : Sc} {af : Nat → Option Nat} {y : Option Nat} {t2 t4 t5 t6 t7 : Option Nat} (he : i 9 = nI e) (he4 : e ≤ 400) (hr : (ruR Tc e).1 = -1) (hl : (ruR Tc e).2.2.length < 400) (hi : ri 2 = nI num) (hn : num < 6) : Cn l g yX11_rule (Cond.code yX11_rule cX11_rule 1 (some .int)) 32 5 (446 + (ruR Tc e).2.2.length) [.ref q] [(q, ob 11 i [some tp, some sq, t2, some sd, t4, t5, t6, t7, none, none, none]), (tp, aB g 400 Tc), (sq, ob 7 si [some st, some sb, some sn, y, none, none, none]), (st, aI g 401 th), (sb, aI g 401 be), (sn, aI g 401 nu), (sd, ob 10 (fun _ => 0) (rD la ru so)), (ru, ob 6 ri (rQ b0 al)), (al, aR g 6 af)] (fun _ : ((Nat × Nat) × (Sc × Sc × Sc × Sc) × Sc × Sc) × Nat × Nat × Nat × Sc => some (.int (nI num))) (fun x : ((Nat × Nat) × (Sc × Sc × Sc × Sc) × Sc × Sc) × Nat × Nat × Nat × Sc => [(q, ob 11 (upd (upd i 9 0) 10 (ruR Tc e).1) [some tp, some sq, t2, some sd, t4, t5, t6, t7, some x.1.1.1, none, none]), (tp, aB g 400 Tc), (sq, ob 7 x.1.2.1.1 [some st, some sb, some sn, some tp, none, none, none]), (st, aI g 401 x.1.2.1.2.1), (sb, aI g 401 x.1.2.1.2.2.1), (sn, aI g 401 x.1.2.1.2.2.2), (sd, ob 10 (fun _ => 0) (rD la ru so)), (ru, ob 6 (upd ri 2 (nI (num + 1))) (rQ b0 al)), (al, aR g 6 (va_up af num (some x.2.1))), (x.1.1.1, ob 5 x.1.2.2.1 [some x.1.1.2, none, none, some sq]), (x.1.1.2, aI g 400 x.1.2.2.2), (x.2.2.1, aI g (ruR Tc e).2.2.length x.2.2.2.2), (x.2.1, ob 4 (fun _ => 0) [some x.2.2.1, some x.2.2.2.1]), (x.2.2.2.1, aI g 40 (fun _ => 0))]) (fun x k n => k = 5 ∧ n = 446 + (ruR Tc e).2.2.length ∧ ∀ z, z < (ruR Tc e).2.2.length → x.2.2.2.2 z = (ruR Tc e).2.2.getD z 0) := by
  refine ct_of (M := mtX11_rule) [some (.ref q)] rfl (by decide) (Nat.le_of_ble_eq_true rfl) (fun _ h => h) (fun a => ?_)
  have eR : rdR (toks Tc e) e = ruR Tc e := rfl
  have hbe : ∀ k, k ≤ (toks Tc e).length → (tA (toks Tc e) e k).2.1 ≤ 400 := fun k _ => Nat.le_trans (toks_at Tc e k) he4
  refine q_aload_n 0 1 dX11_rule_0 rfl rfl rfl ?_
  refine q_getR 0 4 f_X11_16 dX11_rule_1 rfl rfl rfl rfl ?_
  refine q_aload_n 0 5 dX11_rule_4 rfl rfl rfl ?_
  refine q_getR 0 8 f_X11_9 dX11_rule_5 rfl rfl rfl rfl ?_
  refine q_aload_n 0 9 dX11_rule_8 rfl rfl rfl ?_
  refine q_cVi 0 [0] [1, 2, 3, 4, 5, 6, 7, 8] [8, 0, 1, 2, 3, 4, 5, 6, 7] 12 (wr := [_, _, _, _, _, _, _, _]) (w1 := _) (ws' := [_, _, _, _, _, _, _, _, _]) c_X11_useUp m_X11_52 dX11_rule_9 rfl rfl rfl rfl rfl rfl rfl rfl (by decide) (by decide) (by decide) (by decide) (Nat.le_of_ble_eq_true rfl) (by omega) (by omega) (by omega) rfl ?_
  rw [he]
  refine q_xVv 2 [2, 3, 4, 5, 1] [0, 6, 7, 8] [0, 8, 4, 5, 6, 7, 1, 2, 3] 15 (wr := [_, _, _, _]) (w1 := _) (ws' := fun _ => [_, _, _, _, _, _, _, _, _]) (c_X7_scan he4) m_X11_56 dX11_rule_12 rfl rfl rfl rfl rfl rfl rfl (fun _ => rfl) (by decide) (by decide) (by decide) (by decide) (Nat.le_of_ble_eq_true rfl) (by omega) (by omega) (by omega) rfl (fun z12 hx12 => ?_)
  obtain ⟨i12, th12, be12, nu12⟩ := z12
  dsimp only at hx12 ⊢
  skip
  obtain ⟨hR, h60⟩ := hx12
  have e6 : upd i12 6 (nI 0) = i12 := upd_self _ _ h60
  rw [← e6]
  refine q_aload_n 0 16 dX11_rule_15 rfl rfl rfl ?_
  refine q_getN 0 19 f_X11_86 dX11_rule_16 rfl rfl rfl rfl ?_
  refine q_ifnonnullN 22 dX11_rule_19 rfl ?_
  refine q_aload_n 0 23 dX11_rule_22 rfl rfl rfl ?_
  refine q_new (N := 4) 26 n_X11_90 rfl dX11_rule_23 (by omega) (by omega) rfl (fun q23 => ?_)
  refine q_dup 27 dX11_rule_26 rfl rfl ?_
  refine q_yIv [9] [0, 1, 2, 3, 4, 5, 6, 7, 8] [0, 1, 2, 3, 4, 5, 6, 7, 8, 9, 10] 30 (wr := [_, _, _, _, _, _, _, _, _]) (w1 := _) (ws' := fun _ => [_, _, _, _, _, _, _, _, _, _, _]) c_X5_init m_X11_92 dX11_rule_27 rfl rfl rfl rfl (fun _ => rfl) (by decide) (by decide) (by decide) (by decide) (Nat.le_of_ble_eq_true rfl) (by omega) (by omega) (by omega) rfl (fun cd27 k27 n27 hx27 => ?_)
  refine q_putR 0 33 (w' := [_, _, _, _, _, _, _, _, _, _, _]) (r' := [_, _, _, _, _, _, _, _, _, _, _]) f_X11_86 ft_X11_8 dX11_rule_30 rfl rfl (Nat.le_of_ble_eq_true rfl) rfl rfl rfl rfl rfl ?_
  refine q_aload_n 0 34 dX11_rule_33 rfl rfl rfl ?_
  refine q_aload_n 0 35 dX11_rule_34 rfl rfl rfl ?_
  refine q_getR 0 38 f_X11_86 dX11_rule_35 rfl rfl rfl rfl ?_
  refine q_aload_n 0 39 dX11_rule_38 rfl rfl rfl ?_
  refine q_getR 0 42 f_X11_16 dX11_rule_39 rfl rfl rfl rfl ?_
  refine q_xVi 9 [9, 10, 2, 3, 4, 5] [0, 1, 6, 7, 8] [0, 1, 7, 8, 9, 10, 2, 3, 4, 5, 6] 45 (wr := [_, _, _, _, _]) (w1 := _) (ws' := fun _ => [_, _, _, _, _, _, _, _, _, _, _]) (c_X5_read hR hbe) m_X11_93 dX11_rule_42 rfl rfl rfl rfl rfl rfl rfl (fun _ => rfl) (by decide) (by decide) (by decide) (by decide) (Nat.le_of_ble_eq_true rfl) (by omega) (by omega) (by omega) rfl (fun z42 hx42 => ?_)
  obtain ⟨j42, co42⟩ := z42
  dsimp only at hx42 ⊢
  rw [eR] at hx42 ⊢; obtain ⟨k27a, n27a⟩ := hx27
  refine q_putI 0 48 (w' := [_, _, _, _, _, _, _, _, _, _, _]) f_X11_41 ft_X11_10 dX11_rule_45 rfl rfl rfl rfl ?_
  skip
  generalize hrr : ruR Tc e = rr9 at *
  obtain ⟨r1, r2, r3⟩ := rr9
  dsimp only at *
  have hC := hx42 hr
  have hC2 := hC.2.1
  have h10 : upd (upd i 9 0) 10 r1 10 = -1 := by rw [pk_us, hr]
  have g6 : ri 2 < 6 := by rw [hi, show (6 : Int32) = nI 6 by decide]; exact nI_lt hn (by decide)
  have hxt : ∀ z, z < r3.length → ext co42 400 r3.length z = r3.getD z 0 := fun z hz => by rw [ext_lt _ (by omega) hz]; exact hC.2.2 z hz
  refine q_aload_n 0 49 dX11_rule_48 rfl rfl rfl ?_
  refine q_getI 0 52 f_X11_41 dX11_rule_49 rfl rfl rfl ?_
  refine q_iconst (-1) 53 dX11_rule_52 ic_m1 rfl ?_
  rw [h10]
  refine q_icmp_eq 66 56 dX11_rule_53 (by decide) rfl (fun h53 => ?_) (fun h53 => absurd rfl h53)
  refine q_aload_n 0 67 dX11_rule_66 rfl rfl rfl ?_
  refine q_getR 0 70 f_X11_30 dX11_rule_67 rfl rfl rfl rfl ?_
  refine q_getR 6 73 f_X11_98 dX11_rule_70 rfl rfl rfl rfl ?_
  refine q_getI 7 76 f_X11_102 dX11_rule_73 rfl rfl rfl ?_
  refine q_bipush 6 78 dX11_rule_76 bc_6 rfl ?_
  refine q_icmp_lt 91 81 dX11_rule_78 (by decide) rfl (fun h78 => ?_) (fun h78 => absurd g6 h78)
  refine q_aload_n 0 92 dX11_rule_91 rfl rfl rfl ?_
  refine q_getR 0 95 f_X11_30 dX11_rule_92 rfl rfl rfl rfl ?_
  refine q_getR 6 98 f_X11_98 dX11_rule_95 rfl rfl rfl rfl ?_
  refine q_aload_n 0 99 dX11_rule_98 rfl rfl rfl ?_
  refine q_getR 0 102 f_X11_86 dX11_rule_99 rfl rfl rfl rfl ?_
  refine q_yVr 9 [9, 10] [0, 1, 2, 3, 4, 5, 6, 7, 8] [0, 1, 2, 3, 4, 5, 6, 7, 8, 9, 10, 11] 105 (wr := [_, _, _, _, _, _, _, _, _]) (w1 := _) (ws' := fun _ => [_, _, _, _, _, _, _, _, _, _, _, _]) (c_X5_written hC hl) m_X11_109 dX11_rule_102 rfl rfl rfl rfl rfl rfl rfl (fun _ => rfl) (by decide) (by decide) (by decide) (by decide) (Nat.le_of_ble_eq_true rfl) (by omega) (by omega) (by omega) rfl (fun cw102 k102 n102 hx102 => ?_)
  obtain ⟨ka, na⟩ := hx102
  refine q_yVi 7 [7, 8, 11] [0, 1, 2, 3, 4, 5, 6, 9, 10] [0, 1, 2, 3, 4, 5, 6, 9, 10, 7, 8, 11, 12, 13] 108 (wr := [_, _, _, _, _, _, _, _, _]) (w1 := _) (ws' := fun _ => [_, _, _, _, _, _, _, _, _, _, _, _, _, _]) (c_X6_add (num := num) hi hn) m_X11_113 dX11_rule_105 rfl rfl rfl rfl rfl rfl rfl (fun _ => rfl) (by decide) (by decide) (by decide) (by decide) (Nat.le_of_ble_eq_true rfl) (by omega) (by omega) (by omega) rfl (fun z105 k105 n105 hx105 => ?_)
  obtain ⟨x105, pi105⟩ := z105
  dsimp only at hx105 ⊢
  obtain ⟨kb, nb⟩ := hx105
  refine q_ireturn dX11_rule_108 rfl ?_
  exact pX.mk (((_, _), (_, _, _, _), _, _), _, _, _, _) ⟨by omega, by omega, hxt⟩ rfl rfl
theorem x_X11_rule01 {l : Launch} {g : Gh} {q tp sq st sb sn sd la ru so b0 al e num : Nat} {i si th be nu ri Tc : Sc} {af : Nat → Option Nat} {y : Option Nat} {t2 t4 t5 t6 t7 : Option Nat} (he : i 9 = nI e) (he4 : e ≤ 400) (hr : ¬ (ruR Tc e).1 = -1) : Cy l g yX11_rule (Cond.code yX11_rule cX11_rule 1 (some .int)) 32 3 410 [.ref q] [(q, ob 11 i [some tp, some sq, t2, some sd, t4, t5, t6, t7, none, none, none]), (tp, aB g 400 Tc), (sq, ob 7 si [some st, some sb, some sn, y, none, none, none]), (st, aI g 401 th), (sb, aI g 401 be), (sn, aI g 401 nu), (sd, ob 10 (fun _ => 0) (rD la ru so)), (ru, ob 6 ri (rQ b0 al)), (al, aR g 6 af)] "java/lang/IllegalArgumentException" (fun z : (Nat × Nat) × (Sc × Sc × Sc × Sc) × Sc × Sc => [(q, ob 11 (upd (upd i 9 0) 10 (ruR Tc e).1) [some tp, some sq, t2, some sd, t4, t5, t6, t7, some z.1.1, none, none]), (tp, aB g 400 Tc), (sq, ob 7 z.2.1.1 [some st, some sb, some sn, some tp, none, none, none]), (st, aI g 401 z.2.1.2.1), (sb, aI g 401 z.2.1.2.2.1), (sn, aI g 401 z.2.1.2.2.2), (sd, ob 10 (fun _ => 0) (rD la ru so)), (ru, ob 6 ri (rQ b0 al)), (al, aR g 6 af), (z.1.1, ob 5 z.2.2.1 [some z.1.2, none, none, some sq]), (z.1.2, aI g 400 z.2.2.2)]) (fun _ k n => k = 3 ∧ n = 410) := by
  refine ct_of (M := mtX11_rule) [some (.ref q)] rfl (by decide) (Nat.le_of_ble_eq_true rfl) (fun _ h => h) (fun a => ?_)
  have eR : rdR (toks Tc e) e = ruR Tc e := rfl
  have hbe : ∀ k, k ≤ (toks Tc e).length → (tA (toks Tc e) e k).2.1 ≤ 400 := fun k _ => Nat.le_trans (toks_at Tc e k) he4
  refine q_aload_n 0 1 dX11_rule_0 rfl rfl rfl ?_
  refine q_getR 0 4 f_X11_16 dX11_rule_1 rfl rfl rfl rfl ?_
  refine q_aload_n 0 5 dX11_rule_4 rfl rfl rfl ?_
  refine q_getR 0 8 f_X11_9 dX11_rule_5 rfl rfl rfl rfl ?_
  refine q_aload_n 0 9 dX11_rule_8 rfl rfl rfl ?_
  refine q_cVi 0 [0] [1, 2, 3, 4, 5, 6, 7, 8] [8, 0, 1, 2, 3, 4, 5, 6, 7] 12 (wr := [_, _, _, _, _, _, _, _]) (w1 := _) (ws' := [_, _, _, _, _, _, _, _, _]) c_X11_useUp m_X11_52 dX11_rule_9 rfl rfl rfl rfl rfl rfl rfl rfl (by decide) (by decide) (by decide) (by decide) (Nat.le_of_ble_eq_true rfl) (by omega) (by omega) (by omega) rfl ?_
  rw [he]
  refine q_xVv 2 [2, 3, 4, 5, 1] [0, 6, 7, 8] [0, 8, 4, 5, 6, 7, 1, 2, 3] 15 (wr := [_, _, _, _]) (w1 := _) (ws' := fun _ => [_, _, _, _, _, _, _, _, _]) (c_X7_scan he4) m_X11_56 dX11_rule_12 rfl rfl rfl rfl rfl rfl rfl (fun _ => rfl) (by decide) (by decide) (by decide) (by decide) (Nat.le_of_ble_eq_true rfl) (by omega) (by omega) (by omega) rfl (fun z12 hx12 => ?_)
  obtain ⟨i12, th12, be12, nu12⟩ := z12
  dsimp only at hx12 ⊢
  skip
  obtain ⟨hR, h60⟩ := hx12
  have e6 : upd i12 6 (nI 0) = i12 := upd_self _ _ h60
  rw [← e6]
  refine q_aload_n 0 16 dX11_rule_15 rfl rfl rfl ?_
  refine q_getN 0 19 f_X11_86 dX11_rule_16 rfl rfl rfl rfl ?_
  refine q_ifnonnullN 22 dX11_rule_19 rfl ?_
  refine q_aload_n 0 23 dX11_rule_22 rfl rfl rfl ?_
  refine q_new (N := 4) 26 n_X11_90 rfl dX11_rule_23 (by omega) (by omega) rfl (fun q23 => ?_)
  refine q_dup 27 dX11_rule_26 rfl rfl ?_
  refine q_yIv [9] [0, 1, 2, 3, 4, 5, 6, 7, 8] [0, 1, 2, 3, 4, 5, 6, 7, 8, 9, 10] 30 (wr := [_, _, _, _, _, _, _, _, _]) (w1 := _) (ws' := fun _ => [_, _, _, _, _, _, _, _, _, _, _]) c_X5_init m_X11_92 dX11_rule_27 rfl rfl rfl rfl (fun _ => rfl) (by decide) (by decide) (by decide) (by decide) (Nat.le_of_ble_eq_true rfl) (by omega) (by omega) (by omega) rfl (fun cd27 k27 n27 hx27 => ?_)
  refine q_putR 0 33 (w' := [_, _, _, _, _, _, _, _, _, _, _]) (r' := [_, _, _, _, _, _, _, _, _, _, _]) f_X11_86 ft_X11_8 dX11_rule_30 rfl rfl (Nat.le_of_ble_eq_true rfl) rfl rfl rfl rfl rfl ?_
  refine q_aload_n 0 34 dX11_rule_33 rfl rfl rfl ?_
  refine q_aload_n 0 35 dX11_rule_34 rfl rfl rfl ?_
  refine q_getR 0 38 f_X11_86 dX11_rule_35 rfl rfl rfl rfl ?_
  refine q_aload_n 0 39 dX11_rule_38 rfl rfl rfl ?_
  refine q_getR 0 42 f_X11_16 dX11_rule_39 rfl rfl rfl rfl ?_
  refine q_xVi 9 [9, 10, 2, 3, 4, 5] [0, 1, 6, 7, 8] [0, 1, 7, 8, 9, 10, 2, 3, 4, 5, 6] 45 (wr := [_, _, _, _, _]) (w1 := _) (ws' := fun _ => [_, _, _, _, _, _, _, _, _, _, _]) (c_X5_read hR hbe) m_X11_93 dX11_rule_42 rfl rfl rfl rfl rfl rfl rfl (fun _ => rfl) (by decide) (by decide) (by decide) (by decide) (Nat.le_of_ble_eq_true rfl) (by omega) (by omega) (by omega) rfl (fun z42 hx42 => ?_)
  obtain ⟨j42, co42⟩ := z42
  dsimp only at hx42 ⊢
  rw [eR] at hx42 ⊢; obtain ⟨k27a, n27a⟩ := hx27
  refine q_putI 0 48 (w' := [_, _, _, _, _, _, _, _, _, _, _]) f_X11_41 ft_X11_10 dX11_rule_45 rfl rfl rfl rfl ?_
  skip
  generalize hrr : ruR Tc e = rr9 at *
  obtain ⟨r1, r2, r3⟩ := rr9
  dsimp only at *
  have h10 : ¬ upd (upd i 9 0) 10 r1 10 = -1 := by rw [pk_us]; exact hr
  refine q_aload_n 0 49 dX11_rule_48 rfl rfl rfl ?_
  refine q_getI 0 52 f_X11_41 dX11_rule_49 rfl rfl rfl ?_
  refine q_iconst (-1) 53 dX11_rule_52 ic_m1 rfl ?_
  refine q_icmp_eq 66 56 dX11_rule_53 (by decide) rfl (fun h53 => absurd h53 h10) (fun h53 => ?_)
  refine q_throwS ex_IAE sr_X11_96 rfl rfl dX11_rule_56 dX11_rule_59 dX11_rule_60 dX11_rule_62 dX11_rule_65 (by omega) (by omega) (by omega) ?_
  exact pTx.mk ((_, _), (_, _, _, _), _, _) ⟨by omega, by omega⟩ rfl
theorem x_X11_rule02 {l : Launch} {g : Gh} {q tp sq st sb sn sd la ru so b0 al e num : Nat} {i si th be nu ri Tc : Sc} {af : Nat → Option Nat} {y : Option Nat} {t2 t4 t5 t6 t7 : Option Nat} (he : i 9 = nI e) (he4 : e ≤ 400) (hr : (ruR Tc e).1 = -1) (hn : ¬ ri 2 < 6) : Cy l g yX11_rule (Cond.code yX11_rule cX11_rule 1 (some .int)) 32 3 410 [.ref q] [(q, ob 11 i [some tp, some sq, t2, some sd, t4, t5, t6, t7, none, none, none]), (tp, aB g 400 Tc), (sq, ob 7 si [some st, some sb, some sn, y, none, none, none]), (st, aI g 401 th), (sb, aI g 401 be), (sn, aI g 401 nu), (sd, ob 10 (fun _ => 0) (rD la ru so)), (ru, ob 6 ri (rQ b0 al)), (al, aR g 6 af)] "java/lang/UnsupportedOperationException" (fun z : (Nat × Nat) × (Sc × Sc × Sc × Sc) × Sc × Sc => [(q, ob 11 (upd (upd i 9 0) 10 (ruR Tc e).1) [some tp, some sq, t2, some sd, t4, t5, t6, t7, some z.1.1, none, none]), (tp, aB g 400 Tc), (sq, ob 7 z.2.1.1 [some st, some sb, some sn, some tp, none, none, none]), (st, aI g 401 z.2.1.2.1), (sb, aI g 401 z.2.1.2.2.1), (sn, aI g 401 z.2.1.2.2.2), (sd, ob 10 (fun _ => 0) (rD la ru so)), (ru, ob 6 ri (rQ b0 al)), (al, aR g 6 af), (z.1.1, ob 5 z.2.2.1 [some z.1.2, none, none, some sq]), (z.1.2, aI g 400 z.2.2.2)]) (fun _ k n => k = 3 ∧ n = 410) := by
  refine ct_of (M := mtX11_rule) [some (.ref q)] rfl (by decide) (Nat.le_of_ble_eq_true rfl) (fun _ h => h) (fun a => ?_)
  have eR : rdR (toks Tc e) e = ruR Tc e := rfl
  have hbe : ∀ k, k ≤ (toks Tc e).length → (tA (toks Tc e) e k).2.1 ≤ 400 := fun k _ => Nat.le_trans (toks_at Tc e k) he4
  refine q_aload_n 0 1 dX11_rule_0 rfl rfl rfl ?_
  refine q_getR 0 4 f_X11_16 dX11_rule_1 rfl rfl rfl rfl ?_
  refine q_aload_n 0 5 dX11_rule_4 rfl rfl rfl ?_
  refine q_getR 0 8 f_X11_9 dX11_rule_5 rfl rfl rfl rfl ?_
  refine q_aload_n 0 9 dX11_rule_8 rfl rfl rfl ?_
  refine q_cVi 0 [0] [1, 2, 3, 4, 5, 6, 7, 8] [8, 0, 1, 2, 3, 4, 5, 6, 7] 12 (wr := [_, _, _, _, _, _, _, _]) (w1 := _) (ws' := [_, _, _, _, _, _, _, _, _]) c_X11_useUp m_X11_52 dX11_rule_9 rfl rfl rfl rfl rfl rfl rfl rfl (by decide) (by decide) (by decide) (by decide) (Nat.le_of_ble_eq_true rfl) (by omega) (by omega) (by omega) rfl ?_
  rw [he]
  refine q_xVv 2 [2, 3, 4, 5, 1] [0, 6, 7, 8] [0, 8, 4, 5, 6, 7, 1, 2, 3] 15 (wr := [_, _, _, _]) (w1 := _) (ws' := fun _ => [_, _, _, _, _, _, _, _, _]) (c_X7_scan he4) m_X11_56 dX11_rule_12 rfl rfl rfl rfl rfl rfl rfl (fun _ => rfl) (by decide) (by decide) (by decide) (by decide) (Nat.le_of_ble_eq_true rfl) (by omega) (by omega) (by omega) rfl (fun z12 hx12 => ?_)
  obtain ⟨i12, th12, be12, nu12⟩ := z12
  dsimp only at hx12 ⊢
  skip
  obtain ⟨hR, h60⟩ := hx12
  have e6 : upd i12 6 (nI 0) = i12 := upd_self _ _ h60
  rw [← e6]
  refine q_aload_n 0 16 dX11_rule_15 rfl rfl rfl ?_
  refine q_getN 0 19 f_X11_86 dX11_rule_16 rfl rfl rfl rfl ?_
  refine q_ifnonnullN 22 dX11_rule_19 rfl ?_
  refine q_aload_n 0 23 dX11_rule_22 rfl rfl rfl ?_
  refine q_new (N := 4) 26 n_X11_90 rfl dX11_rule_23 (by omega) (by omega) rfl (fun q23 => ?_)
  refine q_dup 27 dX11_rule_26 rfl rfl ?_
  refine q_yIv [9] [0, 1, 2, 3, 4, 5, 6, 7, 8] [0, 1, 2, 3, 4, 5, 6, 7, 8, 9, 10] 30 (wr := [_, _, _, _, _, _, _, _, _]) (w1 := _) (ws' := fun _ => [_, _, _, _, _, _, _, _, _, _, _]) c_X5_init m_X11_92 dX11_rule_27 rfl rfl rfl rfl (fun _ => rfl) (by decide) (by decide) (by decide) (by decide) (Nat.le_of_ble_eq_true rfl) (by omega) (by omega) (by omega) rfl (fun cd27 k27 n27 hx27 => ?_)
  refine q_putR 0 33 (w' := [_, _, _, _, _, _, _, _, _, _, _]) (r' := [_, _, _, _, _, _, _, _, _, _, _]) f_X11_86 ft_X11_8 dX11_rule_30 rfl rfl (Nat.le_of_ble_eq_true rfl) rfl rfl rfl rfl rfl ?_
  refine q_aload_n 0 34 dX11_rule_33 rfl rfl rfl ?_
  refine q_aload_n 0 35 dX11_rule_34 rfl rfl rfl ?_
  refine q_getR 0 38 f_X11_86 dX11_rule_35 rfl rfl rfl rfl ?_
  refine q_aload_n 0 39 dX11_rule_38 rfl rfl rfl ?_
  refine q_getR 0 42 f_X11_16 dX11_rule_39 rfl rfl rfl rfl ?_
  refine q_xVi 9 [9, 10, 2, 3, 4, 5] [0, 1, 6, 7, 8] [0, 1, 7, 8, 9, 10, 2, 3, 4, 5, 6] 45 (wr := [_, _, _, _, _]) (w1 := _) (ws' := fun _ => [_, _, _, _, _, _, _, _, _, _, _]) (c_X5_read hR hbe) m_X11_93 dX11_rule_42 rfl rfl rfl rfl rfl rfl rfl (fun _ => rfl) (by decide) (by decide) (by decide) (by decide) (Nat.le_of_ble_eq_true rfl) (by omega) (by omega) (by omega) rfl (fun z42 hx42 => ?_)
  obtain ⟨j42, co42⟩ := z42
  dsimp only at hx42 ⊢
  rw [eR] at hx42 ⊢; obtain ⟨k27a, n27a⟩ := hx27
  refine q_putI 0 48 (w' := [_, _, _, _, _, _, _, _, _, _, _]) f_X11_41 ft_X11_10 dX11_rule_45 rfl rfl rfl rfl ?_
  skip
  generalize hrr : ruR Tc e = rr9 at *
  obtain ⟨r1, r2, r3⟩ := rr9
  dsimp only at *
  have h10 : upd (upd i 9 0) 10 r1 10 = -1 := by rw [pk_us, hr]
  refine q_aload_n 0 49 dX11_rule_48 rfl rfl rfl ?_
  refine q_getI 0 52 f_X11_41 dX11_rule_49 rfl rfl rfl ?_
  refine q_iconst (-1) 53 dX11_rule_52 ic_m1 rfl ?_
  rw [h10]
  refine q_icmp_eq 66 56 dX11_rule_53 (by decide) rfl (fun h53 => ?_) (fun h53 => absurd rfl h53)
  refine q_aload_n 0 67 dX11_rule_66 rfl rfl rfl ?_
  refine q_getR 0 70 f_X11_30 dX11_rule_67 rfl rfl rfl rfl ?_
  refine q_getR 6 73 f_X11_98 dX11_rule_70 rfl rfl rfl rfl ?_
  refine q_getI 7 76 f_X11_102 dX11_rule_73 rfl rfl rfl ?_
  refine q_bipush 6 78 dX11_rule_76 bc_6 rfl ?_
  refine q_icmp_lt 91 81 dX11_rule_78 (by decide) rfl (fun h78 => absurd h78 hn) (fun h78 => ?_)
  refine q_throwS ex_UOE sr_X11_107 rfl rfl dX11_rule_81 dX11_rule_84 dX11_rule_85 dX11_rule_87 dX11_rule_90 (by omega) (by omega) (by omega) ?_
  exact pTx.mk ((_, _), (_, _, _, _), _, _) ⟨by omega, by omega⟩ rfl
theorem c_X11_rule1 {l : Launch} {g : Gh} {q tp sq st sb sn sd la ru so b0 al e num : Nat} {i si th be nu ri Tc : Sc} {af : Nat → Option Nat} {y : Option Nat} {t2 t4 t5 t6 t7 : Option Nat} {rr cd : Nat} {rj ro : Sc} {ry : Option Nat} (he : i 9 = nI e) (he4 : e ≤ 400) (hr : (ruR Tc e).1 = -1) (hl : (ruR Tc e).2.2.length < 400) (hi : ri 2 = nI num) (hn : num < 6) : Cn l g yX11_rule (Cond.code yX11_rule cX11_rule 1 (some .int)) 32 3 (42 + (ruR Tc e).2.2.length) [.ref q] [(q, ob 11 i [some tp, some sq, t2, some sd, t4, t5, t6, t7, some rr, none, none]), (tp, aB g 400 Tc), (sq, ob 7 si [some st, some sb, some sn, y, none, none, none]), (st, aI g 401 th), (sb, aI g 401 be), (sn, aI g 401 nu), (sd, ob 10 (fun _ => 0) (rD la ru so)), (ru, ob 6 ri (rQ b0 al)), (al, aR g 6 af), (rr, ob 5 rj [some cd, none, none, ry]), (cd, aI g 400 ro)] (fun _ : (Unit × (Sc × Sc × Sc × Sc) × Sc × Sc) × Nat × Nat × Nat × Sc => some (.int (nI num))) (fun x : (Unit × (Sc × Sc × Sc × Sc) × Sc × Sc) × Nat × Nat × Nat × Sc => [(q, ob 11 (upd (upd i 9 0) 10 (ruR Tc e).1) [some tp, some sq, t2, some sd, t4, t5, t6, t7, some rr, none, none]), (tp, aB g 400 Tc), (sq, ob 7 x.1.2.1.1 [some st, some sb, some sn, some tp, none, none, none]), (st, aI g 401 x.1.2.1.2.1), (sb, aI g 401 x.1.2.1.2.2.1), (sn, aI g 401 x.1.2.1.2.2.2), (sd, ob 10 (fun _ => 0) (rD la ru so)), (ru, ob 6 (upd ri 2 (nI (num + 1))) (rQ b0 al)), (al, aR g 6 (va_up af num (some x.2.1))), (rr, ob 5 x.1.2.2.1 [some cd, none, none, some sq]), (cd, aI g 400 x.1.2.2.2), (x.2.2.1, aI g (ruR Tc e).2.2.length x.2.2.2.2), (x.2.1, ob 4 (fun _ => 0) [some x.2.2.1, some x.2.2.2.1]), (x.2.2.2.1, aI g 40 (fun _ => 0))]) (fun x k n => k = 3 ∧ n = 42 + (ruR Tc e).2.2.length ∧ ∀ z, z < (ruR Tc e).2.2.length → x.2.2.2.2 z = (ruR Tc e).2.2.getD z 0) := by
  refine ct_of (M := mtX11_rule) [some (.ref q)] rfl (by decide) (Nat.le_of_ble_eq_true rfl) (fun _ h => h) (fun a => ?_)
  have eR : rdR (toks Tc e) e = ruR Tc e := rfl
  have hbe : ∀ k, k ≤ (toks Tc e).length → (tA (toks Tc e) e k).2.1 ≤ 400 := fun k _ => Nat.le_trans (toks_at Tc e k) he4
  refine q_aload_n 0 1 dX11_rule_0 rfl rfl rfl ?_
  refine q_getR 0 4 f_X11_16 dX11_rule_1 rfl rfl rfl rfl ?_
  refine q_aload_n 0 5 dX11_rule_4 rfl rfl rfl ?_
  refine q_getR 0 8 f_X11_9 dX11_rule_5 rfl rfl rfl rfl ?_
  refine q_aload_n 0 9 dX11_rule_8 rfl rfl rfl ?_
  refine q_cVi 0 [0] [1, 2, 3, 4, 5, 6, 7, 8, 9, 10] [10, 0, 1, 2, 3, 4, 5, 6, 7, 8, 9] 12 (wr := [_, _, _, _, _, _, _, _, _, _]) (w1 := _) (ws' := [_, _, _, _, _, _, _, _, _, _, _]) c_X11_useUp m_X11_52 dX11_rule_9 rfl rfl rfl rfl rfl rfl rfl rfl (by decide) (by decide) (by decide) (by decide) (Nat.le_of_ble_eq_true rfl) (by omega) (by omega) (by omega) rfl ?_
  rw [he]
  refine q_xVv 2 [2, 3, 4, 5, 1] [0, 6, 7, 8, 9, 10] [0, 10, 6, 7, 8, 9, 1, 2, 3, 4, 5] 15 (wr := [_, _, _, _, _, _]) (w1 := _) (ws' := fun _ => [_, _, _, _, _, _, _, _, _, _, _]) (c_X7_scan he4) m_X11_56 dX11_rule_12 rfl rfl rfl rfl rfl rfl rfl (fun _ => rfl) (by decide) (by decide) (by decide) (by decide) (Nat.le_of_ble_eq_true rfl) (by omega) (by omega) (by omega) rfl (fun z12 hx12 => ?_)
  obtain ⟨i12, th12, be12, nu12⟩ := z12
  dsimp only at hx12 ⊢
  skip
  obtain ⟨hR, h60⟩ := hx12
  have e6 : upd i12 6 (nI 0) = i12 := upd_self _ _ h60
  rw [← e6]
  refine q_aload_n 0 16 dX11_rule_15 rfl rfl rfl ?_
  refine q_getR 0 19 f_X11_86 dX11_rule_16 rfl rfl rfl rfl ?_
  refine q_ifnonnull 33 dX11_rule_19 (by decide) ?_
  refine q_aload_n 0 34 dX11_rule_33 rfl rfl rfl ?_
  refine q_aload_n 0 35 dX11_rule_34 rfl rfl rfl ?_
  refine q_getR 0 38 f_X11_86 dX11_rule_35 rfl rfl rfl rfl ?_
  refine q_aload_n 0 39 dX11_rule_38 rfl rfl rfl ?_
  refine q_getR 0 42 f_X11_16 dX11_rule_39 rfl rfl rfl rfl ?_
  refine q_xVi 9 [9, 10, 2, 3, 4, 5] [0, 1, 6, 7, 8] [0, 1, 7, 8, 9, 10, 2, 3, 4, 5, 6] 45 (wr := [_, _, _, _, _]) (w1 := _) (ws' := fun _ => [_, _, _, _, _, _, _, _, _, _, _]) (c_X5_read hR hbe) m_X11_93 dX11_rule_42 rfl rfl rfl rfl rfl rfl rfl (fun _ => rfl) (by decide) (by decide) (by decide) (by decide) (Nat.le_of_ble_eq_true rfl) (by omega) (by omega) (by omega) rfl (fun z42 hx42 => ?_)
  obtain ⟨j42, co42⟩ := z42
  dsimp only at hx42 ⊢
  rw [eR] at hx42 ⊢
  refine q_putI 0 48 (w' := [_, _, _, _, _, _, _, _, _, _, _]) f_X11_41 ft_X11_10 dX11_rule_45 rfl rfl rfl rfl ?_
  skip
  generalize hrr : ruR Tc e = rr9 at *
  obtain ⟨r1, r2, r3⟩ := rr9
  dsimp only at *
  have hC := hx42 hr
  have hC2 := hC.2.1
  have h10 : upd (upd i 9 0) 10 r1 10 = -1 := by rw [pk_us, hr]
  have g6 : ri 2 < 6 := by rw [hi, show (6 : Int32) = nI 6 by decide]; exact nI_lt hn (by decide)
  have hxt : ∀ z, z < r3.length → ext co42 400 r3.length z = r3.getD z 0 := fun z hz => by rw [ext_lt _ (by omega) hz]; exact hC.2.2 z hz
  refine q_aload_n 0 49 dX11_rule_48 rfl rfl rfl ?_
  refine q_getI 0 52 f_X11_41 dX11_rule_49 rfl rfl rfl ?_
  refine q_iconst (-1) 53 dX11_rule_52 ic_m1 rfl ?_
  rw [h10]
  refine q_icmp_eq 66 56 dX11_rule_53 (by decide) rfl (fun h53 => ?_) (fun h53 => absurd rfl h53)
  refine q_aload_n 0 67 dX11_rule_66 rfl rfl rfl ?_
  refine q_getR 0 70 f_X11_30 dX11_rule_67 rfl rfl rfl rfl ?_
  refine q_getR 6 73 f_X11_98 dX11_rule_70 rfl rfl rfl rfl ?_
  refine q_getI 7 76 f_X11_102 dX11_rule_73 rfl rfl rfl ?_
  refine q_bipush 6 78 dX11_rule_76 bc_6 rfl ?_
  refine q_icmp_lt 91 81 dX11_rule_78 (by decide) rfl (fun h78 => ?_) (fun h78 => absurd g6 h78)
  refine q_aload_n 0 92 dX11_rule_91 rfl rfl rfl ?_
  refine q_getR 0 95 f_X11_30 dX11_rule_92 rfl rfl rfl rfl ?_
  refine q_getR 6 98 f_X11_98 dX11_rule_95 rfl rfl rfl rfl ?_
  refine q_aload_n 0 99 dX11_rule_98 rfl rfl rfl ?_
  refine q_getR 0 102 f_X11_86 dX11_rule_99 rfl rfl rfl rfl ?_
  refine q_yVr 9 [9, 10] [0, 1, 2, 3, 4, 5, 6, 7, 8] [0, 1, 2, 3, 4, 5, 6, 7, 8, 9, 10, 11] 105 (wr := [_, _, _, _, _, _, _, _, _]) (w1 := _) (ws' := fun _ => [_, _, _, _, _, _, _, _, _, _, _, _]) (c_X5_written hC hl) m_X11_109 dX11_rule_102 rfl rfl rfl rfl rfl rfl rfl (fun _ => rfl) (by decide) (by decide) (by decide) (by decide) (Nat.le_of_ble_eq_true rfl) (by omega) (by omega) (by omega) rfl (fun cw102 k102 n102 hx102 => ?_)
  obtain ⟨ka, na⟩ := hx102
  refine q_yVi 7 [7, 8, 11] [0, 1, 2, 3, 4, 5, 6, 9, 10] [0, 1, 2, 3, 4, 5, 6, 9, 10, 7, 8, 11, 12, 13] 108 (wr := [_, _, _, _, _, _, _, _, _]) (w1 := _) (ws' := fun _ => [_, _, _, _, _, _, _, _, _, _, _, _, _, _]) (c_X6_add (num := num) hi hn) m_X11_113 dX11_rule_105 rfl rfl rfl rfl rfl rfl rfl (fun _ => rfl) (by decide) (by decide) (by decide) (by decide) (Nat.le_of_ble_eq_true rfl) (by omega) (by omega) (by omega) rfl (fun z105 k105 n105 hx105 => ?_)
  obtain ⟨x105, pi105⟩ := z105
  dsimp only at hx105 ⊢
  obtain ⟨kb, nb⟩ := hx105
  refine q_ireturn dX11_rule_108 rfl ?_
  exact pX.mk (((), (_, _, _, _), _, _), _, _, _, _) ⟨by omega, by omega, hxt⟩ rfl rfl
theorem x_X11_rule11 {l : Launch} {g : Gh} {q tp sq st sb sn sd la ru so b0 al e num : Nat} {i si th be nu ri Tc : Sc} {af : Nat → Option Nat} {y : Option Nat} {t2 t4 t5 t6 t7 : Option Nat} {rr cd : Nat} {rj ro : Sc} {ry : Option Nat} (he : i 9 = nI e) (he4 : e ≤ 400) (hr : ¬ (ruR Tc e).1 = -1) : Cy l g yX11_rule (Cond.code yX11_rule cX11_rule 1 (some .int)) 32 1 6 [.ref q] [(q, ob 11 i [some tp, some sq, t2, some sd, t4, t5, t6, t7, some rr, none, none]), (tp, aB g 400 Tc), (sq, ob 7 si [some st, some sb, some sn, y, none, none, none]), (st, aI g 401 th), (sb, aI g 401 be), (sn, aI g 401 nu), (sd, ob 10 (fun _ => 0) (rD la ru so)), (ru, ob 6 ri (rQ b0 al)), (al, aR g 6 af), (rr, ob 5 rj [some cd, none, none, ry]), (cd, aI g 400 ro)] "java/lang/IllegalArgumentException" (fun z : Unit × (Sc × Sc × Sc × Sc) × Sc × Sc => [(q, ob 11 (upd (upd i 9 0) 10 (ruR Tc e).1) [some tp, some sq, t2, some sd, t4, t5, t6, t7, some rr, none, none]), (tp, aB g 400 Tc), (sq, ob 7 z.2.1.1 [some st, some sb, some sn, some tp, none, none, none]), (st, aI g 401 z.2.1.2.1), (sb, aI g 401 z.2.1.2.2.1), (sn, aI g 401 z.2.1.2.2.2), (sd, ob 10 (fun _ => 0) (rD la ru so)), (ru, ob 6 ri (rQ b0 al)), (al, aR g 6 af), (rr, ob 5 z.2.2.1 [some cd, none, none, some sq]), (cd, aI g 400 z.2.2.2)]) (fun _ k n => k = 1 ∧ n = 6) := by
  refine ct_of (M := mtX11_rule) [some (.ref q)] rfl (by decide) (Nat.le_of_ble_eq_true rfl) (fun _ h => h) (fun a => ?_)
  have eR : rdR (toks Tc e) e = ruR Tc e := rfl
  have hbe : ∀ k, k ≤ (toks Tc e).length → (tA (toks Tc e) e k).2.1 ≤ 400 := fun k _ => Nat.le_trans (toks_at Tc e k) he4
  refine q_aload_n 0 1 dX11_rule_0 rfl rfl rfl ?_
  refine q_getR 0 4 f_X11_16 dX11_rule_1 rfl rfl rfl rfl ?_
  refine q_aload_n 0 5 dX11_rule_4 rfl rfl rfl ?_
  refine q_getR 0 8 f_X11_9 dX11_rule_5 rfl rfl rfl rfl ?_
  refine q_aload_n 0 9 dX11_rule_8 rfl rfl rfl ?_
  refine q_cVi 0 [0] [1, 2, 3, 4, 5, 6, 7, 8, 9, 10] [10, 0, 1, 2, 3, 4, 5, 6, 7, 8, 9] 12 (wr := [_, _, _, _, _, _, _, _, _, _]) (w1 := _) (ws' := [_, _, _, _, _, _, _, _, _, _, _]) c_X11_useUp m_X11_52 dX11_rule_9 rfl rfl rfl rfl rfl rfl rfl rfl (by decide) (by decide) (by decide) (by decide) (Nat.le_of_ble_eq_true rfl) (by omega) (by omega) (by omega) rfl ?_
  rw [he]
  refine q_xVv 2 [2, 3, 4, 5, 1] [0, 6, 7, 8, 9, 10] [0, 10, 6, 7, 8, 9, 1, 2, 3, 4, 5] 15 (wr := [_, _, _, _, _, _]) (w1 := _) (ws' := fun _ => [_, _, _, _, _, _, _, _, _, _, _]) (c_X7_scan he4) m_X11_56 dX11_rule_12 rfl rfl rfl rfl rfl rfl rfl (fun _ => rfl) (by decide) (by decide) (by decide) (by decide) (Nat.le_of_ble_eq_true rfl) (by omega) (by omega) (by omega) rfl (fun z12 hx12 => ?_)
  obtain ⟨i12, th12, be12, nu12⟩ := z12
  dsimp only at hx12 ⊢
  skip
  obtain ⟨hR, h60⟩ := hx12
  have e6 : upd i12 6 (nI 0) = i12 := upd_self _ _ h60
  rw [← e6]
  refine q_aload_n 0 16 dX11_rule_15 rfl rfl rfl ?_
  refine q_getR 0 19 f_X11_86 dX11_rule_16 rfl rfl rfl rfl ?_
  refine q_ifnonnull 33 dX11_rule_19 (by decide) ?_
  refine q_aload_n 0 34 dX11_rule_33 rfl rfl rfl ?_
  refine q_aload_n 0 35 dX11_rule_34 rfl rfl rfl ?_
  refine q_getR 0 38 f_X11_86 dX11_rule_35 rfl rfl rfl rfl ?_
  refine q_aload_n 0 39 dX11_rule_38 rfl rfl rfl ?_
  refine q_getR 0 42 f_X11_16 dX11_rule_39 rfl rfl rfl rfl ?_
  refine q_xVi 9 [9, 10, 2, 3, 4, 5] [0, 1, 6, 7, 8] [0, 1, 7, 8, 9, 10, 2, 3, 4, 5, 6] 45 (wr := [_, _, _, _, _]) (w1 := _) (ws' := fun _ => [_, _, _, _, _, _, _, _, _, _, _]) (c_X5_read hR hbe) m_X11_93 dX11_rule_42 rfl rfl rfl rfl rfl rfl rfl (fun _ => rfl) (by decide) (by decide) (by decide) (by decide) (Nat.le_of_ble_eq_true rfl) (by omega) (by omega) (by omega) rfl (fun z42 hx42 => ?_)
  obtain ⟨j42, co42⟩ := z42
  dsimp only at hx42 ⊢
  rw [eR] at hx42 ⊢
  refine q_putI 0 48 (w' := [_, _, _, _, _, _, _, _, _, _, _]) f_X11_41 ft_X11_10 dX11_rule_45 rfl rfl rfl rfl ?_
  skip
  generalize hrr : ruR Tc e = rr9 at *
  obtain ⟨r1, r2, r3⟩ := rr9
  dsimp only at *
  have h10 : ¬ upd (upd i 9 0) 10 r1 10 = -1 := by rw [pk_us]; exact hr
  refine q_aload_n 0 49 dX11_rule_48 rfl rfl rfl ?_
  refine q_getI 0 52 f_X11_41 dX11_rule_49 rfl rfl rfl ?_
  refine q_iconst (-1) 53 dX11_rule_52 ic_m1 rfl ?_
  refine q_icmp_eq 66 56 dX11_rule_53 (by decide) rfl (fun h53 => absurd h53 h10) (fun h53 => ?_)
  refine q_throwS ex_IAE sr_X11_96 rfl rfl dX11_rule_56 dX11_rule_59 dX11_rule_60 dX11_rule_62 dX11_rule_65 (by omega) (by omega) (by omega) ?_
  exact pTx.mk ((), (_, _, _, _), _, _) ⟨by omega, by omega⟩ rfl
theorem x_X11_rule12 {l : Launch} {g : Gh} {q tp sq st sb sn sd la ru so b0 al e num : Nat} {i si th be nu ri Tc : Sc} {af : Nat → Option Nat} {y : Option Nat} {t2 t4 t5 t6 t7 : Option Nat} {rr cd : Nat} {rj ro : Sc} {ry : Option Nat} (he : i 9 = nI e) (he4 : e ≤ 400) (hr : (ruR Tc e).1 = -1) (hn : ¬ ri 2 < 6) : Cy l g yX11_rule (Cond.code yX11_rule cX11_rule 1 (some .int)) 32 1 6 [.ref q] [(q, ob 11 i [some tp, some sq, t2, some sd, t4, t5, t6, t7, some rr, none, none]), (tp, aB g 400 Tc), (sq, ob 7 si [some st, some sb, some sn, y, none, none, none]), (st, aI g 401 th), (sb, aI g 401 be), (sn, aI g 401 nu), (sd, ob 10 (fun _ => 0) (rD la ru so)), (ru, ob 6 ri (rQ b0 al)), (al, aR g 6 af), (rr, ob 5 rj [some cd, none, none, ry]), (cd, aI g 400 ro)] "java/lang/UnsupportedOperationException" (fun z : Unit × (Sc × Sc × Sc × Sc) × Sc × Sc => [(q, ob 11 (upd (upd i 9 0) 10 (ruR Tc e).1) [some tp, some sq, t2, some sd, t4, t5, t6, t7, some rr, none, none]), (tp, aB g 400 Tc), (sq, ob 7 z.2.1.1 [some st, some sb, some sn, some tp, none, none, none]), (st, aI g 401 z.2.1.2.1), (sb, aI g 401 z.2.1.2.2.1), (sn, aI g 401 z.2.1.2.2.2), (sd, ob 10 (fun _ => 0) (rD la ru so)), (ru, ob 6 ri (rQ b0 al)), (al, aR g 6 af), (rr, ob 5 z.2.2.1 [some cd, none, none, some sq]), (cd, aI g 400 z.2.2.2)]) (fun _ k n => k = 1 ∧ n = 6) := by
  refine ct_of (M := mtX11_rule) [some (.ref q)] rfl (by decide) (Nat.le_of_ble_eq_true rfl) (fun _ h => h) (fun a => ?_)
  have eR : rdR (toks Tc e) e = ruR Tc e := rfl
  have hbe : ∀ k, k ≤ (toks Tc e).length → (tA (toks Tc e) e k).2.1 ≤ 400 := fun k _ => Nat.le_trans (toks_at Tc e k) he4
  refine q_aload_n 0 1 dX11_rule_0 rfl rfl rfl ?_
  refine q_getR 0 4 f_X11_16 dX11_rule_1 rfl rfl rfl rfl ?_
  refine q_aload_n 0 5 dX11_rule_4 rfl rfl rfl ?_
  refine q_getR 0 8 f_X11_9 dX11_rule_5 rfl rfl rfl rfl ?_
  refine q_aload_n 0 9 dX11_rule_8 rfl rfl rfl ?_
  refine q_cVi 0 [0] [1, 2, 3, 4, 5, 6, 7, 8, 9, 10] [10, 0, 1, 2, 3, 4, 5, 6, 7, 8, 9] 12 (wr := [_, _, _, _, _, _, _, _, _, _]) (w1 := _) (ws' := [_, _, _, _, _, _, _, _, _, _, _]) c_X11_useUp m_X11_52 dX11_rule_9 rfl rfl rfl rfl rfl rfl rfl rfl (by decide) (by decide) (by decide) (by decide) (Nat.le_of_ble_eq_true rfl) (by omega) (by omega) (by omega) rfl ?_
  rw [he]
  refine q_xVv 2 [2, 3, 4, 5, 1] [0, 6, 7, 8, 9, 10] [0, 10, 6, 7, 8, 9, 1, 2, 3, 4, 5] 15 (wr := [_, _, _, _, _, _]) (w1 := _) (ws' := fun _ => [_, _, _, _, _, _, _, _, _, _, _]) (c_X7_scan he4) m_X11_56 dX11_rule_12 rfl rfl rfl rfl rfl rfl rfl (fun _ => rfl) (by decide) (by decide) (by decide) (by decide) (Nat.le_of_ble_eq_true rfl) (by omega) (by omega) (by omega) rfl (fun z12 hx12 => ?_)
  obtain ⟨i12, th12, be12, nu12⟩ := z12
  dsimp only at hx12 ⊢
  skip
  obtain ⟨hR, h60⟩ := hx12
  have e6 : upd i12 6 (nI 0) = i12 := upd_self _ _ h60
  rw [← e6]
  refine q_aload_n 0 16 dX11_rule_15 rfl rfl rfl ?_
  refine q_getR 0 19 f_X11_86 dX11_rule_16 rfl rfl rfl rfl ?_
  refine q_ifnonnull 33 dX11_rule_19 (by decide) ?_
  refine q_aload_n 0 34 dX11_rule_33 rfl rfl rfl ?_
  refine q_aload_n 0 35 dX11_rule_34 rfl rfl rfl ?_
  refine q_getR 0 38 f_X11_86 dX11_rule_35 rfl rfl rfl rfl ?_
  refine q_aload_n 0 39 dX11_rule_38 rfl rfl rfl ?_
  refine q_getR 0 42 f_X11_16 dX11_rule_39 rfl rfl rfl rfl ?_
  refine q_xVi 9 [9, 10, 2, 3, 4, 5] [0, 1, 6, 7, 8] [0, 1, 7, 8, 9, 10, 2, 3, 4, 5, 6] 45 (wr := [_, _, _, _, _]) (w1 := _) (ws' := fun _ => [_, _, _, _, _, _, _, _, _, _, _]) (c_X5_read hR hbe) m_X11_93 dX11_rule_42 rfl rfl rfl rfl rfl rfl rfl (fun _ => rfl) (by decide) (by decide) (by decide) (by decide) (Nat.le_of_ble_eq_true rfl) (by omega) (by omega) (by omega) rfl (fun z42 hx42 => ?_)
  obtain ⟨j42, co42⟩ := z42
  dsimp only at hx42 ⊢
  rw [eR] at hx42 ⊢
  refine q_putI 0 48 (w' := [_, _, _, _, _, _, _, _, _, _, _]) f_X11_41 ft_X11_10 dX11_rule_45 rfl rfl rfl rfl ?_
  skip
  generalize hrr : ruR Tc e = rr9 at *
  obtain ⟨r1, r2, r3⟩ := rr9
  dsimp only at *
  have h10 : upd (upd i 9 0) 10 r1 10 = -1 := by rw [pk_us, hr]
  refine q_aload_n 0 49 dX11_rule_48 rfl rfl rfl ?_
  refine q_getI 0 52 f_X11_41 dX11_rule_49 rfl rfl rfl ?_
  refine q_iconst (-1) 53 dX11_rule_52 ic_m1 rfl ?_
  rw [h10]
  refine q_icmp_eq 66 56 dX11_rule_53 (by decide) rfl (fun h53 => ?_) (fun h53 => absurd rfl h53)
  refine q_aload_n 0 67 dX11_rule_66 rfl rfl rfl ?_
  refine q_getR 0 70 f_X11_30 dX11_rule_67 rfl rfl rfl rfl ?_
  refine q_getR 6 73 f_X11_98 dX11_rule_70 rfl rfl rfl rfl ?_
  refine q_getI 7 76 f_X11_102 dX11_rule_73 rfl rfl rfl ?_
  refine q_bipush 6 78 dX11_rule_76 bc_6 rfl ?_
  refine q_icmp_lt 91 81 dX11_rule_78 (by decide) rfl (fun h78 => absurd h78 hn) (fun h78 => ?_)
  refine q_throwS ex_UOE sr_X11_107 rfl rfl dX11_rule_81 dX11_rule_84 dX11_rule_85 dX11_rule_87 dX11_rule_90 (by omega) (by omega) (by omega) ?_
  exact pTx.mk ((), (_, _, _, _), _, _) ⟨by omega, by omega⟩ rfl

