/-! ===== ChaseCourt: look plays style score games begin stands rally bisque ===== -/
theorem nI_nn {a : Nat} (h : a < 2 ^ 31) : ¬ nI a < 0 := by
  rw [show (0 : Int32) = nI 0 by decide]
  exact nI_nlt (by omega) h
theorem nI_lt9 {a : Nat} {b : Int32} (n : Nat) (hb : b = nI n) (h : a < n) (hn : n < 2 ^ 31) : nI a < b := by rw [hb]; exact nI_lt h hn
theorem nI_nge9 {a : Nat} {b : Int32} (n : Nat) (hb : b = nI n) (h : a < n) (hn : n < 2 ^ 31) : ¬ b ≤ nI a := by rw [hb]; exact nI_ge h hn
theorem c_X11_look {l : Launch} {g : Gh} {q sd la ru so cc a0 b0 c0 : Nat} {i li cf : Sc} {t0 t1 t2 t4 t5 t6 t7 t8 : Option Nat} (ha : a0 < 4) (hb : b0 < 4) (hc : c0 < 12) : Cp l g yX11_look (Cond.code yX11_look cX11_look 4 (some .int)) 1 [.ref q, .int (nI a0), .int (nI b0), .int (nI c0)] [(q, ob 11 i [t0, t1, t2, some sd, t4, t5, t6, t7, t8, none, none]), (sd, ob 10 (fun _ => 0) (rD la ru so)), (la, ob 0 li (rL cc)), (cc, aI g 192 cf)] (some (.int (cf ((a0 * 4 + b0) * 12 + c0)))) [(q, ob 11 i [t0, t1, t2, some sd, t4, t5, t6, t7, t8, none, none]), (sd, ob 10 (fun _ => 0) (rD la ru so)), (la, ob 0 li (rL cc)), (cc, aI g 192 cf)] := by
  refine ct_of (M := mtX11_look) [some (.ref q), some (.int (nI a0)), some (.int (nI b0)), some (.int (nI c0))] rfl (by decide) (Nat.le_of_ble_eq_true rfl) (fun _ h => h) (fun a => ?_)
  have e : (nI a0 * 4 + nI b0) * 12 + nI c0 = nI ((a0 * 4 + b0) * 12 + c0) := by rw [show (4 : Int32) = nI 4 by decide, show (12 : Int32) = nI 12 by decide, pk_mul, nI_add, pk_mul, nI_add]
  have g1 := nI_nn (a := a0) (by omega)
  have g2 := nI_nn (a := b0) (by omega)
  have g3 := nI_nn (a := c0) (by omega)
  have g4 : ¬ (4 : Int32) ≤ nI a0 := nI_nge9 4 (by decide) ha (by decide)
  have g5 : nI b0 < (4 : Int32) := nI_lt9 4 (by decide) hb (by decide)
  have g6 : nI c0 < (12 : Int32) := nI_lt9 12 (by decide) hc (by decide)
  have hj : (a0 * 4 + b0) * 12 + c0 < 192 := by omega
  generalize hjx : (a0 * 4 + b0) * 12 + c0 = jj at *
  refine q_iload_n 1 1 dX11_look_0 rfl rfl rfl ?_
  refine q_if_lt 18 4 dX11_look_1 (by decide) rfl (fun h1 => absurd h1 g1) (fun h1 => ?_)
  refine q_iload_n 1 5 dX11_look_4 rfl rfl rfl ?_
  refine q_iconst 4 6 dX11_look_5 ic_4 rfl ?_
  refine q_icmp_ge 18 9 dX11_look_6 (by decide) rfl (fun h6 => absurd h6 g4) (fun h6 => ?_)
  refine q_iload_n 2 10 dX11_look_9 rfl rfl rfl ?_
  refine q_if_lt 18 13 dX11_look_10 (by decide) rfl (fun h10 => absurd h10 g2) (fun h10 => ?_)
  refine q_iload_n 2 14 dX11_look_13 rfl rfl rfl ?_
  refine q_iconst 4 15 dX11_look_14 ic_4 rfl ?_
  refine q_icmp_lt 28 18 dX11_look_15 (by decide) rfl (fun h15 => ?_) (fun h15 => absurd g5 h15)
  refine q_iload_n 3 29 dX11_look_28 rfl rfl rfl ?_
  refine q_bipush 12 31 dX11_look_29 bc_12 rfl ?_
  refine q_cSv [] [0, 1, 2, 3] [0, 1, 2, 3] 34 (wr := [_, _, _, _]) (w1 := _) (ws' := [_, _, _, _]) (c_X11_needWhat g3 g6) m_X11_122 dX11_look_31 rfl rfl rfl rfl rfl (by decide) (by decide) (by decide) (by decide) (Nat.le_of_ble_eq_true rfl) (by omega) (by omega) (by omega) rfl ?_
  refine q_aload_n 0 35 dX11_look_34 rfl rfl rfl ?_
  refine q_getR 0 38 f_X11_30 dX11_look_35 rfl rfl rfl rfl ?_
  refine q_getR 1 41 f_X11_60 dX11_look_38 rfl rfl rfl rfl ?_
  refine q_getR 2 44 f_X11_126 dX11_look_41 rfl rfl rfl rfl ?_
  refine q_iload_n 1 45 dX11_look_44 rfl rfl rfl ?_
  refine q_iconst 4 46 dX11_look_45 ic_4 rfl ?_
  refine q_imul 47 dX11_look_46 rfl ?_
  refine q_iload_n 2 48 dX11_look_47 rfl rfl rfl ?_
  refine q_iadd 49 dX11_look_48 rfl ?_
  refine q_bipush 12 51 dX11_look_49 bc_12 rfl ?_
  refine q_imul 52 dX11_look_51 rfl ?_
  refine q_iload_n 3 53 dX11_look_52 rfl rfl rfl ?_
  refine q_iadd 54 dX11_look_53 rfl ?_
  refine q_iald 3 jj 55 dX11_look_54 rfl ⟨e, by omega, by decide⟩ rfl ?_
  refine q_ireturn dX11_look_55 rfl ?_
  exact pR.rf
theorem x_X11_look1 {l : Launch} {g : Gh} {q : Nat} {x y z : Int32} (h : x < 0 ∨ 4 ≤ x ∨ y < 0 ∨ ¬ y < 4) : Cx l g yX11_look (Cond.code yX11_look cX11_look 4 (some .int)) 6 [.ref q, .int x, .int y, .int z] [] "java/lang/IndexOutOfBoundsException" [] := by
  refine ct_of (M := mtX11_look) [some (.ref q), some (.int x), some (.int y), some (.int z)] rfl (by decide) (Nat.le_of_ble_eq_true rfl) (fun _ h => h) (fun a => ?_)
  by_cases ha : x < 0
  · skip
    refine q_iload_n 1 1 dX11_look_0 rfl rfl rfl ?_
    refine q_if_lt 18 4 dX11_look_1 (by decide) rfl (fun h1 => ?_) (fun h1 => absurd ha h1)
    refine q_throwS ex_IOB sr_X11_119 rfl rfl dX11_look_18 dX11_look_21 dX11_look_22 dX11_look_24 dX11_look_27 (by omega) (by omega) (by omega) ?_
    exact pT.rf
  · by_cases hb : 4 ≤ x
    · skip
      refine q_iload_n 1 1 dX11_look_0 rfl rfl rfl ?_
      refine q_if_lt 18 4 dX11_look_1 (by decide) rfl (fun h1 => absurd h1 ha) (fun h1 => ?_)
      refine q_iload_n 1 5 dX11_look_4 rfl rfl rfl ?_
      refine q_iconst 4 6 dX11_look_5 ic_4 rfl ?_
      refine q_icmp_ge 18 9 dX11_look_6 (by decide) rfl (fun h6 => ?_) (fun h6 => absurd hb h6)
      refine q_throwS ex_IOB sr_X11_119 rfl rfl dX11_look_18 dX11_look_21 dX11_look_22 dX11_look_24 dX11_look_27 (by omega) (by omega) (by omega) ?_
      exact pT.rf
    · by_cases hc : y < 0
      · skip
        refine q_iload_n 1 1 dX11_look_0 rfl rfl rfl ?_
        refine q_if_lt 18 4 dX11_look_1 (by decide) rfl (fun h1 => absurd h1 ha) (fun h1 => ?_)
        refine q_iload_n 1 5 dX11_look_4 rfl rfl rfl ?_
        refine q_iconst 4 6 dX11_look_5 ic_4 rfl ?_
        refine q_icmp_ge 18 9 dX11_look_6 (by decide) rfl (fun h6 => absurd h6 hb) (fun h6 => ?_)
        refine q_iload_n 2 10 dX11_look_9 rfl rfl rfl ?_
        refine q_if_lt 18 13 dX11_look_10 (by decide) rfl (fun h10 => ?_) (fun h10 => absurd hc h10)
        refine q_throwS ex_IOB sr_X11_119 rfl rfl dX11_look_18 dX11_look_21 dX11_look_22 dX11_look_24 dX11_look_27 (by omega) (by omega) (by omega) ?_
        exact pT.rf
      · have hd : ¬ y < 4 := ((h.resolve_left ha).resolve_left hb).resolve_left hc
        refine q_iload_n 1 1 dX11_look_0 rfl rfl rfl ?_
        refine q_if_lt 18 4 dX11_look_1 (by decide) rfl (fun h1 => absurd h1 ha) (fun h1 => ?_)
        refine q_iload_n 1 5 dX11_look_4 rfl rfl rfl ?_
        refine q_iconst 4 6 dX11_look_5 ic_4 rfl ?_
        refine q_icmp_ge 18 9 dX11_look_6 (by decide) rfl (fun h6 => absurd h6 hb) (fun h6 => ?_)
        refine q_iload_n 2 10 dX11_look_9 rfl rfl rfl ?_
        refine q_if_lt 18 13 dX11_look_10 (by decide) rfl (fun h10 => absurd h10 hc) (fun h10 => ?_)
        refine q_iload_n 2 14 dX11_look_13 rfl rfl rfl ?_
        refine q_iconst 4 15 dX11_look_14 ic_4 rfl ?_
        refine q_icmp_lt 28 18 dX11_look_15 (by decide) rfl (fun h15 => absurd h15 hd) (fun h15 => ?_)
        refine q_throwS ex_IOB sr_X11_119 rfl rfl dX11_look_18 dX11_look_21 dX11_look_22 dX11_look_24 dX11_look_27 (by omega) (by omega) (by omega) ?_
        exact pT.rf
theorem x_X11_look2 {l : Launch} {g : Gh} {q : Nat} {x y z : Int32} (ha : ¬ x < 0) (hb : ¬ 4 ≤ x) (hc : ¬ y < 0) (hd : y < 4) (h : z < 0 ∨ ¬ z < 12) : Cx l g yX11_look (Cond.code yX11_look cX11_look 4 (some .int)) 7 [.ref q, .int x, .int y, .int z] [] "java/util/NoSuchElementException" [] := by
  refine ct_of (M := mtX11_look) [some (.ref q), some (.int x), some (.int y), some (.int z)] rfl (by decide) (Nat.le_of_ble_eq_true rfl) (fun _ h => h) (fun a => ?_)
  refine q_iload_n 1 1 dX11_look_0 rfl rfl rfl ?_
  refine q_if_lt 18 4 dX11_look_1 (by decide) rfl (fun h1 => absurd h1 ha) (fun h1 => ?_)
  refine q_iload_n 1 5 dX11_look_4 rfl rfl rfl ?_
  refine q_iconst 4 6 dX11_look_5 ic_4 rfl ?_
  refine q_icmp_ge 18 9 dX11_look_6 (by decide) rfl (fun h6 => absurd h6 hb) (fun h6 => ?_)
  refine q_iload_n 2 10 dX11_look_9 rfl rfl rfl ?_
  refine q_if_lt 18 13 dX11_look_10 (by decide) rfl (fun h10 => absurd h10 hc) (fun h10 => ?_)
  refine q_iload_n 2 14 dX11_look_13 rfl rfl rfl ?_
  refine q_iconst 4 15 dX11_look_14 ic_4 rfl ?_
  refine q_icmp_lt 28 18 dX11_look_15 (by decide) rfl (fun h15 => ?_) (fun h15 => absurd hd h15)
  refine q_iload_n 3 29 dX11_look_28 rfl rfl rfl ?_
  refine q_bipush 12 31 dX11_look_29 bc_12 rfl ?_
  refine q_xS [] [] (wr := []) (w1 := _) (x_X11_needWhat h) m_X11_122 dX11_look_31 rfl rfl rfl rfl (by decide) (by decide) (by decide) (Nat.le_of_ble_eq_true rfl) (by omega) (by omega) (by omega) rfl ?_
  exact pT.rf
theorem c_X11_plays {l : Launch} {g : Gh} {q sd la ru so b0 al p : Nat} {i ri bf : Sc} {r : Int32} {t0 t1 t2 t4 t5 t6 t7 t8 : Option Nat} (hp : p ≤ 1) (ha : ¬ r < -1) (hb : r < ri 2) : Cp l g yX11_plays (Cond.code yX11_plays cX11_plays 4 (some .int)) 1 [.ref q, .int (nI p), .int r] [(q, ob 11 i [t0, t1, t2, some sd, t4, t5, t6, t7, t8, none, none]), (sd, ob 10 (fun _ => 0) (rD la ru so)), (ru, ob 6 ri (rQ b0 al)), (b0, aI g 2 bf)] (some (.int (bf p))) [(q, ob 11 i [t0, t1, t2, some sd, t4, t5, t6, t7, t8, none, none]), (sd, ob 10 (fun _ => 0) (rD la ru so)), (ru, ob 6 ri (rQ b0 al)), (b0, aI g 2 (upd bf p r))] := by
  refine ct_of (M := mtX11_plays) [some (.ref q), some (.int (nI p)), some (.int r), none] rfl (by decide) (Nat.le_of_ble_eq_true rfl) (fun _ h => h) (fun a => ?_)
  have g1 : nI p = 0 ∨ nI p = 1 := by
    obtain rfl | rfl : p = 0 ∨ p = 1 := by omega
    · exact Or.inl (by decide)
    · exact Or.inr (by decide)
  refine q_iload_n 1 1 dX11_plays_0 rfl rfl rfl ?_
  refine q_cSv [] [0, 1, 2, 3] [0, 1, 2, 3] 4 (wr := [_, _, _, _]) (w1 := _) (ws' := [_, _, _, _]) (c_X11_needPlayer g1) m_X11_130 dX11_plays_1 rfl rfl rfl rfl rfl (by decide) (by decide) (by decide) (by decide) (Nat.le_of_ble_eq_true rfl) (by omega) (by omega) (by omega) rfl ?_
  refine q_iload_n 2 5 dX11_plays_4 rfl rfl rfl ?_
  refine q_iconst (-1) 6 dX11_plays_5 ic_m1 rfl ?_
  refine q_icmp_lt 23 9 dX11_plays_6 (by decide) rfl (fun h6 => absurd h6 ha) (fun h6 => ?_)
  refine q_iload_n 2 10 dX11_plays_9 rfl rfl rfl ?_
  refine q_aload_n 0 11 dX11_plays_10 rfl rfl rfl ?_
  refine q_getR 0 14 f_X11_30 dX11_plays_11 rfl rfl rfl rfl ?_
  refine q_getR 1 17 f_X11_98 dX11_plays_14 rfl rfl rfl rfl ?_
  refine q_getI 2 20 f_X11_102 dX11_plays_17 rfl rfl rfl ?_
  refine q_icmp_lt 33 23 dX11_plays_20 (by decide) rfl (fun h20 => ?_) (fun h20 => absurd hb h20)
  refine q_aload_n 0 34 dX11_plays_33 rfl rfl rfl ?_
  refine q_getR 0 37 f_X11_30 dX11_plays_34 rfl rfl rfl rfl ?_
  refine q_getR 1 40 f_X11_98 dX11_plays_37 rfl rfl rfl rfl ?_
  refine q_getR 2 43 f_X11_135 dX11_plays_40 rfl rfl rfl rfl ?_
  refine q_iload_n 1 44 dX11_plays_43 rfl rfl rfl ?_
  refine q_iald 3 p 45 dX11_plays_44 rfl ⟨rfl, by omega, by decide⟩ rfl ?_
  refine q_istore_n 3 46 (L' := [_, _, _, _]) dX11_plays_45 rfl (by decide) rfl rfl ?_
  refine q_aload_n 0 47 dX11_plays_46 rfl rfl rfl ?_
  refine q_getR 0 50 f_X11_30 dX11_plays_47 rfl rfl rfl rfl ?_
  refine q_getR 1 53 f_X11_98 dX11_plays_50 rfl rfl rfl rfl ?_
  refine q_getR 2 56 f_X11_135 dX11_plays_53 rfl rfl rfl rfl ?_
  refine q_iload_n 1 57 dX11_plays_56 rfl rfl rfl ?_
  refine q_iload_n 2 58 dX11_plays_57 rfl rfl rfl ?_
  refine q_iast 3 p 59 (w' := [_, _, _, _]) dX11_plays_58 rfl ⟨rfl, by omega, by decide⟩ rfl rfl ?_
  refine q_iload_n 3 60 dX11_plays_59 rfl rfl rfl ?_
  refine q_ireturn dX11_plays_60 rfl ?_
  exact pR.rf
theorem x_X11_plays1 {l : Launch} {g : Gh} {q : Nat} {p r : Int32} (ha : ¬ p = 0) (hb : ¬ p = 1) : Cx l g yX11_plays (Cond.code yX11_plays cX11_plays 4 (some .int)) 7 [.ref q, .int p, .int r] [] "java/lang/IndexOutOfBoundsException" [] := by
  refine ct_of (M := mtX11_plays) [some (.ref q), some (.int p), some (.int r), none] rfl (by decide) (Nat.le_of_ble_eq_true rfl) (fun _ h => h) (fun a => ?_)
  refine q_iload_n 1 1 dX11_plays_0 rfl rfl rfl ?_
  refine q_xS [] [] (wr := []) (w1 := _) (x_X11_needPlayer ha hb) m_X11_130 dX11_plays_1 rfl rfl rfl rfl (by decide) (by decide) (by decide) (Nat.le_of_ble_eq_true rfl) (by omega) (by omega) (by omega) rfl ?_
  exact pT.rf
theorem x_X11_plays2 {l : Launch} {g : Gh} {q sd la ru so b0 al : Nat} {i ri : Sc} {p r : Int32} {t0 t1 t2 t4 t5 t6 t7 t8 : Option Nat} (hp : p = 0 ∨ p = 1) (h : r < -1 ∨ ¬ r < ri 2) : Cx l g yX11_plays (Cond.code yX11_plays cX11_plays 4 (some .int)) 6 [.ref q, .int p, .int r] [(q, ob 11 i [t0, t1, t2, some sd, t4, t5, t6, t7, t8, none, none]), (sd, ob 10 (fun _ => 0) (rD la ru so)), (ru, ob 6 ri (rQ b0 al))] "java/lang/IndexOutOfBoundsException" [(q, ob 11 i [t0, t1, t2, some sd, t4, t5, t6, t7, t8, none, none]), (sd, ob 10 (fun _ => 0) (rD la ru so)), (ru, ob 6 ri (rQ b0 al))] := by
  refine ct_of (M := mtX11_plays) [some (.ref q), some (.int p), some (.int r), none] rfl (by decide) (Nat.le_of_ble_eq_true rfl) (fun _ h => h) (fun a => ?_)
  by_cases ha : r < -1
  · skip
    refine q_iload_n 1 1 dX11_plays_0 rfl rfl rfl ?_
    refine q_cSv [] [0, 1, 2] [0, 1, 2] 4 (wr := [_, _, _]) (w1 := _) (ws' := [_, _, _]) (c_X11_needPlayer hp) m_X11_130 dX11_plays_1 rfl rfl rfl rfl rfl (by decide) (by decide) (by decide) (by decide) (Nat.le_of_ble_eq_true rfl) (by omega) (by omega) (by omega) rfl ?_
    refine q_iload_n 2 5 dX11_plays_4 rfl rfl rfl ?_
    refine q_iconst (-1) 6 dX11_plays_5 ic_m1 rfl ?_
    refine q_icmp_lt 23 9 dX11_plays_6 (by decide) rfl (fun h6 => ?_) (fun h6 => absurd ha h6)
    refine q_throwS ex_IOB sr_X11_133 rfl rfl dX11_plays_23 dX11_plays_26 dX11_plays_27 dX11_plays_29 dX11_plays_32 (by omega) (by omega) (by omega) ?_
    exact pT.rf
  · have hb := h.resolve_left ha
    refine q_iload_n 1 1 dX11_plays_0 rfl rfl rfl ?_
    refine q_cSv [] [0, 1, 2] [0, 1, 2] 4 (wr := [_, _, _]) (w1 := _) (ws' := [_, _, _]) (c_X11_needPlayer hp) m_X11_130 dX11_plays_1 rfl rfl rfl rfl rfl (by decide) (by decide) (by decide) (by decide) (Nat.le_of_ble_eq_true rfl) (by omega) (by omega) (by omega) rfl ?_
    refine q_iload_n 2 5 dX11_plays_4 rfl rfl rfl ?_
    refine q_iconst (-1) 6 dX11_plays_5 ic_m1 rfl ?_
    refine q_icmp_lt 23 9 dX11_plays_6 (by decide) rfl (fun h6 => absurd h6 ha) (fun h6 => ?_)
    refine q_iload_n 2 10 dX11_plays_9 rfl rfl rfl ?_
    refine q_aload_n 0 11 dX11_plays_10 rfl rfl rfl ?_
    refine q_getR 0 14 f_X11_30 dX11_plays_11 rfl rfl rfl rfl ?_
    refine q_getR 1 17 f_X11_98 dX11_plays_14 rfl rfl rfl rfl ?_
    refine q_getI 2 20 f_X11_102 dX11_plays_17 rfl rfl rfl ?_
    refine q_icmp_lt 33 23 dX11_plays_20 (by decide) rfl (fun h20 => absurd h20 hb) (fun h20 => ?_)
    refine q_throwS ex_IOB sr_X11_133 rfl rfl dX11_plays_23 dX11_plays_26 dX11_plays_27 dX11_plays_29 dX11_plays_32 (by omega) (by omega) (by omega) ?_
    exact pT.rf
theorem c_X11_style {l : Launch} {g : Gh} {q sd la ru so b0 al num p : Nat} {i ri bf sc : Sc} {af : Nat → Option Nat} {P : List RuR} {Rl : Nat → RLs} {t0 t1 t2 t4 t5 t6 t7 t8 : Option Nat} (hi : ri 2 = nI num) (hO : RsO num bf af P Rl) (hp : p ≤ 1) : Ce l g yX11_style (Cond.code yX11_style cX11_style 2 (some .int)) 5 [.ref q, .int (nI p)] ([(q, ob 11 i [t0, t1, t2, some sd, t4, t5, t6, t7, t8, none, none]), (sd, ob 10 (fun _ => 0) (rD la ru so)), (ru, ob 6 ri (rQ b0 al)), (b0, aI g 2 bf), (al, aR g 6 af), (so, ob 8 sc [])] ++ plW g P) (fun _ : List RuR => some (.int (rsV bf Rl sc p))) (fun Q : List RuR => ([(q, ob 11 i [t0, t1, t2, some sd, t4, t5, t6, t7, t8, none, none]), (sd, ob 10 (fun _ => 0) (rD la ru so)), (ru, ob 6 ri (rQ b0 al)), (b0, aI g 2 bf), (al, aR g 6 af), (so, ob 8 sc [])] ++ plW g Q)) (fun Q : List RuR => SaP P Q) := by
  refine ct_of (M := mtX11_style) [some (.ref q), some (.int (nI p))] rfl (by decide) (Nat.le_of_ble_eq_true rfl) (fun _ h => h) (fun a => ?_)
  have g1 : nI p = 0 ∨ nI p = 1 := by
    obtain rfl | rfl : p = 0 ∨ p = 1 := by omega
    · exact Or.inl (by decide)
    · exact Or.inr (by decide)
  refine q_iload_n 1 1 dX11_style_0 rfl rfl rfl ?_
  refine q_tcSv [] [0, 1, 2, 3, 4, 5] [0, 1, 2, 3, 4, 5] 4 (wr := [_, _, _, _, _, _]) (w1 := _) (ws' := [_, _, _, _, _, _]) (c_X11_needPlayer g1) m_X11_130 dX11_style_1 rfl rfl rfl rfl rfl (by decide) (by decide) (by decide) (by decide) (Nat.le_of_ble_eq_true rfl) (by omega) (by omega) (by omega) rfl ?_
  refine q_aload_n 0 5 dX11_style_4 rfl rfl rfl ?_
  refine q_getR 0 8 f_X11_30 dX11_style_5 rfl rfl rfl rfl ?_
  refine q_getR 1 11 f_X11_98 dX11_style_8 rfl rfl rfl rfl ?_
  refine q_iload_n 1 12 dX11_style_11 rfl rfl rfl ?_
  refine q_aload_n 0 13 dX11_style_12 rfl rfl rfl ?_
  refine q_getR 0 16 f_X11_30 dX11_style_13 rfl rfl rfl rfl ?_
  refine q_getR 1 19 f_X11_138 dX11_style_16 rfl rfl rfl rfl ?_
  refine q_uxVi 2 [2, 3, 4, 5] [0, 1] [0, 1, 2, 3, 4, 5] 22 (wr := [_, _]) (w1 := _) (ws' := fun _ => [_, _, _, _, _, _]) (c_X6_styleOf (num := num) (Rl := Rl) hi hO hp) m_X11_141 dX11_style_19 rfl rfl rfl rfl rfl rfl rfl (fun _ => rfl) (by decide) (by decide) (by decide) (by decide) (Nat.le_of_ble_eq_true rfl) (by omega) (by omega) (by omega) rfl (fun Q19 hx19 => ?_)
  refine q_ireturn dX11_style_22 rfl ?_
  exact pE.mk Q19 hx19 rfl rfl
theorem x_X11_style {l : Launch} {g : Gh} {q : Nat} {p : Int32} (ha : ¬ p = 0) (hb : ¬ p = 1) : Cx l g yX11_style (Cond.code yX11_style cX11_style 2 (some .int)) 7 [.ref q, .int p] [] "java/lang/IndexOutOfBoundsException" [] := by
  refine ct_of (M := mtX11_style) [some (.ref q), some (.int p)] rfl (by decide) (Nat.le_of_ble_eq_true rfl) (fun _ h => h) (fun a => ?_)
  refine q_iload_n 1 1 dX11_style_0 rfl rfl rfl ?_
  refine q_xS [] [] (wr := []) (w1 := _) (x_X11_needPlayer ha hb) m_X11_130 dX11_style_1 rfl rfl rfl rfl (by decide) (by decide) (by decide) (Nat.le_of_ble_eq_true rfl) (by omega) (by omega) (by omega) rfl ?_
  exact pT.rf
abbrev scU (x y : Int32) : Prop := ¬ x < -3 ∧ ¬ 3 < x ∧ ¬ y < -3 ∧ ¬ 3 < y
abbrev scA (x y : Int32) : Prop := x = 4 ∧ y = 3 ∨ x = 3 ∧ y = 4
theorem sc_w1 {l : Launch} {g : Gh} {rc rs d : Nat} {post : Pst} {px : Pxc} {a : Act} {x y z : Int32} {q : Nat} {ws : va_W} (K : ∀ u v : Int32, ((u = 1 ∧ scU x y) ∨ (u = 0 ∧ ¬ scU x y)) → ((v = 1 ∧ scA x y) ∨ (v = 0 ∧ ¬ scA x y)) → WPs l g mtX11_score d rc rs post px a 60 [some (.ref q), some (.int x), some (.int y), some (.int z), some (.int u), some (.int v)] [] ws 0 0) : WPs l g mtX11_score d rc rs post px a 4 [some (.ref q), some (.int x), some (.int y), some (.int z), none, none] [] ws 0 0 := by
  have K33 : ∀ u : Int32, ((u = 1 ∧ scU x y) ∨ (u = 0 ∧ ¬ scU x y)) → WPs l g mtX11_score d rc rs post px a 33 [some (.ref q), some (.int x), some (.int y), some (.int z), some (.int u), none] [] ws 0 0 := by
    intro u hu
    have k1 := fun h => K u 1 hu (Or.inl ⟨rfl, h⟩)
    have k0 := fun h => K u 0 hu (Or.inr ⟨rfl, h⟩)
    clear K
    refine q_iload_n 1 34 dX11_score_33 rfl rfl rfl ?_
    refine q_iconst 4 35 dX11_score_34 ic_4 rfl ?_
    refine q_icmp_ne 43 38 dX11_score_35 (by decide) rfl (fun h35 => ?_) (fun h35 => ?_)
    · refine q_iload_n 1 44 dX11_score_43 rfl rfl rfl ?_
      refine q_iconst 3 45 dX11_score_44 ic_3 rfl ?_
      refine q_icmp_ne 57 48 dX11_score_45 (by decide) rfl (fun h45 => ?_) (fun h45 => ?_)
      · refine q_iconst 0 58 dX11_score_57 ic_0 rfl ?_
        refine q_istore 5 60 (L' := [_, _, _, _, _, _]) dX11_score_58 (by decide) rfl rfl ?_
        first | (refine k1 ?_; clear k1 k0; simp_all [scA, scU]; done) | (refine k0 ?_; clear k1 k0; simp_all [scA, scU]; done)
      · refine q_iload_n 2 49 dX11_score_48 rfl rfl rfl ?_
        refine q_iconst 4 50 dX11_score_49 ic_4 rfl ?_
        refine q_icmp_ne 57 53 dX11_score_50 (by decide) rfl (fun h50 => ?_) (fun h50 => ?_)
        · refine q_iconst 0 58 dX11_score_57 ic_0 rfl ?_
          refine q_istore 5 60 (L' := [_, _, _, _, _, _]) dX11_score_58 (by decide) rfl rfl ?_
          first | (refine k1 ?_; clear k1 k0; simp_all [scA, scU]; done) | (refine k0 ?_; clear k1 k0; simp_all [scA, scU]; done)
        · refine q_iconst 1 54 dX11_score_53 ic_1 rfl ?_
          refine q_goto 58 dX11_score_54 (by decide) ?_
          refine q_istore 5 60 (L' := [_, _, _, _, _, _]) dX11_score_58 (by decide) rfl rfl ?_
          first | (refine k1 ?_; clear k1 k0; simp_all [scA, scU]; done) | (refine k0 ?_; clear k1 k0; simp_all [scA, scU]; done)
    · refine q_iload_n 2 39 dX11_score_38 rfl rfl rfl ?_
      refine q_iconst 3 40 dX11_score_39 ic_3 rfl ?_
      refine q_icmp_eq 53 43 dX11_score_40 (by decide) rfl (fun h40 => ?_) (fun h40 => ?_)
      · refine q_iconst 1 54 dX11_score_53 ic_1 rfl ?_
        refine q_goto 58 dX11_score_54 (by decide) ?_
        refine q_istore 5 60 (L' := [_, _, _, _, _, _]) dX11_score_58 (by decide) rfl rfl ?_
        first | (refine k1 ?_; clear k1 k0; simp_all [scA, scU]; done) | (refine k0 ?_; clear k1 k0; simp_all [scA, scU]; done)
      · refine q_iload_n 1 44 dX11_score_43 rfl rfl rfl ?_
        refine q_iconst 3 45 dX11_score_44 ic_3 rfl ?_
        refine q_icmp_ne 57 48 dX11_score_45 (by decide) rfl (fun h45 => ?_) (fun h45 => ?_)
        · refine q_iconst 0 58 dX11_score_57 ic_0 rfl ?_
          refine q_istore 5 60 (L' := [_, _, _, _, _, _]) dX11_score_58 (by decide) rfl rfl ?_
          first | (refine k1 ?_; clear k1 k0; simp_all [scA, scU]; done) | (refine k0 ?_; clear k1 k0; simp_all [scA, scU]; done)
        · refine q_iload_n 2 49 dX11_score_48 rfl rfl rfl ?_
          refine q_iconst 4 50 dX11_score_49 ic_4 rfl ?_
          refine q_icmp_ne 57 53 dX11_score_50 (by decide) rfl (fun h50 => ?_) (fun h50 => ?_)
          · refine q_iconst 0 58 dX11_score_57 ic_0 rfl ?_
            refine q_istore 5 60 (L' := [_, _, _, _, _, _]) dX11_score_58 (by decide) rfl rfl ?_
            first | (refine k1 ?_; clear k1 k0; simp_all [scA, scU]; done) | (refine k0 ?_; clear k1 k0; simp_all [scA, scU]; done)
          · refine q_iconst 1 54 dX11_score_53 ic_1 rfl ?_
            refine q_goto 58 dX11_score_54 (by decide) ?_
            refine q_istore 5 60 (L' := [_, _, _, _, _, _]) dX11_score_58 (by decide) rfl rfl ?_
            first | (refine k1 ?_; clear k1 k0; simp_all [scA, scU]; done) | (refine k0 ?_; clear k1 k0; simp_all [scA, scU]; done)
  have k1 := fun h => K33 1 (Or.inl ⟨rfl, h⟩)
  have k0 := fun h => K33 0 (Or.inr ⟨rfl, h⟩)
  clear K K33
  refine q_iload_n 1 5 dX11_score_4 rfl rfl rfl ?_
  refine q_bipush (-3) 7 dX11_score_5 bc_m3 rfl ?_
  refine q_icmp_lt 30 10 dX11_score_7 (by decide) rfl (fun h7 => ?_) (fun h7 => ?_)
  · refine q_iconst 0 31 dX11_score_30 ic_0 rfl ?_
    refine q_istore 4 33 (L' := [_, _, _, _, _, _]) dX11_score_31 (by decide) rfl rfl ?_
    first | (refine k1 ?_; clear k1 k0; simp_all [scA, scU]; done) | (refine k0 ?_; clear k1 k0; simp_all [scA, scU]; done)
  · refine q_iload_n 1 11 dX11_score_10 rfl rfl rfl ?_
    refine q_iconst 3 12 dX11_score_11 ic_3 rfl ?_
    refine q_icmp_gt 30 15 dX11_score_12 (by decide) rfl (fun h12 => ?_) (fun h12 => ?_)
    · refine q_iconst 0 31 dX11_score_30 ic_0 rfl ?_
      refine q_istore 4 33 (L' := [_, _, _, _, _, _]) dX11_score_31 (by decide) rfl rfl ?_
      first | (refine k1 ?_; clear k1 k0; simp_all [scA, scU]; done) | (refine k0 ?_; clear k1 k0; simp_all [scA, scU]; done)
    · refine q_iload_n 2 16 dX11_score_15 rfl rfl rfl ?_
      refine q_bipush (-3) 18 dX11_score_16 bc_m3 rfl ?_
      refine q_icmp_lt 30 21 dX11_score_18 (by decide) rfl (fun h18 => ?_) (fun h18 => ?_)
      · refine q_iconst 0 31 dX11_score_30 ic_0 rfl ?_
        refine q_istore 4 33 (L' := [_, _, _, _, _, _]) dX11_score_31 (by decide) rfl rfl ?_
        first | (refine k1 ?_; clear k1 k0; simp_all [scA, scU]; done) | (refine k0 ?_; clear k1 k0; simp_all [scA, scU]; done)
      · refine q_iload_n 2 22 dX11_score_21 rfl rfl rfl ?_
        refine q_iconst 3 23 dX11_score_22 ic_3 rfl ?_
        refine q_icmp_gt 30 26 dX11_score_23 (by decide) rfl (fun h23 => ?_) (fun h23 => ?_)
        · refine q_iconst 0 31 dX11_score_30 ic_0 rfl ?_
          refine q_istore 4 33 (L' := [_, _, _, _, _, _]) dX11_score_31 (by decide) rfl rfl ?_
          first | (refine k1 ?_; clear k1 k0; simp_all [scA, scU]; done) | (refine k0 ?_; clear k1 k0; simp_all [scA, scU]; done)
        · refine q_iconst 1 27 dX11_score_26 ic_1 rfl ?_
          refine q_goto 31 dX11_score_27 (by decide) ?_
          refine q_istore 4 33 (L' := [_, _, _, _, _, _]) dX11_score_31 (by decide) rfl rfl ?_
          first | (refine k1 ?_; clear k1 k0; simp_all [scA, scU]; done) | (refine k0 ?_; clear k1 k0; simp_all [scA, scU]; done)
theorem c_X11_score {l : Launch} {g : Gh} {q sd la ru so : Nat} {i s : Sc} {x y z : Int32} {t0 t1 t2 t4 t5 t6 t7 t8 : Option Nat} (hz : z = 0 ∨ z = 1) (h : scU x y ∨ scA x y) : Cp l g yX11_score (Cond.code yX11_score cX11_score 6 none) 2 [.ref q, .int x, .int y, .int z] [(q, ob 11 i [t0, t1, t2, some sd, t4, t5, t6, t7, t8, none, none]), (sd, ob 10 (fun _ => 0) (rD la ru so)), (so, ob 8 s [])] none [(q, ob 11 i [t0, t1, t2, some sd, t4, t5, t6, t7, t8, none, none]), (sd, ob 10 (fun _ => 0) (rD la ru so)), (so, ob 8 (sRestart s x y z) [])] := by
  refine ct_of (M := mtX11_score) [some (.ref q), some (.int x), some (.int y), some (.int z), none, none] rfl (by decide) (Nat.le_of_ble_eq_true rfl) (fun _ h => h) (fun a => ?_)
  refine q_iload_n 3 1 dX11_score_0 rfl rfl rfl ?_
  refine q_cSv [] [0, 1, 2] [0, 1, 2] 4 (wr := [_, _, _]) (w1 := _) (ws' := [_, _, _]) (c_X11_needPlayer hz) m_X11_130 dX11_score_1 rfl rfl rfl rfl rfl (by decide) (by decide) (by decide) (by decide) (Nat.le_of_ble_eq_true rfl) (by omega) (by omega) (by omega) rfl ?_
  refine sc_w1 fun u v hu hv => ?_
  by_cases hu0 : u = 0
  · have hv0 : ¬ v = 0 := by
      rcases hv with ⟨rfl, _⟩ | ⟨_, hv⟩
      · decide
      · rcases hu with ⟨rfl, _⟩ | ⟨_, hu⟩
        · exact absurd hu0 (by decide)
        · exact absurd h (by simp [hu, hv])
    refine q_iload 4 62 dX11_score_60 rfl rfl ?_
    refine q_if_ne 80 65 dX11_score_62 (by decide) rfl (fun h62 => absurd hu0 h62) (fun h62 => ?_)
    refine q_iload 5 67 dX11_score_65 rfl rfl ?_
    refine q_if_ne 80 70 dX11_score_67 (by decide) rfl (fun h67 => ?_) (fun h67 => absurd h67 hv0)
    refine q_aload_n 0 81 dX11_score_80 rfl rfl rfl ?_
    refine q_getR 0 84 f_X11_30 dX11_score_81 rfl rfl rfl rfl ?_
    refine q_getR 1 87 f_X11_138 dX11_score_84 rfl rfl rfl rfl ?_
    refine q_iload_n 1 88 dX11_score_87 rfl rfl rfl ?_
    refine q_iload_n 2 89 dX11_score_88 rfl rfl rfl ?_
    refine q_iload_n 3 90 dX11_score_89 rfl rfl rfl ?_
    refine q_cVv 2 [2] [0, 1] [0, 1, 2] 93 (wr := [_, _]) (w1 := _) (ws' := [_, _, _]) c_X8_restart m_X11_147 dX11_score_90 rfl rfl rfl rfl rfl rfl rfl rfl (by decide) (by decide) (by decide) (by decide) (Nat.le_of_ble_eq_true rfl) (by omega) (by omega) (by omega) rfl ?_
    refine q_return dX11_score_93 rfl ?_
    exact pR.rf
  · skip
    refine q_iload 4 62 dX11_score_60 rfl rfl ?_
    refine q_if_ne 80 65 dX11_score_62 (by decide) rfl (fun h62 => ?_) (fun h62 => absurd h62 hu0)
    refine q_aload_n 0 81 dX11_score_80 rfl rfl rfl ?_
    refine q_getR 0 84 f_X11_30 dX11_score_81 rfl rfl rfl rfl ?_
    refine q_getR 1 87 f_X11_138 dX11_score_84 rfl rfl rfl rfl ?_
    refine q_iload_n 1 88 dX11_score_87 rfl rfl rfl ?_
    refine q_iload_n 2 89 dX11_score_88 rfl rfl rfl ?_
    refine q_iload_n 3 90 dX11_score_89 rfl rfl rfl ?_
    refine q_cVv 2 [2] [0, 1] [0, 1, 2] 93 (wr := [_, _]) (w1 := _) (ws' := [_, _, _]) c_X8_restart m_X11_147 dX11_score_90 rfl rfl rfl rfl rfl rfl rfl rfl (by decide) (by decide) (by decide) (by decide) (Nat.le_of_ble_eq_true rfl) (by omega) (by omega) (by omega) rfl ?_
    refine q_return dX11_score_93 rfl ?_
    exact pR.rf
theorem x_X11_score1 {l : Launch} {g : Gh} {q : Nat} {x y z : Int32} (ha : ¬ z = 0) (hb : ¬ z = 1) : Cx l g yX11_score (Cond.code yX11_score cX11_score 6 none) 7 [.ref q, .int x, .int y, .int z] [] "java/lang/IndexOutOfBoundsException" [] := by
  refine ct_of (M := mtX11_score) [some (.ref q), some (.int x), some (.int y), some (.int z), none, none] rfl (by decide) (Nat.le_of_ble_eq_true rfl) (fun _ h => h) (fun a => ?_)
  refine q_iload_n 3 1 dX11_score_0 rfl rfl rfl ?_
  refine q_xS [] [] (wr := []) (w1 := _) (x_X11_needPlayer ha hb) m_X11_130 dX11_score_1 rfl rfl rfl rfl (by decide) (by decide) (by decide) (Nat.le_of_ble_eq_true rfl) (by omega) (by omega) (by omega) rfl ?_
  exact pT.rf
theorem x_X11_score2 {l : Launch} {g : Gh} {q : Nat} {x y z : Int32} (hz : z = 0 ∨ z = 1) (h : ¬ (scU x y ∨ scA x y)) : Cx l g yX11_score (Cond.code yX11_score cX11_score 6 none) 6 [.ref q, .int x, .int y, .int z] [] "java/lang/IllegalArgumentException" [] := by
  refine ct_of (M := mtX11_score) [some (.ref q), some (.int x), some (.int y), some (.int z), none, none] rfl (by decide) (Nat.le_of_ble_eq_true rfl) (fun _ h => h) (fun a => ?_)
  refine q_iload_n 3 1 dX11_score_0 rfl rfl rfl ?_
  refine q_cSv [] [] [] 4 (wr := []) (w1 := _) (ws' := []) (c_X11_needPlayer hz) m_X11_130 dX11_score_1 rfl rfl rfl rfl rfl (by decide) (by decide) (by decide) (by decide) (Nat.le_of_ble_eq_true rfl) (by omega) (by omega) (by omega) rfl ?_
  refine sc_w1 fun u v hu hv => ?_
  have hu0 : u = 0 := hu.elim (fun e => absurd (Or.inl e.2) h) (fun e => e.1)
  have hv0 : v = 0 := hv.elim (fun e => absurd (Or.inr e.2) h) (fun e => e.1)
  refine q_iload 4 62 dX11_score_60 rfl rfl ?_
  refine q_if_ne 80 65 dX11_score_62 (by decide) rfl (fun h62 => absurd hu0 h62) (fun h62 => ?_)
  refine q_iload 5 67 dX11_score_65 rfl rfl ?_
  refine q_if_ne 80 70 dX11_score_67 (by decide) rfl (fun h67 => absurd hv0 h67) (fun h67 => ?_)
  refine q_throwS ex_IAE sr_X11_145 rfl rfl dX11_score_70 dX11_score_73 dX11_score_74 dX11_score_76 dX11_score_79 (by omega) (by omega) (by omega) ?_
  exact pT.rf
theorem c_X11_games {l : Launch} {g : Gh} {q sd la ru so : Nat} {i s : Sc} {x y : Int32} {t0 t1 t2 t4 t5 t6 t7 t8 : Option Nat} (ha : ¬ x < 0) (hb : ¬ 6 < x) (hc : ¬ y < 0) (hd : y ≤ 6) : Cp l g yX11_games (Cond.code yX11_games cX11_games 3 none) 0 [.ref q, .int x, .int y] [(q, ob 11 i [t0, t1, t2, some sd, t4, t5, t6, t7, t8, none, none]), (sd, ob 10 (fun _ => 0) (rD la ru so)), (so, ob 8 s [])] none [(q, ob 11 i [t0, t1, t2, some sd, t4, t5, t6, t7, t8, none, none]), (sd, ob 10 (fun _ => 0) (rD la ru so)), (so, ob 8 (upd (upd s 7 x) 8 y) [])] := by
  refine ct_of (M := mtX11_games) [some (.ref q), some (.int x), some (.int y)] rfl (by decide) (Nat.le_of_ble_eq_true rfl) (fun _ h => h) (fun a => ?_)
  refine q_iload_n 1 1 dX11_games_0 rfl rfl rfl ?_
  refine q_if_lt 20 4 dX11_games_1 (by decide) rfl (fun h1 => absurd h1 ha) (fun h1 => ?_)
  refine q_iload_n 1 5 dX11_games_4 rfl rfl rfl ?_
  refine q_bipush 6 7 dX11_games_5 bc_6 rfl ?_
  refine q_icmp_gt 20 10 dX11_games_7 (by decide) rfl (fun h7 => absurd h7 hb) (fun h7 => ?_)
  refine q_iload_n 2 11 dX11_games_10 rfl rfl rfl ?_
  refine q_if_lt 20 14 dX11_games_11 (by decide) rfl (fun h11 => absurd h11 hc) (fun h11 => ?_)
  refine q_iload_n 2 15 dX11_games_14 rfl rfl rfl ?_
  refine q_bipush 6 17 dX11_games_15 bc_6 rfl ?_
  refine q_icmp_le 30 20 dX11_games_17 (by decide) rfl (fun h17 => ?_) (fun h17 => absurd hd h17)
  refine q_aload_n 0 31 dX11_games_30 rfl rfl rfl ?_
  refine q_getR 0 34 f_X11_30 dX11_games_31 rfl rfl rfl rfl ?_
  refine q_getR 1 37 f_X11_138 dX11_games_34 rfl rfl rfl rfl ?_
  refine q_iload_n 1 38 dX11_games_37 rfl rfl rfl ?_
  refine q_putI 2 41 (w' := [_, _, _]) f_X11_153 ft_X8_7 dX11_games_38 rfl rfl rfl rfl ?_
  refine q_aload_n 0 42 dX11_games_41 rfl rfl rfl ?_
  refine q_getR 0 45 f_X11_30 dX11_games_42 rfl rfl rfl rfl ?_
  refine q_getR 1 48 f_X11_138 dX11_games_45 rfl rfl rfl rfl ?_
  refine q_iload_n 2 49 dX11_games_48 rfl rfl rfl ?_
  refine q_putI 2 52 (w' := [_, _, _]) f_X11_156 ft_X8_8 dX11_games_49 rfl rfl rfl rfl ?_
  refine q_return dX11_games_52 rfl ?_
  exact pR.rf
theorem x_X11_games {l : Launch} {g : Gh} {q : Nat} {x y : Int32} (h : x < 0 ∨ 6 < x ∨ y < 0 ∨ ¬ y ≤ 6) : Cx l g yX11_games (Cond.code yX11_games cX11_games 3 none) 6 [.ref q, .int x, .int y] [] "java/lang/IllegalArgumentException" [] := by
  refine ct_of (M := mtX11_games) [some (.ref q), some (.int x), some (.int y)] rfl (by decide) (Nat.le_of_ble_eq_true rfl) (fun _ h => h) (fun a => ?_)
  by_cases ha : x < 0
  · skip
    refine q_iload_n 1 1 dX11_games_0 rfl rfl rfl ?_
    refine q_if_lt 20 4 dX11_games_1 (by decide) rfl (fun h1 => ?_) (fun h1 => absurd ha h1)
    refine q_throwS ex_IAE sr_X11_151 rfl rfl dX11_games_20 dX11_games_23 dX11_games_24 dX11_games_26 dX11_games_29 (by omega) (by omega) (by omega) ?_
    exact pT.rf
  · by_cases hb : 6 < x
    · skip
      refine q_iload_n 1 1 dX11_games_0 rfl rfl rfl ?_
      refine q_if_lt 20 4 dX11_games_1 (by decide) rfl (fun h1 => absurd h1 ha) (fun h1 => ?_)
      refine q_iload_n 1 5 dX11_games_4 rfl rfl rfl ?_
      refine q_bipush 6 7 dX11_games_5 bc_6 rfl ?_
      refine q_icmp_gt 20 10 dX11_games_7 (by decide) rfl (fun h7 => ?_) (fun h7 => absurd hb h7)
      refine q_throwS ex_IAE sr_X11_151 rfl rfl dX11_games_20 dX11_games_23 dX11_games_24 dX11_games_26 dX11_games_29 (by omega) (by omega) (by omega) ?_
      exact pT.rf
    · by_cases hc : y < 0
      · skip
        refine q_iload_n 1 1 dX11_games_0 rfl rfl rfl ?_
        refine q_if_lt 20 4 dX11_games_1 (by decide) rfl (fun h1 => absurd h1 ha) (fun h1 => ?_)
        refine q_iload_n 1 5 dX11_games_4 rfl rfl rfl ?_
        refine q_bipush 6 7 dX11_games_5 bc_6 rfl ?_
        refine q_icmp_gt 20 10 dX11_games_7 (by decide) rfl (fun h7 => absurd h7 hb) (fun h7 => ?_)
        refine q_iload_n 2 11 dX11_games_10 rfl rfl rfl ?_
        refine q_if_lt 20 14 dX11_games_11 (by decide) rfl (fun h11 => ?_) (fun h11 => absurd hc h11)
        refine q_throwS ex_IAE sr_X11_151 rfl rfl dX11_games_20 dX11_games_23 dX11_games_24 dX11_games_26 dX11_games_29 (by omega) (by omega) (by omega) ?_
        exact pT.rf
      · have hd : ¬ y ≤ 6 := ((h.resolve_left ha).resolve_left hb).resolve_left hc
        refine q_iload_n 1 1 dX11_games_0 rfl rfl rfl ?_
        refine q_if_lt 20 4 dX11_games_1 (by decide) rfl (fun h1 => absurd h1 ha) (fun h1 => ?_)
        refine q_iload_n 1 5 dX11_games_4 rfl rfl rfl ?_
        refine q_bipush 6 7 dX11_games_5 bc_6 rfl ?_
        refine q_icmp_gt 20 10 dX11_games_7 (by decide) rfl (fun h7 => absurd h7 hb) (fun h7 => ?_)
        refine q_iload_n 2 11 dX11_games_10 rfl rfl rfl ?_
        refine q_if_lt 20 14 dX11_games_11 (by decide) rfl (fun h11 => absurd h11 hc) (fun h11 => ?_)
        refine q_iload_n 2 15 dX11_games_14 rfl rfl rfl ?_
        refine q_bipush 6 17 dX11_games_15 bc_6 rfl ?_
        refine q_icmp_le 30 20 dX11_games_17 (by decide) rfl (fun h17 => absurd h17 hd) (fun h17 => ?_)
        refine q_throwS ex_IAE sr_X11_151 rfl rfl dX11_games_20 dX11_games_23 dX11_games_24 dX11_games_26 dX11_games_29 (by omega) (by omega) (by omega) ?_
        exact pT.rf
theorem c_X11_begin {l : Launch} {g : Gh} {q sd la ru so : Nat} {i s : Sc} {x y : Int32} {t0 t1 t2 t4 t5 t6 t7 t8 : Option Nat} (ha : ¬ x < 0) (hb : ¬ 3 < x) (hc : ¬ y < 0) (hd : y ≤ 3) : Cp l g yX11_begin (Cond.code yX11_begin cX11_begin 3 none) 0 [.ref q, .int x, .int y] [(q, ob 11 i [t0, t1, t2, some sd, t4, t5, t6, t7, t8, none, none]), (sd, ob 10 (fun _ => 0) (rD la ru so)), (so, ob 8 s [])] none [(q, ob 11 i [t0, t1, t2, some sd, t4, t5, t6, t7, t8, none, none]), (sd, ob 10 (fun _ => 0) (rD la ru so)), (so, ob 8 (upd (upd s 9 x) 10 y) [])] := by
  refine ct_of (M := mtX11_begin) [some (.ref q), some (.int x), some (.int y)] rfl (by decide) (Nat.le_of_ble_eq_true rfl) (fun _ h => h) (fun a => ?_)
  refine q_iload_n 1 1 dX11_begin_0 rfl rfl rfl ?_
  refine q_if_lt 18 4 dX11_begin_1 (by decide) rfl (fun h1 => absurd h1 ha) (fun h1 => ?_)
  refine q_iload_n 1 5 dX11_begin_4 rfl rfl rfl ?_
  refine q_iconst 3 6 dX11_begin_5 ic_3 rfl ?_
  refine q_icmp_gt 18 9 dX11_begin_6 (by decide) rfl (fun h6 => absurd h6 hb) (fun h6 => ?_)
  refine q_iload_n 2 10 dX11_begin_9 rfl rfl rfl ?_
  refine q_if_lt 18 13 dX11_begin_10 (by decide) rfl (fun h10 => absurd h10 hc) (fun h10 => ?_)
  refine q_iload_n 2 14 dX11_begin_13 rfl rfl rfl ?_
  refine q_iconst 3 15 dX11_begin_14 ic_3 rfl ?_
  refine q_icmp_le 28 18 dX11_begin_15 (by decide) rfl (fun h15 => ?_) (fun h15 => absurd hd h15)
  refine q_aload_n 0 29 dX11_begin_28 rfl rfl rfl ?_
  refine q_getR 0 32 f_X11_30 dX11_begin_29 rfl rfl rfl rfl ?_
  refine q_getR 1 35 f_X11_138 dX11_begin_32 rfl rfl rfl rfl ?_
  refine q_iload_n 1 36 dX11_begin_35 rfl rfl rfl ?_
  refine q_putI 2 39 (w' := [_, _, _]) f_X11_161 ft_X8_9 dX11_begin_36 rfl rfl rfl rfl ?_
  refine q_aload_n 0 40 dX11_begin_39 rfl rfl rfl ?_
  refine q_getR 0 43 f_X11_30 dX11_begin_40 rfl rfl rfl rfl ?_
  refine q_getR 1 46 f_X11_138 dX11_begin_43 rfl rfl rfl rfl ?_
  refine q_iload_n 2 47 dX11_begin_46 rfl rfl rfl ?_
  refine q_putI 2 50 (w' := [_, _, _]) f_X11_164 ft_X8_10 dX11_begin_47 rfl rfl rfl rfl ?_
  refine q_return dX11_begin_50 rfl ?_
  exact pR.rf
theorem x_X11_begin {l : Launch} {g : Gh} {q : Nat} {x y : Int32} (h : x < 0 ∨ 3 < x ∨ y < 0 ∨ ¬ y ≤ 3) : Cx l g yX11_begin (Cond.code yX11_begin cX11_begin 3 none) 6 [.ref q, .int x, .int y] [] "java/lang/IllegalArgumentException" [] := by
  refine ct_of (M := mtX11_begin) [some (.ref q), some (.int x), some (.int y)] rfl (by decide) (Nat.le_of_ble_eq_true rfl) (fun _ h => h) (fun a => ?_)
  by_cases ha : x < 0
  · skip
    refine q_iload_n 1 1 dX11_begin_0 rfl rfl rfl ?_
    refine q_if_lt 18 4 dX11_begin_1 (by decide) rfl (fun h1 => ?_) (fun h1 => absurd ha h1)
    refine q_throwS ex_IAE sr_X11_159 rfl rfl dX11_begin_18 dX11_begin_21 dX11_begin_22 dX11_begin_24 dX11_begin_27 (by omega) (by omega) (by omega) ?_
    exact pT.rf
  · by_cases hb : 3 < x
    · skip
      refine q_iload_n 1 1 dX11_begin_0 rfl rfl rfl ?_
      refine q_if_lt 18 4 dX11_begin_1 (by decide) rfl (fun h1 => absurd h1 ha) (fun h1 => ?_)
      refine q_iload_n 1 5 dX11_begin_4 rfl rfl rfl ?_
      refine q_iconst 3 6 dX11_begin_5 ic_3 rfl ?_
      refine q_icmp_gt 18 9 dX11_begin_6 (by decide) rfl (fun h6 => ?_) (fun h6 => absurd hb h6)
      refine q_throwS ex_IAE sr_X11_159 rfl rfl dX11_begin_18 dX11_begin_21 dX11_begin_22 dX11_begin_24 dX11_begin_27 (by omega) (by omega) (by omega) ?_
      exact pT.rf
    · by_cases hc : y < 0
      · skip
        refine q_iload_n 1 1 dX11_begin_0 rfl rfl rfl ?_
        refine q_if_lt 18 4 dX11_begin_1 (by decide) rfl (fun h1 => absurd h1 ha) (fun h1 => ?_)
        refine q_iload_n 1 5 dX11_begin_4 rfl rfl rfl ?_
        refine q_iconst 3 6 dX11_begin_5 ic_3 rfl ?_
        refine q_icmp_gt 18 9 dX11_begin_6 (by decide) rfl (fun h6 => absurd h6 hb) (fun h6 => ?_)
        refine q_iload_n 2 10 dX11_begin_9 rfl rfl rfl ?_
        refine q_if_lt 18 13 dX11_begin_10 (by decide) rfl (fun h10 => ?_) (fun h10 => absurd hc h10)
        refine q_throwS ex_IAE sr_X11_159 rfl rfl dX11_begin_18 dX11_begin_21 dX11_begin_22 dX11_begin_24 dX11_begin_27 (by omega) (by omega) (by omega) ?_
        exact pT.rf
      · have hd : ¬ y ≤ 3 := ((h.resolve_left ha).resolve_left hb).resolve_left hc
        refine q_iload_n 1 1 dX11_begin_0 rfl rfl rfl ?_
        refine q_if_lt 18 4 dX11_begin_1 (by decide) rfl (fun h1 => absurd h1 ha) (fun h1 => ?_)
        refine q_iload_n 1 5 dX11_begin_4 rfl rfl rfl ?_
        refine q_iconst 3 6 dX11_begin_5 ic_3 rfl ?_
        refine q_icmp_gt 18 9 dX11_begin_6 (by decide) rfl (fun h6 => absurd h6 hb) (fun h6 => ?_)
        refine q_iload_n 2 10 dX11_begin_9 rfl rfl rfl ?_
        refine q_if_lt 18 13 dX11_begin_10 (by decide) rfl (fun h10 => absurd h10 hc) (fun h10 => ?_)
        refine q_iload_n 2 14 dX11_begin_13 rfl rfl rfl ?_
        refine q_iconst 3 15 dX11_begin_14 ic_3 rfl ?_
        refine q_icmp_le 28 18 dX11_begin_15 (by decide) rfl (fun h15 => absurd h15 hd) (fun h15 => ?_)
        refine q_throwS ex_IAE sr_X11_159 rfl rfl dX11_begin_18 dX11_begin_21 dX11_begin_22 dX11_begin_24 dX11_begin_27 (by omega) (by omega) (by omega) ?_
        exact pT.rf
theorem c_X11_stands {l : Launch} {g : Gh} {q sd la ru so w0 : Nat} {i s : Sc} {t0 t1 t2 t4 t5 t6 t7 t8 : Option Nat} (hw : w0 < 10) : Cp l g yX11_stands (Cond.code yX11_stands cX11_stands 2 (some .int)) 3 [.ref q, .int (nI w0)] [(q, ob 11 i [t0, t1, t2, some sd, t4, t5, t6, t7, t8, none, none]), (sd, ob 10 (fun _ => 0) (rD la ru so)), (so, ob 8 s [])] (some (.int (sTell s w0))) [(q, ob 11 i [t0, t1, t2, some sd, t4, t5, t6, t7, t8, none, none]), (sd, ob 10 (fun _ => 0) (rD la ru so)), (so, ob 8 s [])] := by
  refine ct_of (M := mtX11_stands) [some (.ref q), some (.int (nI w0))] rfl (by decide) (Nat.le_of_ble_eq_true rfl) (fun _ h => h) (fun a => ?_)
  have g1 := nI_nn (a := w0) (by omega)
  have g2 : nI w0 < (10 : Int32) := nI_lt9 10 (by decide) hw (by decide)
  refine q_iload_n 1 1 dX11_stands_0 rfl rfl rfl ?_
  refine q_bipush 10 3 dX11_stands_1 bc_10 rfl ?_
  refine q_cSv [] [0, 1, 2] [0, 1, 2] 6 (wr := [_, _, _]) (w1 := _) (ws' := [_, _, _]) (c_X11_needWhat g1 g2) m_X11_122 dX11_stands_3 rfl rfl rfl rfl rfl (by decide) (by decide) (by decide) (by decide) (Nat.le_of_ble_eq_true rfl) (by omega) (by omega) (by omega) rfl ?_
  refine q_aload_n 0 7 dX11_stands_6 rfl rfl rfl ?_
  refine q_getR 0 10 f_X11_30 dX11_stands_7 rfl rfl rfl rfl ?_
  refine q_getR 1 13 f_X11_138 dX11_stands_10 rfl rfl rfl rfl ?_
  refine q_iload_n 1 14 dX11_stands_13 rfl rfl rfl ?_
  refine q_cVi 2 [2] [0, 1] [0, 1, 2] 17 (wr := [_, _]) (w1 := _) (ws' := [_, _, _]) (c_X8_tell rfl hw) m_X11_167 dX11_stands_14 rfl rfl rfl rfl rfl rfl rfl rfl (by decide) (by decide) (by decide) (by decide) (Nat.le_of_ble_eq_true rfl) (by omega) (by omega) (by omega) rfl ?_
  refine q_ireturn dX11_stands_17 rfl ?_
  exact pR.rf
theorem x_X11_stands {l : Launch} {g : Gh} {q : Nat} {x : Int32} (h : x < 0 ∨ ¬ x < 10) : Cx l g yX11_stands (Cond.code yX11_stands cX11_stands 2 (some .int)) 7 [.ref q, .int x] [] "java/util/NoSuchElementException" [] := by
  refine ct_of (M := mtX11_stands) [some (.ref q), some (.int x)] rfl (by decide) (Nat.le_of_ble_eq_true rfl) (fun _ h => h) (fun a => ?_)
  refine q_iload_n 1 1 dX11_stands_0 rfl rfl rfl ?_
  refine q_bipush 10 3 dX11_stands_1 bc_10 rfl ?_
  refine q_xS [] [] (wr := []) (w1 := _) (x_X11_needWhat h) m_X11_122 dX11_stands_3 rfl rfl rfl rfl (by decide) (by decide) (by decide) (Nat.le_of_ble_eq_true rfl) (by omega) (by omega) (by omega) rfl ?_
  exact pT.rf
theorem c_X11_rally {l : Launch} {g : Gh} {q sd la ru so : Nat} {i s li : Sc} {R : List (Option Nat)} {x y : Int32} {t0 t1 t2 t4 t5 t6 t7 t8 : Option Nat} (hx : x = 0 ∨ x = 1 ∨ x = 2 ∧ ¬ y < 0 ∧ y < 10) (ho : sOver s li = 0) : Cp l g yX11_rally (Cond.code yX11_rally cX11_rally 3 (some .int)) 6 [.ref q, .int x, .int y] [(q, ob 11 i [t0, t1, t2, some sd, t4, t5, t6, t7, t8, none, none]), (sd, ob 10 (fun _ => 0) (rD la ru so)), (la, ob 0 li R), (so, ob 8 s [])] (some (.int (sHit s li x y))) [(q, ob 11 i [t0, t1, t2, some sd, t4, t5, t6, t7, t8, none, none]), (sd, ob 10 (fun _ => 0) (rD la ru so)), (la, ob 0 li R), (so, ob 8 (sStrike s li x y) [])] := by
  refine ct_of (M := mtX11_rally) [some (.ref q), some (.int x), some (.int y)] rfl (by decide) (Nat.le_of_ble_eq_true rfl) (fun _ h => h) (fun a => ?_)
  have K9 : WPs l g mtX11_rally 6 0 0 (pR (some (.int (sHit s li x y))) [(q, ob 11 i [t0, t1, t2, some sd, t4, t5, t6, t7, t8, none, none]), (sd, ob 10 (fun _ => 0) (rD la ru so)), (la, ob 0 li R), (so, ob 8 (sStrike s li x y) [])]) noX a 9 [some (.ref q), some (.int x), some (.int y)] [] [(q, ob 11 i [t0, t1, t2, some sd, t4, t5, t6, t7, t8, none, none]), (sd, ob 10 (fun _ => 0) (rD la ru so)), (la, ob 0 li R), (so, ob 8 s [])] 0 0 := by
    have g1 : ¬ x < 0 := by rcases hx with rfl | rfl | ⟨rfl, _⟩ <;> decide
    have g2 : x ≤ 2 := by rcases hx with rfl | rfl | ⟨rfl, _⟩ <;> decide
    refine q_iload_n 1 10 dX11_rally_9 rfl rfl rfl ?_
    refine q_if_lt 18 13 dX11_rally_10 (by decide) rfl (fun h10 => absurd h10 g1) (fun h10 => ?_)
    refine q_iload_n 1 14 dX11_rally_13 rfl rfl rfl ?_
    refine q_iconst 2 15 dX11_rally_14 ic_2 rfl ?_
    refine q_icmp_le 28 18 dX11_rally_15 (by decide) rfl (fun h15 => ?_) (fun h15 => absurd g2 h15)
    refine q_aload_n 0 29 dX11_rally_28 rfl rfl rfl ?_
    refine q_aload_n 0 30 dX11_rally_29 rfl rfl rfl ?_
    refine q_getR 0 33 f_X11_30 dX11_rally_30 rfl rfl rfl rfl ?_
    refine q_getR 1 36 f_X11_138 dX11_rally_33 rfl rfl rfl rfl ?_
    refine q_cVv 0 [0, 1, 2, 3] [] [0, 1, 2, 3] 39 (wr := []) (w1 := _) (ws' := [_, _, _, _]) (c_X11_needGoingOn ho) m_X11_176 dX11_rally_36 rfl rfl rfl rfl rfl rfl rfl rfl (by decide) (by decide) (by decide) (by decide) (Nat.le_of_ble_eq_true rfl) (by omega) (by omega) (by omega) rfl ?_
    refine q_aload_n 0 40 dX11_rally_39 rfl rfl rfl ?_
    refine q_getR 0 43 f_X11_30 dX11_rally_40 rfl rfl rfl rfl ?_
    refine q_getR 1 46 f_X11_138 dX11_rally_43 rfl rfl rfl rfl ?_
    refine q_iload_n 1 47 dX11_rally_46 rfl rfl rfl ?_
    refine q_iload_n 2 48 dX11_rally_47 rfl rfl rfl ?_
    refine q_aload_n 0 49 dX11_rally_48 rfl rfl rfl ?_
    refine q_getR 0 52 f_X11_30 dX11_rally_49 rfl rfl rfl rfl ?_
    refine q_getR 1 55 f_X11_60 dX11_rally_52 rfl rfl rfl rfl ?_
    refine q_cVi 3 [3, 2] [0, 1] [0, 1, 3, 2] 58 (wr := [_, _]) (w1 := _) (ws' := [_, _, _, _]) c_X8_strike m_X11_180 dX11_rally_55 rfl rfl rfl rfl rfl rfl rfl rfl (by decide) (by decide) (by decide) (by decide) (Nat.le_of_ble_eq_true rfl) (by omega) (by omega) (by omega) rfl ?_
    refine q_ireturn dX11_rally_58 rfl ?_
    exact pR.rf
  by_cases hq2 : x = 2
  · have g1 : ¬ y < 0 ∧ y < 10 := by
      rcases hx with rfl | rfl | ⟨rfl, h⟩
      · exact absurd hq2 (by decide)
      · exact absurd hq2 (by decide)
      · exact h
    refine q_iload_n 1 1 dX11_rally_0 rfl rfl rfl ?_
    refine q_iconst 2 2 dX11_rally_1 ic_2 rfl ?_
    refine q_icmp_ne 9 5 dX11_rally_2 (by decide) rfl (fun h2 => absurd hq2 h2) (fun h2 => ?_)
    refine q_iload_n 2 6 dX11_rally_5 rfl rfl rfl ?_
    refine q_cSv [] [0, 1, 2, 3] [0, 1, 2, 3] 9 (wr := [_, _, _, _]) (w1 := _) (ws' := [_, _, _, _]) (c_X11_needLine g1.1 g1.2) m_X11_171 dX11_rally_6 rfl rfl rfl rfl rfl (by decide) (by decide) (by decide) (by decide) (Nat.le_of_ble_eq_true rfl) (by omega) (by omega) (by omega) rfl ?_
    exact K9
  · skip
    refine q_iload_n 1 1 dX11_rally_0 rfl rfl rfl ?_
    refine q_iconst 2 2 dX11_rally_1 ic_2 rfl ?_
    refine q_icmp_ne 9 5 dX11_rally_2 (by decide) rfl (fun h2 => ?_) (fun h2 => absurd h2 hq2)
    exact K9
theorem x_X11_rally1 {l : Launch} {g : Gh} {q : Nat} {y : Int32} (h : y < 0 ∨ ¬ y < 10) : Cx l g yX11_rally (Cond.code yX11_rally cX11_rally 3 (some .int)) 7 [.ref q, .int 2, .int y] [] "java/lang/IndexOutOfBoundsException" [] := by
  refine ct_of (M := mtX11_rally) [some (.ref q), some (.int 2), some (.int y)] rfl (by decide) (Nat.le_of_ble_eq_true rfl) (fun _ h => h) (fun a => ?_)
  refine q_iload_n 1 1 dX11_rally_0 rfl rfl rfl ?_
  refine q_iconst 2 2 dX11_rally_1 ic_2 rfl ?_
  refine q_icmp_ne 9 5 dX11_rally_2 (by decide) rfl (fun h2 => absurd rfl h2) (fun h2 => ?_)
  refine q_iload_n 2 6 dX11_rally_5 rfl rfl rfl ?_
  refine q_xS [] [] (wr := []) (w1 := _) (x_X11_needLine h) m_X11_171 dX11_rally_6 rfl rfl rfl rfl (by decide) (by decide) (by decide) (Nat.le_of_ble_eq_true rfl) (by omega) (by omega) (by omega) rfl ?_
  exact pT.rf
theorem x_X11_rally2 {l : Launch} {g : Gh} {q : Nat} {x y : Int32} (h : x < 0 ∨ ¬ x ≤ 2) : Cx l g yX11_rally (Cond.code yX11_rally cX11_rally 3 (some .int)) 6 [.ref q, .int x, .int y] [] "java/lang/IllegalArgumentException" [] := by
  refine ct_of (M := mtX11_rally) [some (.ref q), some (.int x), some (.int y)] rfl (by decide) (Nat.le_of_ble_eq_true rfl) (fun _ h => h) (fun a => ?_)
  have hq2 : ¬ x = 2 := by
    rintro rfl
    exact absurd h (by decide)
  by_cases ha : x < 0
  · skip
    refine q_iload_n 1 1 dX11_rally_0 rfl rfl rfl ?_
    refine q_iconst 2 2 dX11_rally_1 ic_2 rfl ?_
    refine q_icmp_ne 9 5 dX11_rally_2 (by decide) rfl (fun h2 => ?_) (fun h2 => absurd h2 hq2)
    refine q_iload_n 1 10 dX11_rally_9 rfl rfl rfl ?_
    refine q_if_lt 18 13 dX11_rally_10 (by decide) rfl (fun h10 => ?_) (fun h10 => absurd ha h10)
    refine q_throwS ex_IAE sr_X11_174 rfl rfl dX11_rally_18 dX11_rally_21 dX11_rally_22 dX11_rally_24 dX11_rally_27 (by omega) (by omega) (by omega) ?_
    exact pT.rf
  · have hb := h.resolve_left ha
    refine q_iload_n 1 1 dX11_rally_0 rfl rfl rfl ?_
    refine q_iconst 2 2 dX11_rally_1 ic_2 rfl ?_
    refine q_icmp_ne 9 5 dX11_rally_2 (by decide) rfl (fun h2 => ?_) (fun h2 => absurd h2 hq2)
    refine q_iload_n 1 10 dX11_rally_9 rfl rfl rfl ?_
    refine q_if_lt 18 13 dX11_rally_10 (by decide) rfl (fun h10 => absurd h10 ha) (fun h10 => ?_)
    refine q_iload_n 1 14 dX11_rally_13 rfl rfl rfl ?_
    refine q_iconst 2 15 dX11_rally_14 ic_2 rfl ?_
    refine q_icmp_le 28 18 dX11_rally_15 (by decide) rfl (fun h15 => absurd h15 hb) (fun h15 => ?_)
    refine q_throwS ex_IAE sr_X11_174 rfl rfl dX11_rally_18 dX11_rally_21 dX11_rally_22 dX11_rally_24 dX11_rally_27 (by omega) (by omega) (by omega) ?_
    exact pT.rf
theorem x_X11_rally3 {l : Launch} {g : Gh} {q sd la ru so : Nat} {i s li : Sc} {R : List (Option Nat)} {x y : Int32} {t0 t1 t2 t4 t5 t6 t7 t8 : Option Nat} (hx : x = 0 ∨ x = 1 ∨ x = 2 ∧ ¬ y < 0 ∧ y < 10) (ho : ¬ sOver s li = 0) : Cx l g yX11_rally (Cond.code yX11_rally cX11_rally 3 (some .int)) 7 [.ref q, .int x, .int y] [(q, ob 11 i [t0, t1, t2, some sd, t4, t5, t6, t7, t8, none, none]), (sd, ob 10 (fun _ => 0) (rD la ru so)), (la, ob 0 li R), (so, ob 8 s [])] "java/lang/IllegalStateException" [(q, ob 11 i [t0, t1, t2, some sd, t4, t5, t6, t7, t8, none, none]), (sd, ob 10 (fun _ => 0) (rD la ru so)), (la, ob 0 li R), (so, ob 8 s [])] := by
  refine ct_of (M := mtX11_rally) [some (.ref q), some (.int x), some (.int y)] rfl (by decide) (Nat.le_of_ble_eq_true rfl) (fun _ h => h) (fun a => ?_)
  have K9 : WPs l g mtX11_rally 7 1 6 pF (pT "java/lang/IllegalStateException" [(q, ob 11 i [t0, t1, t2, some sd, t4, t5, t6, t7, t8, none, none]), (sd, ob 10 (fun _ => 0) (rD la ru so)), (la, ob 0 li R), (so, ob 8 s [])]) a 9 [some (.ref q), some (.int x), some (.int y)] [] [(q, ob 11 i [t0, t1, t2, some sd, t4, t5, t6, t7, t8, none, none]), (sd, ob 10 (fun _ => 0) (rD la ru so)), (la, ob 0 li R), (so, ob 8 s [])] 0 0 := by
    have g1 : ¬ x < 0 := by rcases hx with rfl | rfl | ⟨rfl, _⟩ <;> decide
    have g2 : x ≤ 2 := by rcases hx with rfl | rfl | ⟨rfl, _⟩ <;> decide
    refine q_iload_n 1 10 dX11_rally_9 rfl rfl rfl ?_
    refine q_if_lt 18 13 dX11_rally_10 (by decide) rfl (fun h10 => absurd h10 g1) (fun h10 => ?_)
    refine q_iload_n 1 14 dX11_rally_13 rfl rfl rfl ?_
    refine q_iconst 2 15 dX11_rally_14 ic_2 rfl ?_
    refine q_icmp_le 28 18 dX11_rally_15 (by decide) rfl (fun h15 => ?_) (fun h15 => absurd g2 h15)
    refine q_aload_n 0 29 dX11_rally_28 rfl rfl rfl ?_
    refine q_aload_n 0 30 dX11_rally_29 rfl rfl rfl ?_
    refine q_getR 0 33 f_X11_30 dX11_rally_30 rfl rfl rfl rfl ?_
    refine q_getR 1 36 f_X11_138 dX11_rally_33 rfl rfl rfl rfl ?_
    refine q_xV 0 [0, 1, 2, 3] [] (wr := []) (w1 := _) (x_X11_needGoingOn ho) m_X11_176 dX11_rally_36 rfl rfl rfl rfl rfl rfl rfl (by decide) (by decide) (by decide) (Nat.le_of_ble_eq_true rfl) (by omega) (by omega) (by omega) rfl ?_
    exact pT.rf
  by_cases hq2 : x = 2
  · have g1 : ¬ y < 0 ∧ y < 10 := by
      rcases hx with rfl | rfl | ⟨rfl, h⟩
      · exact absurd hq2 (by decide)
      · exact absurd hq2 (by decide)
      · exact h
    refine q_iload_n 1 1 dX11_rally_0 rfl rfl rfl ?_
    refine q_iconst 2 2 dX11_rally_1 ic_2 rfl ?_
    refine q_icmp_ne 9 5 dX11_rally_2 (by decide) rfl (fun h2 => absurd hq2 h2) (fun h2 => ?_)
    refine q_iload_n 2 6 dX11_rally_5 rfl rfl rfl ?_
    refine q_cSv [] [0, 1, 2, 3] [0, 1, 2, 3] 9 (wr := [_, _, _, _]) (w1 := _) (ws' := [_, _, _, _]) (c_X11_needLine g1.1 g1.2) m_X11_171 dX11_rally_6 rfl rfl rfl rfl rfl (by decide) (by decide) (by decide) (by decide) (Nat.le_of_ble_eq_true rfl) (by omega) (by omega) (by omega) rfl ?_
    exact K9
  · skip
    refine q_iload_n 1 1 dX11_rally_0 rfl rfl rfl ?_
    refine q_iconst 2 2 dX11_rally_1 ic_2 rfl ?_
    refine q_icmp_ne 9 5 dX11_rally_2 (by decide) rfl (fun h2 => ?_) (fun h2 => absurd h2 hq2)
    exact K9
theorem c_X11_bisque {l : Launch} {g : Gh} {q sd la ru so : Nat} {i s li : Sc} {R : List (Option Nat)} {x : Int32} {t0 t1 t2 t4 t5 t6 t7 t8 : Option Nat} (hx : x = 0 ∨ x = 1) (ho : sOver s li = 0) (hz : sPtW s x = 0 ∨ sPtW s x = 1) : Cp l g yX11_bisque (Cond.code yX11_bisque cX11_bisque 2 (some .boolean)) 4 [.ref q, .int x] [(q, ob 11 i [t0, t1, t2, some sd, t4, t5, t6, t7, t8, none, none]), (sd, ob 10 (fun _ => 0) (rD la ru so)), (la, ob 0 li R), (so, ob 8 s [])] (some (.int (sPtW s x))) [(q, ob 11 i [t0, t1, t2, some sd, t4, t5, t6, t7, t8, none, none]), (sd, ob 10 (fun _ => 0) (rD la ru so)), (la, ob 0 li R), (so, ob 8 (sBisque s li x) [])] := by
  refine ct_of (M := mtX11_bisque) [some (.ref q), some (.int x)] rfl (by decide) (Nat.le_of_ble_eq_true rfl) (fun _ h => h) (fun a => ?_)
  refine q_iload_n 1 1 dX11_bisque_0 rfl rfl rfl ?_
  refine q_cSv [] [0, 1, 2, 3] [0, 1, 2, 3] 4 (wr := [_, _, _, _]) (w1 := _) (ws' := [_, _, _, _]) (c_X11_needPlayer hx) m_X11_130 dX11_bisque_1 rfl rfl rfl rfl rfl (by decide) (by decide) (by decide) (by decide) (Nat.le_of_ble_eq_true rfl) (by omega) (by omega) (by omega) rfl ?_
  refine q_aload_n 0 5 dX11_bisque_4 rfl rfl rfl ?_
  refine q_aload_n 0 6 dX11_bisque_5 rfl rfl rfl ?_
  refine q_getR 0 9 f_X11_30 dX11_bisque_6 rfl rfl rfl rfl ?_
  refine q_getR 1 12 f_X11_138 dX11_bisque_9 rfl rfl rfl rfl ?_
  refine q_cVv 0 [0, 1, 2, 3] [] [0, 1, 2, 3] 15 (wr := []) (w1 := _) (ws' := [_, _, _, _]) (c_X11_needGoingOn ho) m_X11_176 dX11_bisque_12 rfl rfl rfl rfl rfl rfl rfl rfl (by decide) (by decide) (by decide) (by decide) (Nat.le_of_ble_eq_true rfl) (by omega) (by omega) (by omega) rfl ?_
  refine q_aload_n 0 16 dX11_bisque_15 rfl rfl rfl ?_
  refine q_getR 0 19 f_X11_30 dX11_bisque_16 rfl rfl rfl rfl ?_
  refine q_getR 1 22 f_X11_138 dX11_bisque_19 rfl rfl rfl rfl ?_
  refine q_iload_n 1 23 dX11_bisque_22 rfl rfl rfl ?_
  refine q_aload_n 0 24 dX11_bisque_23 rfl rfl rfl ?_
  refine q_getR 0 27 f_X11_30 dX11_bisque_24 rfl rfl rfl rfl ?_
  refine q_getR 1 30 f_X11_60 dX11_bisque_27 rfl rfl rfl rfl ?_
  refine q_cVi 3 [3, 2] [0, 1] [0, 1, 3, 2] 33 (wr := [_, _]) (w1 := _) (ws' := [_, _, _, _]) c_X8_takeBisque m_X11_184 dX11_bisque_30 rfl rfl rfl rfl rfl rfl rfl rfl (by decide) (by decide) (by decide) (by decide) (Nat.le_of_ble_eq_true rfl) (by omega) (by omega) (by omega) rfl ?_
  refine q_zreturn dX11_bisque_33 rfl hz ?_
  exact pR.rf
theorem x_X11_bisque1 {l : Launch} {g : Gh} {q : Nat} {p : Int32} (ha : ¬ p = 0) (hb : ¬ p = 1) : Cx l g yX11_bisque (Cond.code yX11_bisque cX11_bisque 2 (some .boolean)) 7 [.ref q, .int p] [] "java/lang/IndexOutOfBoundsException" [] := by
  refine ct_of (M := mtX11_bisque) [some (.ref q), some (.int p)] rfl (by decide) (Nat.le_of_ble_eq_true rfl) (fun _ h => h) (fun a => ?_)
  refine q_iload_n 1 1 dX11_bisque_0 rfl rfl rfl ?_
  refine q_xS [] [] (wr := []) (w1 := _) (x_X11_needPlayer ha hb) m_X11_130 dX11_bisque_1 rfl rfl rfl rfl (by decide) (by decide) (by decide) (Nat.le_of_ble_eq_true rfl) (by omega) (by omega) (by omega) rfl ?_
  exact pT.rf
theorem x_X11_bisque2 {l : Launch} {g : Gh} {q sd la ru so : Nat} {i s li : Sc} {R : List (Option Nat)} {x : Int32} {t0 t1 t2 t4 t5 t6 t7 t8 : Option Nat} (hx : x = 0 ∨ x = 1) (ho : ¬ sOver s li = 0) : Cx l g yX11_bisque (Cond.code yX11_bisque cX11_bisque 2 (some .boolean)) 7 [.ref q, .int x] [(q, ob 11 i [t0, t1, t2, some sd, t4, t5, t6, t7, t8, none, none]), (sd, ob 10 (fun _ => 0) (rD la ru so)), (la, ob 0 li R), (so, ob 8 s [])] "java/lang/IllegalStateException" [(q, ob 11 i [t0, t1, t2, some sd, t4, t5, t6, t7, t8, none, none]), (sd, ob 10 (fun _ => 0) (rD la ru so)), (la, ob 0 li R), (so, ob 8 s [])] := by
  refine ct_of (M := mtX11_bisque) [some (.ref q), some (.int x)] rfl (by decide) (Nat.le_of_ble_eq_true rfl) (fun _ h => h) (fun a => ?_)
  refine q_iload_n 1 1 dX11_bisque_0 rfl rfl rfl ?_
  refine q_cSv [] [0, 1, 2, 3] [0, 1, 2, 3] 4 (wr := [_, _, _, _]) (w1 := _) (ws' := [_, _, _, _]) (c_X11_needPlayer hx) m_X11_130 dX11_bisque_1 rfl rfl rfl rfl rfl (by decide) (by decide) (by decide) (by decide) (Nat.le_of_ble_eq_true rfl) (by omega) (by omega) (by omega) rfl ?_
  refine q_aload_n 0 5 dX11_bisque_4 rfl rfl rfl ?_
  refine q_aload_n 0 6 dX11_bisque_5 rfl rfl rfl ?_
  refine q_getR 0 9 f_X11_30 dX11_bisque_6 rfl rfl rfl rfl ?_
  refine q_getR 1 12 f_X11_138 dX11_bisque_9 rfl rfl rfl rfl ?_
  refine q_xV 0 [0, 1, 2, 3] [] (wr := []) (w1 := _) (x_X11_needGoingOn ho) m_X11_176 dX11_bisque_12 rfl rfl rfl rfl rfl rfl rfl (by decide) (by decide) (by decide) (Nat.le_of_ble_eq_true rfl) (by omega) (by omega) (by omega) rfl ?_
  exact pT.rf

