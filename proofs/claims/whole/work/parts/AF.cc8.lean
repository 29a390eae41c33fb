/-! ===== ChaseCourt: court, rule ===== -/
def pTx {α : Type} (cls : String) (w : α → va_W) (Φ : α → Nat → Nat → Prop) : Pxc := fun E w' k n => ∃ x : α, Φ x k n ∧ E = cls ∧ w' = w x
theorem pTx.mk {α : Type} {cls : String} {w : α → va_W} {Φ : α → Nat → Nat → Prop} (x : α) {w' : va_W} {k n : Nat} (h : Φ x k n) (hw : w' = w x) : pTx cls w Φ cls w' k n := ⟨x, h, rfl, hw⟩
/-- a contract of a method that throws, its cells told by something more -/
abbrev Cy {α : Type} (l : Launch) (g : Gh) (y : MethodName) (hd : Cond) (d rc rs : Nat) (args : List Value) (w : va_W) (cls : String) (w1 : α → va_W) (Φ : α → Nat → Nat → Prop) : Prop := Ct l g y hd d rc rs args w pF (pTx cls w1 Φ)
theorem upd_self (f : Sc) (k : Nat) {v : Int32} (h : f k = v) : upd f k v = f := by
  funext z
  by_cases e : z = k
  · rw [e, pk_us, h]
  · rw [pk_un e]
/-- what a text of the court makes of the draft -/
def coR (Tc : Sc) (e : Nat) (di li cf : Sc) : Int32 × Nat × Sc × Sc := rtR (toks Tc e) e (lTk di li) cf
theorem w_court {l : Launch} {g : Gh} {q tp sq st sb sn dl dc sd la ru so cc e : Nat} {i si th be nu di dh li cf Tc : Sc} {y : Option Nat} {t4 t5 t6 t7 t8 : Option Nat} {rc rs d : Nat} {post : Pst} {px : Pxc} {a : Act} (he : i 9 = nI e) (he4 : e ≤ 400) (hd : 10 ≤ d)
    (K : ∀ z : Sc × Sc × Sc × Sc, WPs l g mtX11_court d rc rs post px a 44 [some (.ref q)] [] [(q, ob 11 (upd (upd i 9 0) 10 (coR Tc e di li cf).1) [some tp, some sq, some dl, some sd, t4, t5, t6, t7, t8, none, none]), (tp, aB g 400 Tc), (sq, ob 7 z.1 [some st, some sb, some sn, some tp, none, none, none]), (st, aI g 401 z.2.1), (sb, aI g 401 z.2.2.1), (sn, aI g 401 z.2.2.2), (dl, ob 0 (coR Tc e di li cf).2.2.1 (rL dc)), (dc, aI g 192 (coR Tc e di li cf).2.2.2), (sd, ob 10 (fun _ => 0) (rD la ru so)), (la, ob 0 li (rL cc)), (cc, aI g 192 cf)] 0 0) : WPs l g mtX11_court d rc rs post px a 0 [some (.ref q)] [] [(q, ob 11 i [some tp, some sq, some dl, some sd, t4, t5, t6, t7, t8, none, none]), (tp, aB g 400 Tc), (sq, ob 7 si [some st, some sb, some sn, y, none, none, none]), (st, aI g 401 th), (sb, aI g 401 be), (sn, aI g 401 nu), (dl, ob 0 di (rL dc)), (dc, aI g 192 dh), (sd, ob 10 (fun _ => 0) (rD la ru so)), (la, ob 0 li (rL cc)), (cc, aI g 192 cf)] 0 0 := by
  have eR : rtR (toks Tc e) e (lTk di li) cf = coR Tc e di li cf := rfl
  refine q_aload_n 0 1 dX11_court_0 rfl rfl rfl ?_
  refine q_getR 0 4 f_X11_16 dX11_court_1 rfl rfl rfl rfl ?_
  refine q_aload_n 0 5 dX11_court_4 rfl rfl rfl ?_
  refine q_getR 0 8 f_X11_9 dX11_court_5 rfl rfl rfl rfl ?_
  refine q_aload_n 0 9 dX11_court_8 rfl rfl rfl ?_
  refine q_cVi 0 [0] [1, 2, 3, 4, 5, 6, 7, 8, 9, 10] [10, 0, 1, 2, 3, 4, 5, 6, 7, 8, 9] 12 (wr := [_, _, _, _, _, _, _, _, _, _]) (w1 := _) (ws' := [_, _, _, _, _, _, _, _, _, _, _]) c_X11_useUp m_X11_52 dX11_court_9 rfl rfl rfl rfl rfl rfl rfl rfl (by decide) (by decide) (by decide) (by decide) (Nat.le_of_ble_eq_true rfl) (by omega) (by omega) (by omega) rfl ?_
  rw [he]
  refine q_xVv 2 [2, 3, 4, 5, 1] [0, 6, 7, 8, 9, 10] [0, 10, 6, 7, 8, 9, 1, 2, 3, 4, 5] 15 (wr := [_, _, _, _, _, _]) (w1 := _) (ws' := fun _ => [_, _, _, _, _, _, _, _, _, _, _]) (c_X7_scan he4) m_X11_56 dX11_court_12 rfl rfl rfl rfl rfl rfl rfl (fun _ => rfl) (by decide) (by decide) (by decide) (by decide) (Nat.le_of_ble_eq_true rfl) (by omega) (by omega) (by omega) rfl (fun z12 hx12 => ?_)
  obtain ⟨i12, th12, be12, nu12⟩ := z12
  dsimp only at hx12 ⊢
  refine q_aload_n 0 16 dX11_court_15 rfl rfl rfl ?_
  refine q_getR 0 19 f_X11_23 dX11_court_16 rfl rfl rfl rfl ?_
  refine q_aload_n 0 20 dX11_court_19 rfl rfl rfl ?_
  refine q_getR 0 23 f_X11_30 dX11_court_20 rfl rfl rfl rfl ?_
  refine q_getR 8 26 f_X11_60 dX11_court_23 rfl rfl rfl rfl ?_
  refine q_cVv 6 [6, 7, 9, 10] [0, 1, 2, 3, 4, 5, 8] [0, 1, 2, 3, 4, 5, 7, 8, 6, 9, 10] 29 (wr := [_, _, _, _, _, _, _]) (w1 := _) (ws' := [_, _, _, _, _, _, _, _, _, _, _]) c_X0_takeFrom m_X11_63 dX11_court_26 rfl rfl rfl rfl rfl rfl rfl rfl (by decide) (by decide) (by decide) (by decide) (Nat.le_of_ble_eq_true rfl) (by omega) (by omega) (by omega) rfl ?_
  skip
  obtain ⟨hR, h60⟩ := hx12
  have e6 : upd i12 6 (nI 0) = i12 := upd_self _ _ h60
  rw [← e6]
  refine q_aload_n 0 30 dX11_court_29 rfl rfl rfl ?_
  refine q_aload_n 0 31 dX11_court_30 rfl rfl rfl ?_
  refine q_getR 0 34 f_X11_23 dX11_court_31 rfl rfl rfl rfl ?_
  refine q_aload_n 0 35 dX11_court_34 rfl rfl rfl ?_
  refine q_getR 0 38 f_X11_16 dX11_court_35 rfl rfl rfl rfl ?_
  refine q_cVi 6 [6, 7, 2, 3, 4, 5] [0, 1, 8, 9, 10] [0, 1, 7, 8, 9, 10, 5, 6, 2, 3, 4] 41 (wr := [_, _, _, _, _]) (w1 := _) (ws' := [_, _, _, _, _, _, _, _, _, _, _]) (c_X0_readText (k := 0) hR) m_X11_67 dX11_court_38 rfl rfl rfl rfl rfl rfl rfl rfl (by decide) (by decide) (by decide) (by decide) (Nat.le_of_ble_eq_true rfl) (by omega) (by omega) (by omega) rfl ?_
  rw [eR]
  refine q_putI 0 44 (w' := [_, _, _, _, _, _, _, _, _, _, _]) f_X11_41 ft_X11_10 dX11_court_41 rfl rfl rfl rfl ?_
  exact K (_, _, _, _)
theorem c_X11_court {l : Launch} {g : Gh} {q tp sq st sb sn dl dc sd la ru so cc e : Nat} {i si th be nu di dh li cf Tc : Sc} {y : Option Nat} {t4 t5 t6 t7 t8 : Option Nat} (he : i 9 = nI e) (he4 : e ≤ 400) (hr : (coR Tc e di li cf).1 = -1) (ht : li 4 < 12) : Ce l g yX11_court (Cond.code yX11_court cX11_court 1 (some .int)) 10 [.ref q] [(q, ob 11 i [some tp, some sq, some dl, some sd, t4, t5, t6, t7, t8, none, none]), (tp, aB g 400 Tc), (sq, ob 7 si [some st, some sb, some sn, y, none, none, none]), (st, aI g 401 th), (sb, aI g 401 be), (sn, aI g 401 nu), (dl, ob 0 di (rL dc)), (dc, aI g 192 dh), (sd, ob 10 (fun _ => 0) (rD la ru so)), (la, ob 0 li (rL cc)), (cc, aI g 192 cf)] (fun _ : Sc × Sc × Sc × Sc => some (.int (lTk li (upd ((coR Tc e di li cf).2.2.1) 4 ((coR Tc e di li cf).2.2.1 4 + 1)) 4))) (fun z : Sc × Sc × Sc × Sc => [(q, ob 11 (upd (upd i 9 0) 10 (coR Tc e di li cf).1) [some tp, some sq, some dl, some sd, t4, t5, t6, t7, t8, none, none]), (tp, aB g 400 Tc), (sq, ob 7 z.1 [some st, some sb, some sn, some tp, none, none, none]), (st, aI g 401 z.2.1), (sb, aI g 401 z.2.2.1), (sn, aI g 401 z.2.2.2), (dl, ob 0 (upd ((coR Tc e di li cf).2.2.1) 4 ((coR Tc e di li cf).2.2.1 4 + 1)) (rL dc)), (dc, aI g 192 (coR Tc e di li cf).2.2.2), (sd, ob 10 (fun _ => 0) (rD la ru so)), (la, ob 0 (lTk li (upd ((coR Tc e di li cf).2.2.1) 4 ((coR Tc e di li cf).2.2.1 4 + 1))) (rL cc)), (cc, aI g 192 (coR Tc e di li cf).2.2.2)]) (fun _ => True) := by
  refine ct_of (M := mtX11_court) [some (.ref q)] rfl (by decide) (Nat.le_of_ble_eq_true rfl) (fun _ h => h) (fun a => ?_)
  refine w_court he he4 (by omega) fun z => ?_
  have h10 : upd (upd i 9 0) 10 (coR Tc e di li cf).1 10 = -1 := by rw [pk_us, hr]
  generalize hrr : coR Tc e di li cf = rr at *
  obtain ⟨r1, r2, r3, r4⟩ := rr
  dsimp only at *
  refine q_aload_n 0 45 dX11_court_44 rfl rfl rfl ?_
  refine q_getI 0 48 f_X11_41 dX11_court_45 rfl rfl rfl ?_
  refine q_iconst (-1) 49 dX11_court_48 ic_m1 rfl ?_
  rw [h10]
  refine q_icmp_eq 62 52 dX11_court_49 (by decide) rfl (fun h49 => ?_) (fun h49 => absurd rfl h49)
  refine q_aload_n 0 63 dX11_court_62 rfl rfl rfl ?_
  refine q_getR 0 66 f_X11_30 dX11_court_63 rfl rfl rfl rfl ?_
  refine q_getR 8 69 f_X11_60 dX11_court_66 rfl rfl rfl rfl ?_
  refine q_getI 9 72 f_X11_78 dX11_court_69 rfl rfl rfl ?_
  refine q_bipush 12 74 dX11_court_72 bc_12 rfl ?_
  refine q_icmp_lt 87 77 dX11_court_74 (by decide) rfl (fun h74 => ?_) (fun h74 => absurd ht h74)
  refine q_aload_n 0 88 dX11_court_87 rfl rfl rfl ?_
  refine q_getR 0 91 f_X11_23 dX11_court_88 rfl rfl rfl rfl ?_
  refine q_dup 92 dX11_court_91 rfl rfl ?_
  refine q_getI 6 95 f_X11_78 dX11_court_92 rfl rfl rfl ?_
  refine q_iconst 1 96 dX11_court_95 ic_1 rfl ?_
  refine q_iadd 97 dX11_court_96 rfl ?_
  refine q_putI 6 100 (w' := [_, _, _, _, _, _, _, _, _, _, _]) f_X11_78 ft_X0_4 dX11_court_97 rfl rfl rfl rfl ?_
  refine q_aload_n 0 101 dX11_court_100 rfl rfl rfl ?_
  refine q_getR 0 104 f_X11_30 dX11_court_101 rfl rfl rfl rfl ?_
  refine q_getR 8 107 f_X11_60 dX11_court_104 rfl rfl rfl rfl ?_
  refine q_aload_n 0 108 dX11_court_107 rfl rfl rfl ?_
  refine q_getR 0 111 f_X11_23 dX11_court_108 rfl rfl rfl rfl ?_
  refine q_cVv 9 [9, 10, 6, 7] [0, 1, 2, 3, 4, 5, 8] [0, 1, 2, 3, 4, 5, 9, 10, 6, 7, 8] 114 (wr := [_, _, _, _, _, _, _]) (w1 := _) (ws' := [_, _, _, _, _, _, _, _, _, _, _]) c_X0_takeFrom m_X11_63 dX11_court_111 rfl rfl rfl rfl rfl rfl rfl rfl (by decide) (by decide) (by decide) (by decide) (Nat.le_of_ble_eq_true rfl) (by omega) (by omega) (by omega) rfl ?_
  refine q_aload_n 0 115 dX11_court_114 rfl rfl rfl ?_
  refine q_getR 0 118 f_X11_30 dX11_court_115 rfl rfl rfl rfl ?_
  refine q_getR 8 121 f_X11_60 dX11_court_118 rfl rfl rfl rfl ?_
  refine q_getI 9 124 f_X11_78 dX11_court_121 rfl rfl rfl ?_
  refine q_ireturn dX11_court_124 rfl ?_
  exact pE.mk z trivial rfl rfl
theorem x_X11_court1 {l : Launch} {g : Gh} {q tp sq st sb sn dl dc sd la ru so cc e : Nat} {i si th be nu di dh li cf Tc : Sc} {y : Option Nat} {t4 t5 t6 t7 t8 : Option Nat} (he : i 9 = nI e) (he4 : e ≤ 400) (hr : ¬ (coR Tc e di li cf).1 = -1) : Cy l g yX11_court (Cond.code yX11_court cX11_court 1 (some .int)) 10 1 6 [.ref q] [(q, ob 11 i [some tp, some sq, some dl, some sd, t4, t5, t6, t7, t8, none, none]), (tp, aB g 400 Tc), (sq, ob 7 si [some st, some sb, some sn, y, none, none, none]), (st, aI g 401 th), (sb, aI g 401 be), (sn, aI g 401 nu), (dl, ob 0 di (rL dc)), (dc, aI g 192 dh), (sd, ob 10 (fun _ => 0) (rD la ru so)), (la, ob 0 li (rL cc)), (cc, aI g 192 cf)] "java/lang/IllegalArgumentException" (fun z : Sc × Sc × Sc × Sc => [(q, ob 11 (upd (upd i 9 0) 10 (coR Tc e di li cf).1) [some tp, some sq, some dl, some sd, t4, t5, t6, t7, t8, none, none]), (tp, aB g 400 Tc), (sq, ob 7 z.1 [some st, some sb, some sn, some tp, none, none, none]), (st, aI g 401 z.2.1), (sb, aI g 401 z.2.2.1), (sn, aI g 401 z.2.2.2), (dl, ob 0 (coR Tc e di li cf).2.2.1 (rL dc)), (dc, aI g 192 (coR Tc e di li cf).2.2.2), (sd, ob 10 (fun _ => 0) (rD la ru so)), (la, ob 0 li (rL cc)), (cc, aI g 192 cf)]) (fun _ k n => k = 1 ∧ n = 6) := by
  refine ct_of (M := mtX11_court) [some (.ref q)] rfl (by decide) (Nat.le_of_ble_eq_true rfl) (fun _ h => h) (fun a => ?_)
  refine w_court he he4 (by omega) fun z => ?_
  have h10 : ¬ upd (upd i 9 0) 10 (coR Tc e di li cf).1 10 = -1 := by rw [pk_us]; exact hr
  generalize coR Tc e di li cf = rr at *
  refine q_aload_n 0 45 dX11_court_44 rfl rfl rfl ?_
  refine q_getI 0 48 f_X11_41 dX11_court_45 rfl rfl rfl ?_
  refine q_iconst (-1) 49 dX11_court_48 ic_m1 rfl ?_
  refine q_icmp_eq 62 52 dX11_court_49 (by decide) rfl (fun h49 => absurd h49 h10) (fun h49 => ?_)
  refine q_throwS ex_IAE sr_X11_73 rfl rfl dX11_court_52 dX11_court_55 dX11_court_56 dX11_court_58 dX11_court_61 (by omega) (by omega) (by omega) ?_
  exact pTx.mk z ⟨rfl, rfl⟩ rfl
theorem x_X11_court2 {l : Launch} {g : Gh} {q tp sq st sb sn dl dc sd la ru so cc e : Nat} {i si th be nu di dh li cf Tc : Sc} {y : Option Nat} {t4 t5 t6 t7 t8 : Option Nat} (he : i 9 = nI e) (he4 : e ≤ 400) (hr : (coR Tc e di li cf).1 = -1) (ht : ¬ li 4 < 12) : Cy l g yX11_court (Cond.code yX11_court cX11_court 1 (some .int)) 10 1 6 [.ref q] [(q, ob 11 i [some tp, some sq, some dl, some sd, t4, t5, t6, t7, t8, none, none]), (tp, aB g 400 Tc), (sq, ob 7 si [some st, some sb, some sn, y, none, none, none]), (st, aI g 401 th), (sb, aI g 401 be), (sn, aI g 401 nu), (dl, ob 0 di (rL dc)), (dc, aI g 192 dh), (sd, ob 10 (fun _ => 0) (rD la ru so)), (la, ob 0 li (rL cc)), (cc, aI g 192 cf)] "java/lang/UnsupportedOperationException" (fun z : Sc × Sc × Sc × Sc => [(q, ob 11 (upd (upd i 9 0) 10 (coR Tc e di li cf).1) [some tp, some sq, some dl, some sd, t4, t5, t6, t7, t8, none, none]), (tp, aB g 400 Tc), (sq, ob 7 z.1 [some st, some sb, some sn, some tp, none, none, none]), (st, aI g 401 z.2.1), (sb, aI g 401 z.2.2.1), (sn, aI g 401 z.2.2.2), (dl, ob 0 (coR Tc e di li cf).2.2.1 (rL dc)), (dc, aI g 192 (coR Tc e di li cf).2.2.2), (sd, ob 10 (fun _ => 0) (rD la ru so)), (la, ob 0 li (rL cc)), (cc, aI g 192 cf)]) (fun _ k n => k = 1 ∧ n = 6) := by
  refine ct_of (M := mtX11_court) [some (.ref q)] rfl (by decide) (Nat.le_of_ble_eq_true rfl) (fun _ h => h) (fun a => ?_)
  refine w_court he he4 (by omega) fun z => ?_
  have h10 : upd (upd i 9 0) 10 (coR Tc e di li cf).1 10 = -1 := by rw [pk_us]; exact hr
  generalize coR Tc e di li cf = rr at *
  refine q_aload_n 0 45 dX11_court_44 rfl rfl rfl ?_
  refine q_getI 0 48 f_X11_41 dX11_court_45 rfl rfl rfl ?_
  refine q_iconst (-1) 49 dX11_court_48 ic_m1 rfl ?_
  refine q_icmp_eq 62 52 dX11_court_49 (by decide) rfl (fun h49 => ?_) (fun h49 => absurd h10 h49)
  refine q_aload_n 0 63 dX11_court_62 rfl rfl rfl ?_
  refine q_getR 0 66 f_X11_30 dX11_court_63 rfl rfl rfl rfl ?_
  refine q_getR 8 69 f_X11_60 dX11_court_66 rfl rfl rfl rfl ?_
  refine q_getI 9 72 f_X11_78 dX11_court_69 rfl rfl rfl ?_
  refine q_bipush 12 74 dX11_court_72 bc_12 rfl ?_
  refine q_icmp_lt 87 77 dX11_court_74 (by decide) rfl (fun h74 => absurd h74 ht) (fun h74 => ?_)
  refine q_throwS ex_UOE sr_X11_83 rfl rfl dX11_court_77 dX11_court_80 dX11_court_81 dX11_court_83 dX11_court_86 (by omega) (by omega) (by omega) ?_
  exact pTx.mk z ⟨rfl, rfl⟩ rfl

