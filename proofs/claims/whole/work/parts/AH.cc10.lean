/-! ===== ChaseCourt: logs ===== -/
def hoW (x : Int32) : Int32 := if x = 119 then 0 else if x = 108 then 1 else if x = 100 then 2 else -1
theorem c_X11_howOf {l : Launch} {g : Gh} {x : Int32} : Cp l g yX11_howOf (Cond.code yX11_howOf cX11_howOf 1 (some .int)) 0 [.int x] [] (some (.int (hoW x))) [] := by
  refine ct_of (M := mtX11_howOf) [some (.int x)] rfl (by decide) (Nat.le_of_ble_eq_true rfl) (fun _ h => h) (fun a => ?_)
  unfold hoW
  by_cases ha : x = 119
  · rw [if_pos ha]
    refine q_iload_n 0 1 dX11_howOf_0 rfl rfl rfl ?_
    refine q_bipush 119 3 dX11_howOf_1 bc_119 rfl ?_
    refine q_icmp_ne 10 6 dX11_howOf_3 (by decide) rfl (fun h3 => absurd ha h3) (fun h3 => ?_)
    refine q_iconst 0 7 dX11_howOf_6 ic_0 rfl ?_
    refine q_goto 31 dX11_howOf_7 (by decide) ?_
    refine q_ireturn dX11_howOf_31 rfl ?_
    exact pR.rf
  · rw [if_neg ha]
    by_cases hb : x = 108
    · rw [if_pos hb]
      refine q_iload_n 0 1 dX11_howOf_0 rfl rfl rfl ?_
      refine q_bipush 119 3 dX11_howOf_1 bc_119 rfl ?_
      refine q_icmp_ne 10 6 dX11_howOf_3 (by decide) rfl (fun h3 => ?_) (fun h3 => absurd h3 ha)
      refine q_iload_n 0 11 dX11_howOf_10 rfl rfl rfl ?_
      refine q_bipush 108 13 dX11_howOf_11 bc_108 rfl ?_
      refine q_icmp_ne 20 16 dX11_howOf_13 (by decide) rfl (fun h13 => absurd hb h13) (fun h13 => ?_)
      refine q_iconst 1 17 dX11_howOf_16 ic_1 rfl ?_
      refine q_goto 31 dX11_howOf_17 (by decide) ?_
      refine q_ireturn dX11_howOf_31 rfl ?_
      exact pR.rf
    · rw [if_neg hb]
      by_cases hc : x = 100
      · rw [if_pos hc]
        refine q_iload_n 0 1 dX11_howOf_0 rfl rfl rfl ?_
        refine q_bipush 119 3 dX11_howOf_1 bc_119 rfl ?_
        refine q_icmp_ne 10 6 dX11_howOf_3 (by decide) rfl (fun h3 => ?_) (fun h3 => absurd h3 ha)
        refine q_iload_n 0 11 dX11_howOf_10 rfl rfl rfl ?_
        refine q_bipush 108 13 dX11_howOf_11 bc_108 rfl ?_
        refine q_icmp_ne 20 16 dX11_howOf_13 (by decide) rfl (fun h13 => ?_) (fun h13 => absurd h13 hb)
        refine q_iload_n 0 21 dX11_howOf_20 rfl rfl rfl ?_
        refine q_bipush 100 23 dX11_howOf_21 bc_100 rfl ?_
        refine q_icmp_ne 30 26 dX11_howOf_23 (by decide) rfl (fun h23 => absurd hc h23) (fun h23 => ?_)
        refine q_iconst 2 27 dX11_howOf_26 ic_2 rfl ?_
        refine q_goto 31 dX11_howOf_27 (by decide) ?_
        refine q_ireturn dX11_howOf_31 rfl ?_
        exact pR.rf
      · rw [if_neg hc]
        refine q_iload_n 0 1 dX11_howOf_0 rfl rfl rfl ?_
        refine q_bipush 119 3 dX11_howOf_1 bc_119 rfl ?_
        refine q_icmp_ne 10 6 dX11_howOf_3 (by decide) rfl (fun h3 => ?_) (fun h3 => absurd h3 ha)
        refine q_iload_n 0 11 dX11_howOf_10 rfl rfl rfl ?_
        refine q_bipush 108 13 dX11_howOf_11 bc_108 rfl ?_
        refine q_icmp_ne 20 16 dX11_howOf_13 (by decide) rfl (fun h13 => ?_) (fun h13 => absurd h13 hb)
        refine q_iload_n 0 21 dX11_howOf_20 rfl rfl rfl ?_
        refine q_bipush 100 23 dX11_howOf_21 bc_100 rfl ?_
        refine q_icmp_ne 30 26 dX11_howOf_23 (by decide) rfl (fun h23 => ?_) (fun h23 => absurd h23 hc)
        refine q_iconst (-1) 31 dX11_howOf_30 ic_m1 rfl ?_
        refine q_ireturn dX11_howOf_31 rfl ?_
        exact pR.rf
def okLg (Tc : Sc) (k : Nat) : Prop := ¬ hoW (Tc (2 * k)) = -1 ∧ ¬ Tc (2 * k + 1) < 48 ∧ ¬ (if hoW (Tc (2 * k)) = 2 then 57 else 48) < Tc (2 * k + 1)
def lgOK (Tc : Sc) (e : Nat) : Prop := e % 2 = 0 ∧ e ≤ 60 ∧ ∀ k, 2 * k + 1 < e → okLg Tc k
theorem w_needLog {l : Launch} {g : Gh} {q tp e : Nat} {i Tc : Sc} {t1 t2 t3 t4 t5 t6 t7 t8 : Option Nat} {rc rs d : Nat} {post : Pst} {px : Pxc} {a : Act} (he4 : e ≤ 400) (hd : 1 ≤ d) (Kok : lgOK Tc e → ∀ L3 L4 L5 : Option Value, WPs l g mtX11_needLog d rc rs post px a 101 [some (.ref q), some (.int (nI e)), some (.int 1), L3, L4, L5] [] [(q, ob 11 i [some tp, t1, t2, t3, t4, t5, t6, t7, t8, none, none]), (tp, aB g 400 Tc)] 0 0) (Kno : ¬ lgOK Tc e → ∀ L3 L4 L5 : Option Value, WPs l g mtX11_needLog d rc rs post px a 101 [some (.ref q), some (.int (nI e)), some (.int 0), L3, L4, L5] [] [(q, ob 11 i [some tp, t1, t2, t3, t4, t5, t6, t7, t8, none, none]), (tp, aB g 400 Tc)] 0 0) : WPs l g mtX11_needLog d rc rs post px a 0 [some (.ref q), some (.int (nI e)), none, none, none, none] [] [(q, ob 11 i [some tp, t1, t2, t3, t4, t5, t6, t7, t8, none, none]), (tp, aB g 400 Tc)] 0 0 := by
  have K20b : ¬ lgOK Tc e → ∀ L3 L4 L5 : Option Value, WPs l g mtX11_needLog d rc rs post px a 20 [some (.ref q), some (.int (nI e)), some (.int 0), L3, L4, L5] [] [(q, ob 11 i [some tp, t1, t2, t3, t4, t5, t6, t7, t8, none, none]), (tp, aB g 400 Tc)] 0 0 := by
    intro h L3 L4 L5
    have k2 := Kno h L3 L4 L5
    clear Kok Kno
    refine q_iload_n 2 21 dX11_needLog_20 rfl rfl rfl ?_
    refine q_if_eq 101 24 dX11_needLog_21 (by decide) rfl (fun h21 => ?_) (fun h21 => absurd rfl h21)
    exact k2
  have er : nI e - nI e / 2 * 2 = nI (e % 2) := nI_rem (by decide) (by omega) (by decide) (by decide)
  have K17b : ¬ lgOK Tc e → WPs l g mtX11_needLog d rc rs post px a 16 [some (.ref q), some (.int (nI e)), none, none, none, none] [] [(q, ob 11 i [some tp, t1, t2, t3, t4, t5, t6, t7, t8, none, none]), (tp, aB g 400 Tc)] 0 0 := by
    intro h
    have k2 := K20b h
    clear Kok Kno K20b
    refine q_iconst 0 17 dX11_needLog_16 ic_0 rfl ?_
    refine q_istore_n 2 18 (L' := [_, _, _, _, _, _]) dX11_needLog_17 rfl (by decide) rfl rfl ?_
    refine q_iconst 0 19 dX11_needLog_18 ic_0 rfl ?_
    refine q_istore_n 3 20 (L' := [_, _, _, _, _, _]) dX11_needLog_19 rfl (by decide) rfl rfl ?_
    exact k2 _ _ _
  have K20 : e % 2 = 0 → e ≤ 60 → ∀ (c k : Nat) (L4 L5 : Option Value), 2 * (c + k) = e → (∀ j, j < k → okLg Tc j) → WPs l g mtX11_needLog d rc rs post px a 20 [some (.ref q), some (.int (nI e)), some (.int 1), some (.int (nI (2 * k))), L4, L5] [] [(q, ob 11 i [some tp, t1, t2, t3, t4, t5, t6, t7, t8, none, none]), (tp, aB g 400 Tc)] 0 0 := by
    intro he2 he60 c
    induction c with
    | zero =>
      intro k L4 L5 hk hok
      have hlg : lgOK Tc e := ⟨he2, he60, fun j hj => hok j (by omega)⟩
      have k2 := Kok hlg
      clear Kok Kno K20b K17b
      have hge : nI e ≤ nI (2 * k) + 1 := by rw [nI_1]; exact nI_le (by omega) (by omega)
      refine q_iload_n 2 21 dX11_needLog_20 rfl rfl rfl ?_
      refine q_if_eq 101 24 dX11_needLog_21 (by decide) rfl (fun h21 => absurd h21 (by decide)) (fun h21 => ?_)
      refine q_iload_n 3 25 dX11_needLog_24 rfl rfl rfl ?_
      refine q_iconst 1 26 dX11_needLog_25 ic_1 rfl ?_
      refine q_iadd 27 dX11_needLog_26 rfl ?_
      refine q_iload_n 1 28 dX11_needLog_27 rfl rfl rfl ?_
      refine q_icmp_ge 101 31 dX11_needLog_28 (by decide) rfl (fun h28 => ?_) (fun h28 => absurd hge h28)
      exact k2 _ _ _
    | succ c ih =>
      intro k L4 L5 hk hok
      have hlt : ¬ nI e ≤ nI (2 * k) + 1 := by rw [nI_1]; exact nI_ge (by omega) (by omega)
      have e1 : nI (2 * k) + 1 = nI (2 * k + 1) := by rw [nI_1]
      have e2 : nI (2 * k) + Int32.ofInt 2 = nI (2 * (k + 1)) := by rw [inc2]; congr 1
      have KN : okLg Tc k → ∀ L4 L5 : Option Value, WPs l g mtX11_needLog d rc rs post px a 94 [some (.ref q), some (.int (nI e)), some (.int 1), some (.int (nI (2 * k))), L4, L5] [.int 1] [(q, ob 11 i [some tp, t1, t2, t3, t4, t5, t6, t7, t8, none, none]), (tp, aB g 400 Tc)] 0 0 := by
        intro hp L4 L5
        have k2 := fun L4 L5 => ih (k + 1) L4 L5 (by omega) (fun j hj => by
          by_cases hjk : j = k
          · rw [hjk]; exact hp
          · exact hok j (by omega))
        clear ih Kok Kno K20b K17b
        generalize ekk : 2 * (k + 1) = kk at *
        refine q_istore_n 2 95 (L' := [_, _, _, _, _, _]) dX11_needLog_94 rfl (by decide) rfl rfl ?_
        refine q_iinc 3 _ 98 (L' := [_, _, _, _, _, _]) dX11_needLog_95 rfl rfl (by decide) rfl rfl ?_
        refine q_goto 20 dX11_needLog_98 (by decide) ?_
        rw [e2]; exact k2 _ _
      have KB : ¬ okLg Tc k → ∀ L4 L5 : Option Value, WPs l g mtX11_needLog d rc rs post px a 94 [some (.ref q), some (.int (nI e)), some (.int 1), some (.int (nI (2 * k))), L4, L5] [.int 0] [(q, ob 11 i [some tp, t1, t2, t3, t4, t5, t6, t7, t8, none, none]), (tp, aB g 400 Tc)] 0 0 := by
        intro hp L4 L5
        have k2 := K20b (fun h => hp (h.2.2 k (by omega)))
        clear ih Kok Kno K20b K17b
        refine q_istore_n 2 95 (L' := [_, _, _, _, _, _]) dX11_needLog_94 rfl (by decide) rfl rfl ?_
        refine q_iinc 3 _ 98 (L' := [_, _, _, _, _, _]) dX11_needLog_95 rfl rfl (by decide) rfl rfl ?_
        refine q_goto 20 dX11_needLog_98 (by decide) ?_
        exact k2 _ _ _
      clear ih Kok Kno K20b K17b
      unfold okLg at KN KB
      generalize ekk : 2 * k = kk at *
      generalize ekq : kk + 1 = kq at *
      have K57 : ∀ mo : Int32, mo = (if hoW (Tc kk) = 2 then 57 else 48) → WPs l g mtX11_needLog d rc rs post px a 55 [some (.ref q), some (.int (nI e)), some (.int 1), some (.int (nI kk)), some (.int (hoW (Tc kk))), L5] [.int mo] [(q, ob 11 i [some tp, t1, t2, t3, t4, t5, t6, t7, t8, none, none]), (tp, aB g 400 Tc)] 0 0 := by
        intro mo hmo
        rw [← hmo] at KN KB
        clear hmo
        by_cases g1 : hoW (Tc kk) = -1
        · have k2 := KB (fun h => h.1 g1)
          refine q_istore 5 57 (L' := [_, _, _, _, _, _]) dX11_needLog_55 (by decide) rfl rfl ?_
          refine q_iload 4 59 dX11_needLog_57 rfl rfl ?_
          refine q_iconst (-1) 60 dX11_needLog_59 ic_m1 rfl ?_
          refine q_icmp_eq 93 63 dX11_needLog_60 (by decide) rfl (fun h60 => ?_) (fun h60 => absurd g1 h60)
          skip
          refine q_iconst 0 94 dX11_needLog_93 ic_0 rfl ?_
          exact k2 _ _
        · by_cases g2 : Tc kq < 48
          · have k2 := KB (fun h => h.2.1 g2)
            refine q_istore 5 57 (L' := [_, _, _, _, _, _]) dX11_needLog_55 (by decide) rfl rfl ?_
            refine q_iload 4 59 dX11_needLog_57 rfl rfl ?_
            refine q_iconst (-1) 60 dX11_needLog_59 ic_m1 rfl ?_
            refine q_icmp_eq 93 63 dX11_needLog_60 (by decide) rfl (fun h60 => absurd h60 g1) (fun h60 => ?_)
            refine q_aload_n 0 64 dX11_needLog_63 rfl rfl rfl ?_
            refine q_getR 0 67 f_X11_9 dX11_needLog_64 rfl rfl rfl rfl ?_
            refine q_iload_n 3 68 dX11_needLog_67 rfl rfl rfl ?_
            refine q_iconst 1 69 dX11_needLog_68 ic_1 rfl ?_
            refine q_iadd 70 dX11_needLog_69 rfl ?_
            refine q_bald 1 kq 71 dX11_needLog_70 rfl ⟨e1, by omega, by decide⟩ rfl ?_
            refine q_bipush 48 73 dX11_needLog_71 bc_48 rfl ?_
            refine q_icmp_lt 93 76 dX11_needLog_73 (by decide) rfl (fun h73 => ?_) (fun h73 => absurd g2 h73)
            skip
            refine q_iconst 0 94 dX11_needLog_93 ic_0 rfl ?_
            exact k2 _ _
          · by_cases g3 : mo < Tc kq
            · have k2 := KB (fun h => h.2.2 g3)
              refine q_istore 5 57 (L' := [_, _, _, _, _, _]) dX11_needLog_55 (by decide) rfl rfl ?_
              refine q_iload 4 59 dX11_needLog_57 rfl rfl ?_
              refine q_iconst (-1) 60 dX11_needLog_59 ic_m1 rfl ?_
              refine q_icmp_eq 93 63 dX11_needLog_60 (by decide) rfl (fun h60 => absurd h60 g1) (fun h60 => ?_)
              refine q_aload_n 0 64 dX11_needLog_63 rfl rfl rfl ?_
              refine q_getR 0 67 f_X11_9 dX11_needLog_64 rfl rfl rfl rfl ?_
              refine q_iload_n 3 68 dX11_needLog_67 rfl rfl rfl ?_
              refine q_iconst 1 69 dX11_needLog_68 ic_1 rfl ?_
              refine q_iadd 70 dX11_needLog_69 rfl ?_
              refine q_bald 1 kq 71 dX11_needLog_70 rfl ⟨e1, by omega, by decide⟩ rfl ?_
              refine q_bipush 48 73 dX11_needLog_71 bc_48 rfl ?_
              refine q_icmp_lt 93 76 dX11_needLog_73 (by decide) rfl (fun h73 => absurd h73 g2) (fun h73 => ?_)
              refine q_aload_n 0 77 dX11_needLog_76 rfl rfl rfl ?_
              refine q_getR 0 80 f_X11_9 dX11_needLog_77 rfl rfl rfl rfl ?_
              refine q_iload_n 3 81 dX11_needLog_80 rfl rfl rfl ?_
              refine q_iconst 1 82 dX11_needLog_81 ic_1 rfl ?_
              refine q_iadd 83 dX11_needLog_82 rfl ?_
              refine q_bald 1 kq 84 dX11_needLog_83 rfl ⟨e1, by omega, by decide⟩ rfl ?_
              refine q_iload 5 86 dX11_needLog_84 rfl rfl ?_
              refine q_icmp_gt 93 89 dX11_needLog_86 (by decide) rfl (fun h86 => ?_) (fun h86 => absurd g3 h86)
              skip
              refine q_iconst 0 94 dX11_needLog_93 ic_0 rfl ?_
              exact k2 _ _
            · have k2 := KN ⟨g1, g2, g3⟩
              refine q_istore 5 57 (L' := [_, _, _, _, _, _]) dX11_needLog_55 (by decide) rfl rfl ?_
              refine q_iload 4 59 dX11_needLog_57 rfl rfl ?_
              refine q_iconst (-1) 60 dX11_needLog_59 ic_m1 rfl ?_
              refine q_icmp_eq 93 63 dX11_needLog_60 (by decide) rfl (fun h60 => absurd h60 g1) (fun h60 => ?_)
              refine q_aload_n 0 64 dX11_needLog_63 rfl rfl rfl ?_
              refine q_getR 0 67 f_X11_9 dX11_needLog_64 rfl rfl rfl rfl ?_
              refine q_iload_n 3 68 dX11_needLog_67 rfl rfl rfl ?_
              refine q_iconst 1 69 dX11_needLog_68 ic_1 rfl ?_
              refine q_iadd 70 dX11_needLog_69 rfl ?_
              refine q_bald 1 kq 71 dX11_needLog_70 rfl ⟨e1, by omega, by decide⟩ rfl ?_
              refine q_bipush 48 73 dX11_needLog_71 bc_48 rfl ?_
              refine q_icmp_lt 93 76 dX11_needLog_73 (by decide) rfl (fun h73 => absurd h73 g2) (fun h73 => ?_)
              refine q_aload_n 0 77 dX11_needLog_76 rfl rfl rfl ?_
              refine q_getR 0 80 f_X11_9 dX11_needLog_77 rfl rfl rfl rfl ?_
              refine q_iload_n 3 81 dX11_needLog_80 rfl rfl rfl ?_
              refine q_iconst 1 82 dX11_needLog_81 ic_1 rfl ?_
              refine q_iadd 83 dX11_needLog_82 rfl ?_
              refine q_bald 1 kq 84 dX11_needLog_83 rfl ⟨e1, by omega, by decide⟩ rfl ?_
              refine q_iload 5 86 dX11_needLog_84 rfl rfl ?_
              refine q_icmp_gt 93 89 dX11_needLog_86 (by decide) rfl (fun h86 => absurd h86 g3) (fun h86 => ?_)
              refine q_iconst 1 90 dX11_needLog_89 ic_1 rfl ?_
              refine q_goto 94 dX11_needLog_90 (by decide) ?_
              exact k2 _ _
      clear KN KB
      by_cases g2 : hoW (Tc kk) = 2
      · have k2 := K57 57 (by rw [if_pos g2])
        refine q_iload_n 2 21 dX11_needLog_20 rfl rfl rfl ?_
        refine q_if_eq 101 24 dX11_needLog_21 (by decide) rfl (fun h21 => absurd h21 (by decide)) (fun h21 => ?_)
        refine q_iload_n 3 25 dX11_needLog_24 rfl rfl rfl ?_
        refine q_iconst 1 26 dX11_needLog_25 ic_1 rfl ?_
        refine q_iadd 27 dX11_needLog_26 rfl ?_
        refine q_iload_n 1 28 dX11_needLog_27 rfl rfl rfl ?_
        refine q_icmp_ge 101 31 dX11_needLog_28 (by decide) rfl (fun h28 => absurd h28 hlt) (fun h28 => ?_)
        refine q_aload_n 0 32 dX11_needLog_31 rfl rfl rfl ?_
        refine q_getR 0 35 f_X11_9 dX11_needLog_32 rfl rfl rfl rfl ?_
        refine q_iload_n 3 36 dX11_needLog_35 rfl rfl rfl ?_
        refine q_bald 1 kk 37 dX11_needLog_36 rfl ⟨rfl, by omega, by decide⟩ rfl ?_
        refine q_cSi [] [0, 1] [0, 1] 40 (wr := [_, _]) (w1 := _) (ws' := [_, _]) c_X11_howOf m_X11_269 dX11_needLog_37 rfl rfl rfl rfl rfl (by decide) (by decide) (by decide) (by decide) (Nat.le_of_ble_eq_true rfl) (by omega) (by omega) (by omega) rfl ?_
        refine q_istore 4 42 (L' := [_, _, _, _, _, _]) dX11_needLog_40 (by decide) rfl rfl ?_
        refine q_iload 4 44 dX11_needLog_42 rfl rfl ?_
        refine q_iconst 2 45 dX11_needLog_44 ic_2 rfl ?_
        refine q_icmp_ne 53 48 dX11_needLog_45 (by decide) rfl (fun h45 => absurd g2 h45) (fun h45 => ?_)
        refine q_bipush 57 50 dX11_needLog_48 bc_57 rfl ?_
        refine q_goto 55 dX11_needLog_50 (by decide) ?_
        exact k2
      · have k2 := K57 48 (by rw [if_neg g2])
        refine q_iload_n 2 21 dX11_needLog_20 rfl rfl rfl ?_
        refine q_if_eq 101 24 dX11_needLog_21 (by decide) rfl (fun h21 => absurd h21 (by decide)) (fun h21 => ?_)
        refine q_iload_n 3 25 dX11_needLog_24 rfl rfl rfl ?_
        refine q_iconst 1 26 dX11_needLog_25 ic_1 rfl ?_
        refine q_iadd 27 dX11_needLog_26 rfl ?_
        refine q_iload_n 1 28 dX11_needLog_27 rfl rfl rfl ?_
        refine q_icmp_ge 101 31 dX11_needLog_28 (by decide) rfl (fun h28 => absurd h28 hlt) (fun h28 => ?_)
        refine q_aload_n 0 32 dX11_needLog_31 rfl rfl rfl ?_
        refine q_getR 0 35 f_X11_9 dX11_needLog_32 rfl rfl rfl rfl ?_
        refine q_iload_n 3 36 dX11_needLog_35 rfl rfl rfl ?_
        refine q_bald 1 kk 37 dX11_needLog_36 rfl ⟨rfl, by omega, by decide⟩ rfl ?_
        refine q_cSi [] [0, 1] [0, 1] 40 (wr := [_, _]) (w1 := _) (ws' := [_, _]) c_X11_howOf m_X11_269 dX11_needLog_37 rfl rfl rfl rfl rfl (by decide) (by decide) (by decide) (by decide) (Nat.le_of_ble_eq_true rfl) (by omega) (by omega) (by omega) rfl ?_
        refine q_istore 4 42 (L' := [_, _, _, _, _, _]) dX11_needLog_40 (by decide) rfl rfl ?_
        refine q_iload 4 44 dX11_needLog_42 rfl rfl ?_
        refine q_iconst 2 45 dX11_needLog_44 ic_2 rfl ?_
        refine q_icmp_ne 53 48 dX11_needLog_45 (by decide) rfl (fun h45 => ?_) (fun h45 => absurd h45 g2)
        refine q_bipush 48 55 dX11_needLog_53 bc_48 rfl ?_
        exact k2
  by_cases h2 : e % 2 = 0
  · have er0 : nI e - nI e / 2 * 2 = 0 := by rw [er, h2]; decide
    by_cases h60 : e ≤ 60
    · have k2 := K20 h2 h60 (e / 2) 0 none none (by omega) (fun j hj => absurd hj (Nat.not_lt_zero _))
      have hng : ¬ (60 : Int32) < nI e := by rw [show (60 : Int32) = nI 60 by decide]; exact nI_nlt h60 (by decide)
      clear K20 K20b K17b Kok Kno
      refine q_iload_n 1 1 dX11_needLog_0 rfl rfl rfl ?_
      refine q_iconst 2 2 dX11_needLog_1 ic_2 rfl ?_
      refine q_irem 3 dX11_needLog_2 (by decide) rfl ?_
      refine q_if_ne 16 6 dX11_needLog_3 (by decide) rfl (fun h3 => absurd er0 h3) (fun h3 => ?_)
      refine q_iload_n 1 7 dX11_needLog_6 rfl rfl rfl ?_
      refine q_bipush 60 9 dX11_needLog_7 bc_60 rfl ?_
      refine q_icmp_gt 16 12 dX11_needLog_9 (by decide) rfl (fun h9 => absurd h9 hng) (fun h9 => ?_)
      refine q_iconst 1 13 dX11_needLog_12 ic_1 rfl ?_
      refine q_goto 17 dX11_needLog_13 (by decide) ?_
      refine q_istore_n 2 18 (L' := [_, _, _, _, _, _]) dX11_needLog_17 rfl (by decide) rfl rfl ?_
      refine q_iconst 0 19 dX11_needLog_18 ic_0 rfl ?_
      refine q_istore_n 3 20 (L' := [_, _, _, _, _, _]) dX11_needLog_19 rfl (by decide) rfl rfl ?_
      exact k2
    · have k2 := K17b (fun h => h60 h.2.1)
      have hng : (60 : Int32) < nI e := by rw [show (60 : Int32) = nI 60 by decide]; exact nI_lt (by omega) (by omega)
      clear K20 K20b K17b Kok Kno
      refine q_iload_n 1 1 dX11_needLog_0 rfl rfl rfl ?_
      refine q_iconst 2 2 dX11_needLog_1 ic_2 rfl ?_
      refine q_irem 3 dX11_needLog_2 (by decide) rfl ?_
      refine q_if_ne 16 6 dX11_needLog_3 (by decide) rfl (fun h3 => absurd er0 h3) (fun h3 => ?_)
      refine q_iload_n 1 7 dX11_needLog_6 rfl rfl rfl ?_
      refine q_bipush 60 9 dX11_needLog_7 bc_60 rfl ?_
      refine q_icmp_gt 16 12 dX11_needLog_9 (by decide) rfl (fun h9 => ?_) (fun h9 => absurd hng h9)
      exact k2
  · have k2 := K17b (fun h => h2 h.1)
    have er0 : ¬ nI e - nI e / 2 * 2 = 0 := by
      rw [er]
      intro h
      exact h2 (nI_eqI (by omega) (by decide) (h.trans (by decide : (0 : Int32) = nI 0)))
    clear K20 K20b K17b Kok Kno
    refine q_iload_n 1 1 dX11_needLog_0 rfl rfl rfl ?_
    refine q_iconst 2 2 dX11_needLog_1 ic_2 rfl ?_
    refine q_irem 3 dX11_needLog_2 (by decide) rfl ?_
    refine q_if_ne 16 6 dX11_needLog_3 (by decide) rfl (fun h3 => ?_) (fun h3 => absurd h3 er0)
    exact k2
theorem c_X11_needLog {l : Launch} {g : Gh} {q tp e : Nat} {i Tc : Sc} {t1 t2 t3 t4 t5 t6 t7 t8 : Option Nat} (he4 : e ≤ 400) (h : lgOK Tc e) : Cp l g yX11_needLog (Cond.code yX11_needLog cX11_needLog 6 none) 1 [.ref q, .int (nI e)] [(q, ob 11 i [some tp, t1, t2, t3, t4, t5, t6, t7, t8, none, none]), (tp, aB g 400 Tc)] none [(q, ob 11 i [some tp, t1, t2, t3, t4, t5, t6, t7, t8, none, none]), (tp, aB g 400 Tc)] := by
  refine ct_of (M := mtX11_needLog) [some (.ref q), some (.int (nI e)), none, none, none, none] rfl (by decide) (Nat.le_of_ble_eq_true rfl) (fun _ h => h) (fun a => ?_)
  refine w_needLog he4 (by omega) (fun _ L3 L4 L5 => ?_) (fun hn => absurd h hn)
  refine q_iload_n 2 102 dX11_needLog_101 rfl rfl rfl ?_
  refine q_if_ne 116 105 dX11_needLog_102 (by decide) rfl (fun h102 => ?_) (fun h102 => absurd h102 (by decide))
  refine q_return dX11_needLog_116 rfl ?_
  exact pR.rf
theorem x_X11_needLog {l : Launch} {g : Gh} {q tp e : Nat} {i Tc : Sc} {t1 t2 t3 t4 t5 t6 t7 t8 : Option Nat} (he4 : e ≤ 400) (h : ¬ lgOK Tc e) : Cx l g yX11_needLog (Cond.code yX11_needLog cX11_needLog 6 none) 6 [.ref q, .int (nI e)] [(q, ob 11 i [some tp, t1, t2, t3, t4, t5, t6, t7, t8, none, none]), (tp, aB g 400 Tc)] "java/lang/IllegalArgumentException" [(q, ob 11 i [some tp, t1, t2, t3, t4, t5, t6, t7, t8, none, none]), (tp, aB g 400 Tc)] := by
  refine ct_of (M := mtX11_needLog) [some (.ref q), some (.int (nI e)), none, none, none, none] rfl (by decide) (Nat.le_of_ble_eq_true rfl) (fun _ h => h) (fun a => ?_)
  refine w_needLog he4 (by omega) (fun hn => absurd hn h) (fun _ L3 L4 L5 => ?_)
  refine q_iload_n 2 102 dX11_needLog_101 rfl rfl rfl ?_
  refine q_if_ne 116 105 dX11_needLog_102 (by decide) rfl (fun h102 => absurd rfl h102) (fun h102 => ?_)
  refine q_throwW ex_IAE sr_X11_339 rfl rfl dX11_needLog_105 dX11_needLog_108 dX11_needLog_109 dX11_needLog_112 dX11_needLog_115 (by omega) (by omega) (by omega) ?_
  exact pT.rf

