/-! ===== atom at every depth ===== -/
theorem ps11 (i : Nat → Int32) (n : Nat) (f s : Int32) (j : Nat) : ps i n f (nI j) s 11 + 1 = nI (j + 1) := nI_1 j
theorem ps11m (i : Nat → Int32) (n : Nat) (f s : Int32) (j : Nat) : ps i n f (nI (j + 1)) s 11 - 1 = nI j := nI_pred j
theorem p_atomS {l : Launch} {g : Gh} {q : Nat} {A : Nat → Nat} {i m tp fc T : Nat → Int32} {e D k j : Nat} {s : Int32} (hT : TxOK (i 7) (i 8) m tp T e) (hsv : i 13 = 0 ∨ i 13 = 1) (hof : i 14 = 0 ∨ i 14 = 1) (hj : j < 6) (hk9 : k ≤ 9) (hD : 9 ≤ D) (hA : CAt l g q A i m tp fc e D (nI (j + 1)) s (atomG T fc (i 13) (i 14) e k)) (hS9 : CSm l g q A i m tp fc e (D + 2) (nI (j + 1)) s (someG (atomG T fc (i 13) (i 14) e k) T e)) : CAt l g q A i m tp fc e (D + 3) (nI j) s (atomG T fc (i 13) (i 14) e (k + 1)) := by
  intro n f hn
  refine ct_of (M := mtX12_atom) [some (.ref q), none, none, none] rfl (by decide) (Nat.le_of_ble_eq_true rfl) (fun _ h => h) (fun a => ?_)
  have he : e ≤ 400 := hT.2.1
  have hsk := sk_in (T := T) hn
  have hss := sk_sk T e n
  have hd6 : ¬ nI j = 6 := fun h => by
    have := (nI_eq (a := j) (b := 6) (by omega) (by omega)).mp h
    omega
  rw [atomG]
  by_cases hf : f = -1
  · rw [if_pos hf]
    subst hf
    generalize hskn : sk T e n = r at *
    by_cases hw : isW T e r w_not
    · rw [if_pos hw]
      have h3 : r + 3 ≤ e := isW_in hw (by decide)
      refine q_aload_n 0 1 dX12_atom_0 rfl rfl rfl ?_
      refine q_getI 0 4 f_X12_22 dX12_atom_1 rfl rfl rfl ?_
      refine q_iconst (-1) 5 dX12_atom_4 ic_m1 rfl ?_
      refine q_icmp_eq 10 8 dX12_atom_5 (by decide) rfl (fun h5 => ?_) (fun h5 => absurd rfl h5)
      refine q_aload_n 0 11 dX12_atom_10 rfl rfl rfl ?_
      refine q_cVv 0 [0, 1, 2] [3] [1, 2, 3, 0] 14 (wr := [_]) (w1 := _) (ws' := [_, _, _, _]) (p_skip (T := T) (e := e) (n := n) hT (by omega)) m_X12_90 dX12_atom_11 rfl rfl rfl rfl rfl rfl rfl rfl (by decide) (by decide) (by decide) (by decide) (Nat.le_of_ble_eq_true rfl) (by omega) (by omega) (by omega) rfl ?_
      rw [hskn]
      refine q_aload_n 0 15 dX12_atom_14 rfl rfl rfl ?_
      refine q_getI 0 18 f_X12_80 dX12_atom_15 rfl rfl rfl ?_
      refine q_istore_n 1 19 (L' := [_, _, _, _]) dX12_atom_18 rfl (by decide) rfl rfl ?_
      refine q_aload_n 0 20 dX12_atom_19 rfl rfl rfl ?_
      refine q_ldcS "not" 22 sr_X12_171 dX12_atom_20 rfl ?_
      refine q_cVi 0 [0, 1, 2] [3] [1, 2, 3, 0] 25 (wr := [_]) (w1 := _) (ws' := [_, _, _, _]) (p_has sw_X12_171 (by decide) (T := T) (e := e) (n := r) hT (by omega)) m_X12_109 dX12_atom_22 rfl rfl rfl rfl rfl rfl rfl rfl (by decide) (by decide) (by decide) (by decide) (Nat.le_of_ble_eq_true rfl) (by omega) (by omega) (by omega) rfl ?_
      rw [hasB_t hw hss, hasN_t hw hss]
      refine q_istore_n 2 26 (L' := [_, _, _, _]) dX12_atom_25 rfl (by decide) rfl rfl ?_
      refine q_iload_n 2 27 dX12_atom_26 rfl rfl rfl ?_
      refine q_if_ne 44 30 dX12_atom_27 (by decide) rfl (fun h27 => ?_) (fun h27 => absurd h27 (by decide))
      refine q_aload_n 0 45 dX12_atom_44 rfl rfl rfl ?_
      refine q_getI 0 48 f_X12_129 dX12_atom_45 rfl rfl rfl ?_
      refine q_bipush 6 50 dX12_atom_48 bc_6 rfl ?_
      refine q_icmp_ne 60 53 dX12_atom_50 (by decide) rfl (fun h50 => ?_) (fun h50 => absurd h50 hd6)
      refine q_aload_n 0 61 dX12_atom_60 rfl rfl rfl ?_
      refine q_dup 62 dX12_atom_61 rfl rfl ?_
      refine q_getI 0 65 f_X12_129 dX12_atom_62 rfl rfl rfl ?_
      refine q_iconst 1 66 dX12_atom_65 ic_1 rfl ?_
      refine q_iadd 67 dX12_atom_66 rfl ?_
      refine q_putI 0 70 (w' := [_, _, _, _]) f_X12_129 ft_X12_11 dX12_atom_67 rfl rfl rfl rfl ?_
      rw [ps11, ps_11]
      refine q_iconst 0 71 dX12_atom_70 ic_0 rfl ?_
      refine q_istore_n 3 72 (L' := [_, _, _, _]) dX12_atom_71 rfl (by decide) rfl rfl ?_
      refine q_iload_n 2 73 dX12_atom_72 rfl rfl rfl ?_
      refine q_if_eq 92 76 dX12_atom_73 (by decide) rfl (fun h73 => absurd h73 (by decide)) (fun h73 => ?_)
      refine q_aload_n 0 77 dX12_atom_76 rfl rfl rfl ?_
      refine q_cVi 0 [0, 1, 2, 3] [] [0, 1, 2, 3] 80 (wr := []) (w1 := _) (ws' := [_, _, _, _]) (hA (r + 3) (-1) h3) m_X12_177 dX12_atom_77 rfl rfl rfl rfl rfl rfl rfl rfl (by decide) (by decide) (by decide) (by decide) (Nat.le_of_ble_eq_true rfl) (by omega) (by omega) (by omega) rfl ?_
      refine q_if_ne 87 83 dX12_atom_80 (by decide) rfl (fun hv => ?_) (fun hv => ?_)
      · refine q_iconst 0 88 dX12_atom_87 ic_0 rfl ?_
        refine q_istore_n 3 89 (L' := [_, _, _, _]) dX12_atom_88 rfl (by decide) rfl rfl ?_
        refine q_goto 142 dX12_atom_89 (by decide) ?_
        refine q_aload_n 0 143 dX12_atom_142 rfl rfl rfl ?_
        refine q_dup 144 dX12_atom_143 rfl rfl ?_
        refine q_getI 0 147 f_X12_129 dX12_atom_144 rfl rfl rfl ?_
        refine q_iconst 1 148 dX12_atom_147 ic_1 rfl ?_
        refine q_isub 149 dX12_atom_148 rfl ?_
        refine q_putI 0 152 (w' := [_, _, _, _]) f_X12_129 ft_X12_11 dX12_atom_149 rfl rfl rfl rfl ?_
        rw [ps11m, ps_11]
        refine q_iload_n 3 153 dX12_atom_152 rfl rfl rfl ?_
        refine q_zreturn dX12_atom_153 rfl (Or.inl rfl) ?_
        first
          | exact pR.mk (by rw [if_neg hv]) rfl
          | exact pR.mk (by rw [if_pos hv]) rfl
      · refine q_iconst 1 84 dX12_atom_83 ic_1 rfl ?_
        refine q_goto 88 dX12_atom_84 (by decide) ?_
        refine q_istore_n 3 89 (L' := [_, _, _, _]) dX12_atom_88 rfl (by decide) rfl rfl ?_
        refine q_goto 142 dX12_atom_89 (by decide) ?_
        refine q_aload_n 0 143 dX12_atom_142 rfl rfl rfl ?_
        refine q_dup 144 dX12_atom_143 rfl rfl ?_
        refine q_getI 0 147 f_X12_129 dX12_atom_144 rfl rfl rfl ?_
        refine q_iconst 1 148 dX12_atom_147 ic_1 rfl ?_
        refine q_isub 149 dX12_atom_148 rfl ?_
        refine q_putI 0 152 (w' := [_, _, _, _]) f_X12_129 ft_X12_11 dX12_atom_149 rfl rfl rfl rfl ?_
        rw [ps11m, ps_11]
        refine q_iload_n 3 153 dX12_atom_152 rfl rfl rfl ?_
        refine q_zreturn dX12_atom_153 rfl (Or.inr rfl) ?_
        first
          | exact pR.mk (by rw [if_neg hv]) rfl
          | exact pR.mk (by rw [if_pos hv]) rfl
    · rw [if_neg hw]
      by_cases hp : isP T e r
      · rw [if_pos hp]
        have hok := someG_ok (at0 := atomG T fc (i 13) (i 14) e k) (T := T) (e := e) (b := k) (fun n f h => atomG_ok (fc := fc) he hsv hof k n f h) (r + 1) (-1) hp.1
        have hSM := hS9 (r + 1) (-1) hp.1
        generalize someG (atomG T fc (i 13) (i 14) e k) T e (r + 1) (-1) = z at *
        obtain ⟨v, n1, f1⟩ := z
        obtain ⟨a1, a2, a3, a4⟩ := hok
        dsimp only at a1 a2 a3 a4 hSM
        have K107 : WPs l g mtX12_atom (D + 3) 0 0 (pR (some (.int (clR T e (v, n1, f1)).1)) (wQ g q A i m tp fc (clR T e (v, n1, f1)).2.1 (clR T e (v, n1, f1)).2.2 (nI j) s)) noX a 107 [some (.ref q), some (.int (nI r)), some (.int 0), some (.int v)] [] (wQ g q A i m tp fc n1 f1 (nI (j + 1)) s) 0 0 := by
          unfold clR
          dsimp only
          by_cases hf1 : f1 = -1
          · rw [if_pos hf1, if_pos hf1]
            have hn1 := a4 hf1
            have hsk1 := sk_in (T := T) hn1
            subst hf1
            by_cases hc : sk T e n1 < e ∧ T (sk T e n1) = 41
            · rw [if_pos hc]
              refine q_aload_n 0 108 dX12_atom_107 rfl rfl rfl ?_
              refine q_getI 0 111 f_X12_22 dX12_atom_108 rfl rfl rfl ?_
              refine q_iconst (-1) 112 dX12_atom_111 ic_m1 rfl ?_
              refine q_icmp_ne 132 115 dX12_atom_112 (by decide) rfl (fun h112 => absurd rfl h112) (fun h112 => ?_)
              refine q_aload_n 0 116 dX12_atom_115 rfl rfl rfl ?_
              refine q_bipush 41 118 dX12_atom_116 bc_41 rfl ?_
              refine q_cVi 0 [0, 1, 2] [3] [1, 2, 3, 0] 121 (wr := [_]) (w1 := _) (ws' := [_, _, _, _]) (p_isSign (T := T) (e := e) (n := n1) hT (by omega)) m_X12_138 dX12_atom_118 rfl rfl rfl rfl rfl rfl rfl rfl (by decide) (by decide) (by decide) (by decide) (Nat.le_of_ble_eq_true rfl) (by omega) (by omega) (by omega) rfl ?_
              rw [if_pos hc]
              refine q_if_ne 132 124 dX12_atom_121 (by decide) rfl (fun h121 => ?_) (fun h121 => absurd h121 (by decide))
              refine q_aload_n 0 133 dX12_atom_132 rfl rfl rfl ?_
              refine q_dup 134 dX12_atom_133 rfl rfl ?_
              refine q_getI 0 137 f_X12_80 dX12_atom_134 rfl rfl rfl ?_
              refine q_iconst 1 138 dX12_atom_137 ic_1 rfl ?_
              refine q_iadd 139 dX12_atom_138 rfl ?_
              refine q_putI 0 142 (w' := [_, _, _, _]) f_X12_80 ft_X12_9 dX12_atom_139 rfl rfl rfl rfl ?_
              rw [show ps i (sk T e n1) (-1) (nI (j + 1)) s 9 + 1 = nI (sk T e n1 + 1) from nI_1 _, ps_9]
              refine q_aload_n 0 143 dX12_atom_142 rfl rfl rfl ?_
              refine q_dup 144 dX12_atom_143 rfl rfl ?_
              refine q_getI 0 147 f_X12_129 dX12_atom_144 rfl rfl rfl ?_
              refine q_iconst 1 148 dX12_atom_147 ic_1 rfl ?_
              refine q_isub 149 dX12_atom_148 rfl ?_
              refine q_putI 0 152 (w' := [_, _, _, _]) f_X12_129 ft_X12_11 dX12_atom_149 rfl rfl rfl rfl ?_
              rw [ps11m, ps_11]
              refine q_iload_n 3 153 dX12_atom_152 rfl rfl rfl ?_
              refine q_zreturn dX12_atom_153 rfl a1 ?_
              exact pR.rf
            · rw [if_neg hc]
              refine q_aload_n 0 108 dX12_atom_107 rfl rfl rfl ?_
              refine q_getI 0 111 f_X12_22 dX12_atom_108 rfl rfl rfl ?_
              refine q_iconst (-1) 112 dX12_atom_111 ic_m1 rfl ?_
              refine q_icmp_ne 132 115 dX12_atom_112 (by decide) rfl (fun h112 => absurd rfl h112) (fun h112 => ?_)
              refine q_aload_n 0 116 dX12_atom_115 rfl rfl rfl ?_
              refine q_bipush 41 118 dX12_atom_116 bc_41 rfl ?_
              refine q_cVi 0 [0, 1, 2] [3] [1, 2, 3, 0] 121 (wr := [_]) (w1 := _) (ws' := [_, _, _, _]) (p_isSign (T := T) (e := e) (n := n1) hT (by omega)) m_X12_138 dX12_atom_118 rfl rfl rfl rfl rfl rfl rfl rfl (by decide) (by decide) (by decide) (by decide) (Nat.le_of_ble_eq_true rfl) (by omega) (by omega) (by omega) rfl ?_
              rw [if_neg hc]
              refine q_if_ne 132 124 dX12_atom_121 (by decide) rfl (fun h121 => absurd rfl h121) (fun h121 => ?_)
              refine q_aload_n 0 125 dX12_atom_124 rfl rfl rfl ?_
              refine q_aload_n 0 126 dX12_atom_125 rfl rfl rfl ?_
              refine q_getI 0 129 f_X12_80 dX12_atom_126 rfl rfl rfl ?_
              refine q_cVv 0 [0] [1, 2, 3] [3, 0, 1, 2] 132 (wr := [_, _, _]) (w1 := _) (ws' := [_, _, _, _]) p_wrong m_X12_103 dX12_atom_129 rfl rfl rfl rfl rfl rfl rfl rfl (by decide) (by decide) (by decide) (by decide) (Nat.le_of_ble_eq_true rfl) (by omega) (by omega) (by omega) rfl ?_
              refine q_aload_n 0 133 dX12_atom_132 rfl rfl rfl ?_
              refine q_dup 134 dX12_atom_133 rfl rfl ?_
              refine q_getI 0 137 f_X12_80 dX12_atom_134 rfl rfl rfl ?_
              refine q_iconst 1 138 dX12_atom_137 ic_1 rfl ?_
              refine q_iadd 139 dX12_atom_138 rfl ?_
              refine q_putI 0 142 (w' := [_, _, _, _]) f_X12_80 ft_X12_9 dX12_atom_139 rfl rfl rfl rfl ?_
              rw [show ps i (sk T e n1) (wr (-1) (ps i (sk T e n1) (-1) (nI (j + 1)) s 9)) (nI (j + 1)) s 9 + 1 = nI (sk T e n1 + 1) from nI_1 _, ps_9]
              refine q_aload_n 0 143 dX12_atom_142 rfl rfl rfl ?_
              refine q_dup 144 dX12_atom_143 rfl rfl ?_
              refine q_getI 0 147 f_X12_129 dX12_atom_144 rfl rfl rfl ?_
              refine q_iconst 1 148 dX12_atom_147 ic_1 rfl ?_
              refine q_isub 149 dX12_atom_148 rfl ?_
              refine q_putI 0 152 (w' := [_, _, _, _]) f_X12_129 ft_X12_11 dX12_atom_149 rfl rfl rfl rfl ?_
              rw [ps11m, ps_11]
              refine q_iload_n 3 153 dX12_atom_152 rfl rfl rfl ?_
              refine q_zreturn dX12_atom_153 rfl a1 ?_
              exact pR.rf
          · rw [if_neg hf1, if_neg hf1]
            refine q_aload_n 0 108 dX12_atom_107 rfl rfl rfl ?_
            refine q_getI 0 111 f_X12_22 dX12_atom_108 rfl rfl rfl ?_
            refine q_iconst (-1) 112 dX12_atom_111 ic_m1 rfl ?_
            refine q_icmp_ne 132 115 dX12_atom_112 (by decide) rfl (fun h112 => ?_) (fun h112 => absurd h112 hf1)
            refine q_aload_n 0 133 dX12_atom_132 rfl rfl rfl ?_
            refine q_dup 134 dX12_atom_133 rfl rfl ?_
            refine q_getI 0 137 f_X12_80 dX12_atom_134 rfl rfl rfl ?_
            refine q_iconst 1 138 dX12_atom_137 ic_1 rfl ?_
            refine q_iadd 139 dX12_atom_138 rfl ?_
            refine q_putI 0 142 (w' := [_, _, _, _]) f_X12_80 ft_X12_9 dX12_atom_139 rfl rfl rfl rfl ?_
            rw [show ps i n1 f1 (nI (j + 1)) s 9 + 1 = nI (n1 + 1) from nI_1 _, ps_9]
            refine q_aload_n 0 143 dX12_atom_142 rfl rfl rfl ?_
            refine q_dup 144 dX12_atom_143 rfl rfl ?_
            refine q_getI 0 147 f_X12_129 dX12_atom_144 rfl rfl rfl ?_
            refine q_iconst 1 148 dX12_atom_147 ic_1 rfl ?_
            refine q_isub 149 dX12_atom_148 rfl ?_
            refine q_putI 0 152 (w' := [_, _, _, _]) f_X12_129 ft_X12_11 dX12_atom_149 rfl rfl rfl rfl ?_
            rw [ps11m, ps_11]
            refine q_iload_n 3 153 dX12_atom_152 rfl rfl rfl ?_
            refine q_zreturn dX12_atom_153 rfl a1 ?_
            exact pR.rf
        refine q_aload_n 0 1 dX12_atom_0 rfl rfl rfl ?_
        refine q_getI 0 4 f_X12_22 dX12_atom_1 rfl rfl rfl ?_
        refine q_iconst (-1) 5 dX12_atom_4 ic_m1 rfl ?_
        refine q_icmp_eq 10 8 dX12_atom_5 (by decide) rfl (fun h5 => ?_) (fun h5 => absurd rfl h5)
        refine q_aload_n 0 11 dX12_atom_10 rfl rfl rfl ?_
        refine q_cVv 0 [0, 1, 2] [3] [1, 2, 3, 0] 14 (wr := [_]) (w1 := _) (ws' := [_, _, _, _]) (p_skip (T := T) (e := e) (n := n) hT (by omega)) m_X12_90 dX12_atom_11 rfl rfl rfl rfl rfl rfl rfl rfl (by decide) (by decide) (by decide) (by decide) (Nat.le_of_ble_eq_true rfl) (by omega) (by omega) (by omega) rfl ?_
        rw [hskn]
        refine q_aload_n 0 15 dX12_atom_14 rfl rfl rfl ?_
        refine q_getI 0 18 f_X12_80 dX12_atom_15 rfl rfl rfl ?_
        refine q_istore_n 1 19 (L' := [_, _, _, _]) dX12_atom_18 rfl (by decide) rfl rfl ?_
        refine q_aload_n 0 20 dX12_atom_19 rfl rfl rfl ?_
        refine q_ldcS "not" 22 sr_X12_171 dX12_atom_20 rfl ?_
        refine q_cVi 0 [0, 1, 2] [3] [1, 2, 3, 0] 25 (wr := [_]) (w1 := _) (ws' := [_, _, _, _]) (p_has sw_X12_171 (by decide) (T := T) (e := e) (n := r) hT (by omega)) m_X12_109 dX12_atom_22 rfl rfl rfl rfl rfl rfl rfl rfl (by decide) (by decide) (by decide) (by decide) (Nat.le_of_ble_eq_true rfl) (by omega) (by omega) (by omega) rfl ?_
        rw [hasB_f hw hss, hasN_f hw hss]
        refine q_istore_n 2 26 (L' := [_, _, _, _]) dX12_atom_25 rfl (by decide) rfl rfl ?_
        refine q_iload_n 2 27 dX12_atom_26 rfl rfl rfl ?_
        refine q_if_ne 44 30 dX12_atom_27 (by decide) rfl (fun h27 => absurd rfl h27) (fun h27 => ?_)
        refine q_aload_n 0 31 dX12_atom_30 rfl rfl rfl ?_
        refine q_bipush 40 33 dX12_atom_31 bc_40 rfl ?_
        refine q_cVi 0 [0, 1, 2] [3] [1, 2, 3, 0] 36 (wr := [_]) (w1 := _) (ws' := [_, _, _, _]) (p_isSign (T := T) (e := e) (n := r) hT (by omega)) m_X12_138 dX12_atom_33 rfl rfl rfl rfl rfl rfl rfl rfl (by decide) (by decide) (by decide) (by decide) (Nat.le_of_ble_eq_true rfl) (by omega) (by omega) (by omega) rfl ?_
        rw [hss, if_pos hp]
        refine q_if_ne 44 39 dX12_atom_36 (by decide) rfl (fun h36 => ?_) (fun h36 => absurd h36 (by decide))
        refine q_aload_n 0 45 dX12_atom_44 rfl rfl rfl ?_
        refine q_getI 0 48 f_X12_129 dX12_atom_45 rfl rfl rfl ?_
        refine q_bipush 6 50 dX12_atom_48 bc_6 rfl ?_
        refine q_icmp_ne 60 53 dX12_atom_50 (by decide) rfl (fun h50 => ?_) (fun h50 => absurd h50 hd6)
        refine q_aload_n 0 61 dX12_atom_60 rfl rfl rfl ?_
        refine q_dup 62 dX12_atom_61 rfl rfl ?_
        refine q_getI 0 65 f_X12_129 dX12_atom_62 rfl rfl rfl ?_
        refine q_iconst 1 66 dX12_atom_65 ic_1 rfl ?_
        refine q_iadd 67 dX12_atom_66 rfl ?_
        refine q_putI 0 70 (w' := [_, _, _, _]) f_X12_129 ft_X12_11 dX12_atom_67 rfl rfl rfl rfl ?_
        rw [ps11, ps_11]
        refine q_iconst 0 71 dX12_atom_70 ic_0 rfl ?_
        refine q_istore_n 3 72 (L' := [_, _, _, _]) dX12_atom_71 rfl (by decide) rfl rfl ?_
        refine q_iload_n 2 73 dX12_atom_72 rfl rfl rfl ?_
        refine q_if_eq 92 76 dX12_atom_73 (by decide) rfl (fun h73 => ?_) (fun h73 => absurd rfl h73)
        refine q_aload_n 0 93 dX12_atom_92 rfl rfl rfl ?_
        refine q_dup 94 dX12_atom_93 rfl rfl ?_
        refine q_getI 0 97 f_X12_80 dX12_atom_94 rfl rfl rfl ?_
        refine q_iconst 1 98 dX12_atom_97 ic_1 rfl ?_
        refine q_iadd 99 dX12_atom_98 rfl ?_
        refine q_putI 0 102 (w' := [_, _, _, _]) f_X12_80 ft_X12_9 dX12_atom_99 rfl rfl rfl rfl ?_
        rw [show ps i r (-1) (nI (j + 1)) s 9 + 1 = nI (r + 1) from nI_1 _, ps_9]
        refine q_aload_n 0 103 dX12_atom_102 rfl rfl rfl ?_
        refine q_cVi 0 [0, 1, 2, 3] [] [0, 1, 2, 3] 106 (wr := []) (w1 := _) (ws' := [_, _, _, _]) hSM m_X12_180 dX12_atom_103 rfl rfl rfl rfl rfl rfl rfl rfl (by decide) (by decide) (by decide) (by decide) (Nat.le_of_ble_eq_true rfl) (by omega) (by omega) (by omega) rfl ?_
        refine q_istore_n 3 107 (L' := [_, _, _, _]) dX12_atom_106 rfl (by decide) rfl rfl ?_
        exact K107
      · rw [if_neg hp]
        have hok := pcR_ok (T := T) (fc := fc) (e := e) hsv hof r hsk
        refine q_aload_n 0 1 dX12_atom_0 rfl rfl rfl ?_
        refine q_getI 0 4 f_X12_22 dX12_atom_1 rfl rfl rfl ?_
        refine q_iconst (-1) 5 dX12_atom_4 ic_m1 rfl ?_
        refine q_icmp_eq 10 8 dX12_atom_5 (by decide) rfl (fun h5 => ?_) (fun h5 => absurd rfl h5)
        refine q_aload_n 0 11 dX12_atom_10 rfl rfl rfl ?_
        refine q_cVv 0 [0, 1, 2] [3] [1, 2, 3, 0] 14 (wr := [_]) (w1 := _) (ws' := [_, _, _, _]) (p_skip (T := T) (e := e) (n := n) hT (by omega)) m_X12_90 dX12_atom_11 rfl rfl rfl rfl rfl rfl rfl rfl (by decide) (by decide) (by decide) (by decide) (Nat.le_of_ble_eq_true rfl) (by omega) (by omega) (by omega) rfl ?_
        rw [hskn]
        refine q_aload_n 0 15 dX12_atom_14 rfl rfl rfl ?_
        refine q_getI 0 18 f_X12_80 dX12_atom_15 rfl rfl rfl ?_
        refine q_istore_n 1 19 (L' := [_, _, _, _]) dX12_atom_18 rfl (by decide) rfl rfl ?_
        refine q_aload_n 0 20 dX12_atom_19 rfl rfl rfl ?_
        refine q_ldcS "not" 22 sr_X12_171 dX12_atom_20 rfl ?_
        refine q_cVi 0 [0, 1, 2] [3] [1, 2, 3, 0] 25 (wr := [_]) (w1 := _) (ws' := [_, _, _, _]) (p_has sw_X12_171 (by decide) (T := T) (e := e) (n := r) hT (by omega)) m_X12_109 dX12_atom_22 rfl rfl rfl rfl rfl rfl rfl rfl (by decide) (by decide) (by decide) (by decide) (Nat.le_of_ble_eq_true rfl) (by omega) (by omega) (by omega) rfl ?_
        rw [hasB_f hw hss, hasN_f hw hss]
        refine q_istore_n 2 26 (L' := [_, _, _, _]) dX12_atom_25 rfl (by decide) rfl rfl ?_
        refine q_iload_n 2 27 dX12_atom_26 rfl rfl rfl ?_
        refine q_if_ne 44 30 dX12_atom_27 (by decide) rfl (fun h27 => absurd rfl h27) (fun h27 => ?_)
        refine q_aload_n 0 31 dX12_atom_30 rfl rfl rfl ?_
        refine q_bipush 40 33 dX12_atom_31 bc_40 rfl ?_
        refine q_cVi 0 [0, 1, 2] [3] [1, 2, 3, 0] 36 (wr := [_]) (w1 := _) (ws' := [_, _, _, _]) (p_isSign (T := T) (e := e) (n := r) hT (by omega)) m_X12_138 dX12_atom_33 rfl rfl rfl rfl rfl rfl rfl rfl (by decide) (by decide) (by decide) (by decide) (Nat.le_of_ble_eq_true rfl) (by omega) (by omega) (by omega) rfl ?_
        rw [hss, if_neg hp]
        refine q_if_ne 44 39 dX12_atom_36 (by decide) rfl (fun h36 => absurd rfl h36) (fun h36 => ?_)
        refine q_aload_n 0 40 dX12_atom_39 rfl rfl rfl ?_
        refine q_cVi 0 [0, 1, 2, 3] [] [0, 1, 2, 3] 43 (wr := []) (w1 := _) (ws' := [_, _, _, _]) (p_plainCond (T := T) (e := e) (n := r) hT (by omega) hsv hof) m_X12_173 dX12_atom_40 rfl rfl rfl rfl rfl rfl rfl rfl (by decide) (by decide) (by decide) (by decide) (Nat.le_of_ble_eq_true rfl) (by omega) (by omega) (by omega) rfl ?_
        refine q_zreturn dX12_atom_43 rfl hok.1 ?_
        exact pR.rf
  · rw [if_neg hf]
    refine q_aload_n 0 1 dX12_atom_0 rfl rfl rfl ?_
    refine q_getI 0 4 f_X12_22 dX12_atom_1 rfl rfl rfl ?_
    refine q_iconst (-1) 5 dX12_atom_4 ic_m1 rfl ?_
    refine q_icmp_eq 10 8 dX12_atom_5 (by decide) rfl (fun h5 => absurd h5 hf) (fun h5 => ?_)
    refine q_iconst 0 9 dX12_atom_8 ic_0 rfl ?_
    refine q_zreturn dX12_atom_9 rfl (Or.inl rfl) ?_
    exact pR.rf
theorem p_atoms {l : Launch} {g : Gh} {q : Nat} {A : Nat → Nat} {i m tp fc T : Nat → Int32} {e : Nat} {s : Int32} (hT : TxOK (i 7) (i 8) m tp T e) (hsv : i 13 = 0 ∨ i 13 = 1) (hof : i 14 = 0 ∨ i 14 = 1) : ∀ k, k ≤ 6 → CAt l g q A i m tp fc e (9 + 3 * k) (nI (6 - k)) s (atomG T fc (i 13) (i 14) e k) ∧ CSm l g q A i m tp fc e (11 + 3 * k) (nI (6 - k)) s (someG (atomG T fc (i 13) (i 14) e k) T e) := by
  have he : e ≤ 400 := hT.2.1
  have up : ∀ k, k ≤ 6 → CAt l g q A i m tp fc e (9 + 3 * k) (nI (6 - k)) s (atomG T fc (i 13) (i 14) e k) → CSm l g q A i m tp fc e (11 + 3 * k) (nI (6 - k)) s (someG (atomG T fc (i 13) (i 14) e k) T e) := by
    intro k hk hA n f hn
    have hok := fun n f h => atomG_ok (T := T) (fc := fc) he hsv hof k n f h
    have hE : CEv l g q A i m tp fc e (9 + 3 * k + 1) (nI (6 - k)) s (everyG (atomG T fc (i 13) (i 14) e k) T e) := fun n f hn => p_every hT hA hok (by omega) (by omega) n f hn
    have h := p_some hT hE (everyG_ok hok) (by omega) (by omega) n f hn
    rw [show 9 + 3 * k + 1 + 1 = 11 + 3 * k by omega] at h
    exact h
  intro k
  induction k with
  | zero =>
    intro hk
    have hA := p_atom0 (l := l) (g := g) (q := q) (A := A) (fc := fc) (s := s) hT hsv hof
    exact ⟨hA, up 0 hk hA⟩
  | succ k ih =>
    intro hk
    obtain ⟨hA, hS⟩ := ih (by omega)
    have e1 : 6 - k = 6 - (k + 1) + 1 := by omega
    rw [e1] at hA hS
    have h := p_atomS (j := 6 - (k + 1)) hT hsv hof (by omega) (by omega) (by omega) hA (by rw [show 9 + 3 * k + 2 = 11 + 3 * k by omega]; exact hS)
    rw [show 9 + 3 * k + 3 = 9 + 3 * (k + 1) by omega] at h
    exact ⟨h, up (k + 1) hk h⟩

