/-! ===== ruleLine, and lines over rules ===== -/
theorem one_ne0 : ¬ (1 : Int32) = 0 := by decide
theorem figE_le (T : Nat → Int32) (e n : Nat) (h : n ≤ e) : figE T e n ≤ e := by
  have h1 := dgs_le T e 4 (sk T e n) 0
  have h2 := sk_in (T := T) h
  unfold figE
  omega
/-- ruleLine: place, fault, says -/
def rlR (T : Nat → Int32) (sm : Nat → Int32 → R3) (e n : Nat) (s : Int32) : Nat × Int32 × Int32 :=
  if isW T e (sk T e n) w_style then
    (if fgF T e (sk T e n + 5) (-1) 0 3 = -1 then
      (if isW T e (sk T e (figE T e (sk T e n + 5))) w_if then
        ((sm (sk T e (figE T e (sk T e n + 5)) + 2) (-1)).2.1, (sm (sk T e (figE T e (sk T e n + 5)) + 2) (-1)).2.2, if (sm (sk T e (figE T e (sk T e n + 5)) + 2) (-1)).2.2 = -1 ∧ ¬ (sm (sk T e (figE T e (sk T e n + 5)) + 2) (-1)).1 = 0 ∧ s = -1 then figV T e (sk T e n + 5) else s)
      else (sk T e (figE T e (sk T e n + 5)), -1, if s = -1 then figV T e (sk T e n + 5) else s))
    else (figE T e (sk T e n + 5), fgF T e (sk T e n + 5) (-1) 0 3, s))
  else (sk T e n, nI (sk T e n), s)
theorem p_ruleLine {l : Launch} {g : Gh} {q : Nat} {A : Nat → Nat} {i m tp fc T : Nat → Int32} {e n : Nat} {s : Int32} (hT : TxOK (i 7) (i 8) m tp T e) (hsv : i 13 = 0 ∨ i 13 = 1) (hof : i 14 = 0 ∨ i 14 = 1) (hn : n ≤ e) : Cp l g yX12_ruleLine (Cond.code yX12_ruleLine cX12_ruleLine 3 none) 30 [.ref q] (wQ g q A i m tp fc n (-1) 0 s) none (wQ g q A i m tp fc (rlR T (someG (atomG T fc (i 13) (i 14) e 6) T e) e n s).1 (rlR T (someG (atomG T fc (i 13) (i 14) e 6) T e) e n s).2.1 0 (rlR T (someG (atomG T fc (i 13) (i 14) e 6) T e) e n s).2.2) := by
  refine ct_of (M := mtX12_ruleLine) [some (.ref q), none, none] rfl (by decide) (Nat.le_of_ble_eq_true rfl) (fun _ h => h) (fun a => ?_)
  have he : e ≤ 400 := hT.2.1
  have hsk := sk_in (T := T) hn
  have hS9 : CSm l g q A i m tp fc e 29 0 s (someG (atomG T fc (i 13) (i 14) e 6) T e) := (p_atoms (l := l) (g := g) (q := q) (A := A) (fc := fc) (s := s) hT hsv hof 6 (Nat.le_refl _)).2
  generalize someG (atomG T fc (i 13) (i 14) e 6) T e = sm at *
  unfold rlR
  by_cases hw : isW T e (sk T e n) w_style
  · rw [if_pos hw]
    have h5 : sk T e n + 5 ≤ e := isW_in hw (by decide)
    generalize hr : sk T e n + 5 = r at *
    have hfe := figE_le T e r h5
    by_cases hf : fgF T e r (-1) 0 3 = -1
    · rw [if_pos hf]
      have hsk2 := sk_in (T := T) hfe
      by_cases hi : isW T e (sk T e (figE T e r)) w_if
      · rw [if_pos hi]
        have h7 : sk T e (figE T e r) + 2 ≤ e := isW_in hi (by decide)
        have hSM := hS9 _ (-1) h7
        generalize sm (sk T e (figE T e r) + 2) (-1) = z at *
        obtain ⟨v, n1, f1⟩ := z
        dsimp only at hSM ⊢
        have K56 : ∀ w : Int32, (w = 0 ↔ v = 0) → WPs l g mtX12_ruleLine 30 0 0 (pR none (wQ g q A i m tp fc n1 f1 0 (if f1 = -1 ∧ ¬ v = 0 ∧ s = -1 then figV T e r else s))) noX a 56 [some (.ref q), some (.int (figV T e r)), some (.int w)] [] (wQ g q A i m tp fc n1 f1 0 s) 0 0 := by
          intro w hv
          have E1 : ¬ f1 = -1 → (if f1 = -1 ∧ ¬ v = 0 ∧ s = -1 then figV T e r else s) = s := fun h => if_neg (fun h' => h h'.1)
          have E2 : w = 0 → (if f1 = -1 ∧ ¬ v = 0 ∧ s = -1 then figV T e r else s) = s := fun h => if_neg (fun h' => h'.2.1 (hv.mp h))
          have E3 : ¬ s = -1 → (if f1 = -1 ∧ ¬ v = 0 ∧ s = -1 then figV T e r else s) = s := fun h => if_neg (fun h' => h h'.2.2)
          have E4 : f1 = -1 → ¬ w = 0 → s = -1 → (if f1 = -1 ∧ ¬ v = 0 ∧ s = -1 then figV T e r else s) = figV T e r := fun h1 h2 h3 => if_pos ⟨h1, fun h' => h2 (hv.mpr h'), h3⟩
          refine q_aload_n 0 57 dX12_ruleLine_56 rfl rfl rfl ?_
          refine q_getI 0 60 f_X12_22 dX12_ruleLine_57 rfl rfl rfl ?_
          refine q_iconst (-1) 61 dX12_ruleLine_60 ic_m1 rfl ?_
          refine q_icmp_ne 81 64 dX12_ruleLine_61 (by decide) rfl (fun hy1 => ?_) (fun hy1 => ?_)
          · refine q_return dX12_ruleLine_81 rfl ?_
            first
              | (rw [E4 hy1 hy2 hy3]; rw [ps_15]; exact pR.mk rfl rfl)
              | (rw [E3 hy3]; exact pR.mk rfl rfl)
              | (rw [E2 hy2]; exact pR.mk rfl rfl)
              | (rw [E1 hy1]; exact pR.mk rfl rfl)
          · refine q_iload_n 2 65 dX12_ruleLine_64 rfl rfl rfl ?_
            refine q_if_eq 81 68 dX12_ruleLine_65 (by decide) rfl (fun hy2 => ?_) (fun hy2 => ?_)
            · refine q_return dX12_ruleLine_81 rfl ?_
              first
                | (rw [E4 hy1 hy2 hy3]; rw [ps_15]; exact pR.mk rfl rfl)
                | (rw [E3 hy3]; exact pR.mk rfl rfl)
                | (rw [E2 hy2]; exact pR.mk rfl rfl)
                | (rw [E1 hy1]; exact pR.mk rfl rfl)
            · refine q_aload_n 0 69 dX12_ruleLine_68 rfl rfl rfl ?_
              refine q_getI 0 72 f_X12_194 dX12_ruleLine_69 rfl rfl rfl ?_
              refine q_iconst (-1) 73 dX12_ruleLine_72 ic_m1 rfl ?_
              refine q_icmp_ne 81 76 dX12_ruleLine_73 (by decide) rfl (fun hy3 => ?_) (fun hy3 => ?_)
              · refine q_return dX12_ruleLine_81 rfl ?_
                first
                  | (rw [E4 hy1 hy2 hy3]; rw [ps_15]; exact pR.mk rfl rfl)
                  | (rw [E3 hy3]; exact pR.mk rfl rfl)
                  | (rw [E2 hy2]; exact pR.mk rfl rfl)
                  | (rw [E1 hy1]; exact pR.mk rfl rfl)
              · refine q_aload_n 0 77 dX12_ruleLine_76 rfl rfl rfl ?_
                refine q_iload_n 1 78 dX12_ruleLine_77 rfl rfl rfl ?_
                refine q_putI 0 81 (w' := [_, _, _, _]) f_X12_194 ft_X12_15 dX12_ruleLine_78 rfl rfl rfl rfl ?_
                refine q_return dX12_ruleLine_81 rfl ?_
                first
                  | (rw [E4 hy1 hy2 hy3]; rw [ps_15]; exact pR.mk rfl rfl)
                  | (rw [E3 hy3]; exact pR.mk rfl rfl)
                  | (rw [E2 hy2]; exact pR.mk rfl rfl)
                  | (rw [E1 hy1]; exact pR.mk rfl rfl)
        refine q_aload_n 0 1 dX12_ruleLine_0 rfl rfl rfl ?_
        refine q_ldcS "style" 3 sr_X12_190 dX12_ruleLine_1 rfl ?_
        refine q_cVi 0 [0, 1, 2] [3] [1, 2, 3, 0] 6 (wr := [_]) (w1 := _) (ws' := [_, _, _, _]) (p_has sw_X12_190 (by decide) (T := T) (e := e) (n := n) hT (by omega)) m_X12_109 dX12_ruleLine_3 rfl rfl rfl rfl rfl rfl rfl rfl (by decide) (by decide) (by decide) (by decide) (Nat.le_of_ble_eq_true rfl) (by omega) (by omega) (by omega) rfl ?_
        rw [show hasB T e n w_style = 1 from if_pos hw, show hasN T e n w_style = sk T e n + 5 from if_pos hw, hr]
        refine q_if_ne 18 9 dX12_ruleLine_6 (by decide) rfl (fun h6 => ?_) (fun h6 => absurd h6 (by decide))
        refine q_aload_n 0 19 dX12_ruleLine_18 rfl rfl rfl ?_
        refine q_iconst 0 20 dX12_ruleLine_19 ic_0 rfl ?_
        refine q_iconst 3 21 dX12_ruleLine_20 ic_3 rfl ?_
        refine q_cVi 0 [0, 1, 2] [3] [1, 2, 3, 0] 24 (wr := [_]) (w1 := _) (ws' := [_, _, _, _]) (p_figures (T := T) (e := e) (n := r) hT (by omega)) m_X12_113 dX12_ruleLine_21 rfl rfl rfl rfl rfl rfl rfl rfl (by decide) (by decide) (by decide) (by decide) (Nat.le_of_ble_eq_true rfl) (by omega) (by omega) (by omega) rfl ?_
        rw [show fgV T e r (-1) = figV T e r from rfl, show fgN T e r (-1) = figE T e r from rfl, hf]
        refine q_istore_n 1 25 (L' := [_, _, _]) dX12_ruleLine_24 rfl (by decide) rfl rfl ?_
        refine q_aload_n 0 26 dX12_ruleLine_25 rfl rfl rfl ?_
        refine q_getI 0 29 f_X12_22 dX12_ruleLine_26 rfl rfl rfl ?_
        refine q_iconst (-1) 30 dX12_ruleLine_29 ic_m1 rfl ?_
        refine q_icmp_eq 34 33 dX12_ruleLine_30 (by decide) rfl (fun h30 => ?_) (fun h30 => absurd rfl h30)
        refine q_aload_n 0 35 dX12_ruleLine_34 rfl rfl rfl ?_
        refine q_ldcS "if" 37 sr_X12_192 dX12_ruleLine_35 rfl ?_
        refine q_cVi 0 [0, 1, 2] [3] [1, 2, 3, 0] 40 (wr := [_]) (w1 := _) (ws' := [_, _, _, _]) (p_has sw_X12_192 (by decide) (T := T) (e := e) (n := figE T e r) hT (by omega)) m_X12_109 dX12_ruleLine_37 rfl rfl rfl rfl rfl rfl rfl rfl (by decide) (by decide) (by decide) (by decide) (Nat.le_of_ble_eq_true rfl) (by omega) (by omega) (by omega) rfl ?_
        rw [show hasB T e (figE T e r) w_if = 1 from if_pos hi, show hasN T e (figE T e r) w_if = sk T e (figE T e r) + 2 from if_pos hi]
        refine q_if_eq 50 43 dX12_ruleLine_40 (by decide) rfl (fun h40 => absurd h40 (by decide)) (fun h40 => ?_)
        refine q_aload_n 0 44 dX12_ruleLine_43 rfl rfl rfl ?_
        refine q_cVi 0 [0, 1, 2, 3] [] [0, 1, 2, 3] 47 (wr := []) (w1 := _) (ws' := [_, _, _, _]) hSM m_X12_180 dX12_ruleLine_44 rfl rfl rfl rfl rfl rfl rfl rfl (by decide) (by decide) (by decide) (by decide) (Nat.le_of_ble_eq_true rfl) (by omega) (by omega) (by omega) rfl ?_
        refine q_if_eq 54 50 dX12_ruleLine_47 (by decide) rfl (fun hv0 => ?_) (fun hv0 => ?_)
        · refine q_iconst 0 55 dX12_ruleLine_54 ic_0 rfl ?_
          refine q_istore_n 2 56 (L' := [_, _, _]) dX12_ruleLine_55 rfl (by decide) rfl rfl ?_
          first
            | exact K56 0 ⟨fun _ => hv0, fun _ => rfl⟩
            | exact K56 1 ⟨fun h => absurd h one_ne0, fun h => absurd h hv0⟩
        · refine q_iconst 1 51 dX12_ruleLine_50 ic_1 rfl ?_
          refine q_goto 55 dX12_ruleLine_51 (by decide) ?_
          refine q_istore_n 2 56 (L' := [_, _, _]) dX12_ruleLine_55 rfl (by decide) rfl rfl ?_
          first
            | exact K56 0 ⟨fun _ => hv0, fun _ => rfl⟩
            | exact K56 1 ⟨fun h => absurd h one_ne0, fun h => absurd h hv0⟩
      · rw [if_neg hi]
        have E5 : ¬ s = -1 → (if s = -1 then figV T e r else s) = s := fun h => if_neg h
        have E6 : s = -1 → (if s = -1 then figV T e r else s) = figV T e r := fun h => if_pos h
        refine q_aload_n 0 1 dX12_ruleLine_0 rfl rfl rfl ?_
        refine q_ldcS "style" 3 sr_X12_190 dX12_ruleLine_1 rfl ?_
        refine q_cVi 0 [0, 1, 2] [3] [1, 2, 3, 0] 6 (wr := [_]) (w1 := _) (ws' := [_, _, _, _]) (p_has sw_X12_190 (by decide) (T := T) (e := e) (n := n) hT (by omega)) m_X12_109 dX12_ruleLine_3 rfl rfl rfl rfl rfl rfl rfl rfl (by decide) (by decide) (by decide) (by decide) (Nat.le_of_ble_eq_true rfl) (by omega) (by omega) (by omega) rfl ?_
        rw [show hasB T e n w_style = 1 from if_pos hw, show hasN T e n w_style = sk T e n + 5 from if_pos hw, hr]
        refine q_if_ne 18 9 dX12_ruleLine_6 (by decide) rfl (fun h6 => ?_) (fun h6 => absurd h6 (by decide))
        refine q_aload_n 0 19 dX12_ruleLine_18 rfl rfl rfl ?_
        refine q_iconst 0 20 dX12_ruleLine_19 ic_0 rfl ?_
        refine q_iconst 3 21 dX12_ruleLine_20 ic_3 rfl ?_
        refine q_cVi 0 [0, 1, 2] [3] [1, 2, 3, 0] 24 (wr := [_]) (w1 := _) (ws' := [_, _, _, _]) (p_figures (T := T) (e := e) (n := r) hT (by omega)) m_X12_113 dX12_ruleLine_21 rfl rfl rfl rfl rfl rfl rfl rfl (by decide) (by decide) (by decide) (by decide) (Nat.le_of_ble_eq_true rfl) (by omega) (by omega) (by omega) rfl ?_
        rw [show fgV T e r (-1) = figV T e r from rfl, show fgN T e r (-1) = figE T e r from rfl, hf]
        refine q_istore_n 1 25 (L' := [_, _, _]) dX12_ruleLine_24 rfl (by decide) rfl rfl ?_
        refine q_aload_n 0 26 dX12_ruleLine_25 rfl rfl rfl ?_
        refine q_getI 0 29 f_X12_22 dX12_ruleLine_26 rfl rfl rfl ?_
        refine q_iconst (-1) 30 dX12_ruleLine_29 ic_m1 rfl ?_
        refine q_icmp_eq 34 33 dX12_ruleLine_30 (by decide) rfl (fun h30 => ?_) (fun h30 => absurd rfl h30)
        refine q_aload_n 0 35 dX12_ruleLine_34 rfl rfl rfl ?_
        refine q_ldcS "if" 37 sr_X12_192 dX12_ruleLine_35 rfl ?_
        refine q_cVi 0 [0, 1, 2] [3] [1, 2, 3, 0] 40 (wr := [_]) (w1 := _) (ws' := [_, _, _, _]) (p_has sw_X12_192 (by decide) (T := T) (e := e) (n := figE T e r) hT (by omega)) m_X12_109 dX12_ruleLine_37 rfl rfl rfl rfl rfl rfl rfl rfl (by decide) (by decide) (by decide) (by decide) (Nat.le_of_ble_eq_true rfl) (by omega) (by omega) (by omega) rfl ?_
        rw [show hasB T e (figE T e r) w_if = 0 from if_neg hi, show hasN T e (figE T e r) w_if = sk T e (figE T e r) from if_neg hi]
        refine q_if_eq 50 43 dX12_ruleLine_40 (by decide) rfl (fun h40 => ?_) (fun h40 => absurd rfl h40)
        refine q_iconst 1 51 dX12_ruleLine_50 ic_1 rfl ?_
        refine q_goto 55 dX12_ruleLine_51 (by decide) ?_
        refine q_istore_n 2 56 (L' := [_, _, _]) dX12_ruleLine_55 rfl (by decide) rfl rfl ?_
        refine q_aload_n 0 57 dX12_ruleLine_56 rfl rfl rfl ?_
        refine q_getI 0 60 f_X12_22 dX12_ruleLine_57 rfl rfl rfl ?_
        refine q_iconst (-1) 61 dX12_ruleLine_60 ic_m1 rfl ?_
        refine q_icmp_ne 81 64 dX12_ruleLine_61 (by decide) rfl (fun h61 => absurd rfl h61) (fun h61 => ?_)
        refine q_iload_n 2 65 dX12_ruleLine_64 rfl rfl rfl ?_
        refine q_if_eq 81 68 dX12_ruleLine_65 (by decide) rfl (fun h65 => absurd h65 (by decide)) (fun h65 => ?_)
        refine q_aload_n 0 69 dX12_ruleLine_68 rfl rfl rfl ?_
        refine q_getI 0 72 f_X12_194 dX12_ruleLine_69 rfl rfl rfl ?_
        refine q_iconst (-1) 73 dX12_ruleLine_72 ic_m1 rfl ?_
        refine q_icmp_ne 81 76 dX12_ruleLine_73 (by decide) rfl (fun hy3 => ?_) (fun hy3 => ?_)
        · refine q_return dX12_ruleLine_81 rfl ?_
          first
            | (rw [E5 hy3]; exact pR.mk rfl rfl)
            | (rw [E6 hy3]; rw [ps_15]; exact pR.mk rfl rfl)
        · refine q_aload_n 0 77 dX12_ruleLine_76 rfl rfl rfl ?_
          refine q_iload_n 1 78 dX12_ruleLine_77 rfl rfl rfl ?_
          refine q_putI 0 81 (w' := [_, _, _, _]) f_X12_194 ft_X12_15 dX12_ruleLine_78 rfl rfl rfl rfl ?_
          refine q_return dX12_ruleLine_81 rfl ?_
          first
            | (rw [E5 hy3]; exact pR.mk rfl rfl)
            | (rw [E6 hy3]; rw [ps_15]; exact pR.mk rfl rfl)
    · rw [if_neg hf]
      refine q_aload_n 0 1 dX12_ruleLine_0 rfl rfl rfl ?_
      refine q_ldcS "style" 3 sr_X12_190 dX12_ruleLine_1 rfl ?_
      refine q_cVi 0 [0, 1, 2] [3] [1, 2, 3, 0] 6 (wr := [_]) (w1 := _) (ws' := [_, _, _, _]) (p_has sw_X12_190 (by decide) (T := T) (e := e) (n := n) hT (by omega)) m_X12_109 dX12_ruleLine_3 rfl rfl rfl rfl rfl rfl rfl rfl (by decide) (by decide) (by decide) (by decide) (Nat.le_of_ble_eq_true rfl) (by omega) (by omega) (by omega) rfl ?_
      rw [show hasB T e n w_style = 1 from if_pos hw, show hasN T e n w_style = sk T e n + 5 from if_pos hw, hr]
      refine q_if_ne 18 9 dX12_ruleLine_6 (by decide) rfl (fun h6 => ?_) (fun h6 => absurd h6 (by decide))
      refine q_aload_n 0 19 dX12_ruleLine_18 rfl rfl rfl ?_
      refine q_iconst 0 20 dX12_ruleLine_19 ic_0 rfl ?_
      refine q_iconst 3 21 dX12_ruleLine_20 ic_3 rfl ?_
      refine q_cVi 0 [0, 1, 2] [3] [1, 2, 3, 0] 24 (wr := [_]) (w1 := _) (ws' := [_, _, _, _]) (p_figures (T := T) (e := e) (n := r) hT (by omega)) m_X12_113 dX12_ruleLine_21 rfl rfl rfl rfl rfl rfl rfl rfl (by decide) (by decide) (by decide) (by decide) (Nat.le_of_ble_eq_true rfl) (by omega) (by omega) (by omega) rfl ?_
      rw [show fgV T e r (-1) = figV T e r from rfl, show fgN T e r (-1) = figE T e r from rfl]
      refine q_istore_n 1 25 (L' := [_, _, _]) dX12_ruleLine_24 rfl (by decide) rfl rfl ?_
      refine q_aload_n 0 26 dX12_ruleLine_25 rfl rfl rfl ?_
      refine q_getI 0 29 f_X12_22 dX12_ruleLine_26 rfl rfl rfl ?_
      refine q_iconst (-1) 30 dX12_ruleLine_29 ic_m1 rfl ?_
      refine q_icmp_eq 34 33 dX12_ruleLine_30 (by decide) rfl (fun h30 => absurd h30 hf) (fun h30 => ?_)
      refine q_return dX12_ruleLine_33 rfl ?_
      exact pR.rf
  · rw [if_neg hw]
    refine q_aload_n 0 1 dX12_ruleLine_0 rfl rfl rfl ?_
    refine q_ldcS "style" 3 sr_X12_190 dX12_ruleLine_1 rfl ?_
    refine q_cVi 0 [0, 1, 2] [3] [1, 2, 3, 0] 6 (wr := [_]) (w1 := _) (ws' := [_, _, _, _]) (p_has sw_X12_190 (by decide) (T := T) (e := e) (n := n) hT (by omega)) m_X12_109 dX12_ruleLine_3 rfl rfl rfl rfl rfl rfl rfl rfl (by decide) (by decide) (by decide) (by decide) (Nat.le_of_ble_eq_true rfl) (by omega) (by omega) (by omega) rfl ?_
    rw [show hasB T e n w_style = 0 from if_neg hw, show hasN T e n w_style = sk T e n from if_neg hw]
    refine q_if_ne 18 9 dX12_ruleLine_6 (by decide) rfl (fun h6 => absurd rfl h6) (fun h6 => ?_)
    refine q_aload_n 0 10 dX12_ruleLine_9 rfl rfl rfl ?_
    refine q_aload_n 0 11 dX12_ruleLine_10 rfl rfl rfl ?_
    refine q_getI 0 14 f_X12_80 dX12_ruleLine_11 rfl rfl rfl ?_
    refine q_cVv 0 [0] [1, 2, 3] [3, 0, 1, 2] 17 (wr := [_, _, _]) (w1 := _) (ws' := [_, _, _, _]) p_wrong m_X12_103 dX12_ruleLine_14 rfl rfl rfl rfl rfl rfl rfl rfl (by decide) (by decide) (by decide) (by decide) (Nat.le_of_ble_eq_true rfl) (by omega) (by omega) (by omega) rfl ?_
    refine q_return dX12_ruleLine_17 rfl ?_
    exact pR.rf

