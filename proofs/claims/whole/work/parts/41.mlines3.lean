/-! ===== lines over a court ===== -/
theorem n12 : (12 : Int32) = nI 12 := by decide
theorem ctR_ok {T : Nat → Int32} {e n : Nat} {m : Nat → Int32} (hn : n ≤ e) : okL e 0 (ctR T e n m) := by
  have hsk := sk_in (T := T) hn
  have F : ∀ n f, n ≤ e → fgN T e n f ≤ e := by
    intro n f h
    unfold fgN
    split
    · exact figE_le T e n h
    · exact h
  have hN : ∀ a b w n f, n ≤ e → okL e 0 (ctN T e a b w n f m) := fun a b w n f h => ⟨F n f h, fun _ => F n f h⟩
  have h1 : ∀ k lo hi n, n ≤ e → okL e 0 (ct1 T e k lo hi n m) := fun k lo hi n h => ⟨figE_le T e n h, fun _ => figE_le T e n h⟩
  have hW : ∀ a b n, n ≤ e → okL e 0 (ctW T e a b n m) := by
    intro a b n h
    have hs := sk_in (T := T) h
    unfold ctW
    split
    · rename_i hw; exact hN _ _ _ _ _ (isW_in hw (by decide))
    · split
      · rename_i hw; exact hN _ _ _ _ _ (isW_in hw (by decide))
      · split
        · rename_i hw; exact hN _ _ _ _ _ (figE_le T e _ (isW_in hw (by decide)))
        · exact ⟨hs, fun _ => hs⟩
  unfold ctR
  split
  · rename_i hw
    have h5 : sk T e n + 5 ≤ e := isW_in hw (by decide)
    unfold ctL
    split
    · exact hW _ _ _ (figE_le T e _ (figE_le T e _ h5))
    · exact ⟨F _ _ (figE_le T e _ h5), fun _ => F _ _ (figE_le T e _ h5)⟩
  · split
    · rename_i hw; exact h1 _ _ _ _ (isW_in hw (by decide))
    · split
      · rename_i hw; exact h1 _ _ _ _ (isW_in hw (by decide))
      · split
        · rename_i hw; exact h1 _ _ _ _ (isW_in hw (by decide))
        · exact ⟨hsk, fun _ => hsk⟩
theorem p_lines0 {l : Launch} {g : Gh} {q : Nat} {A : Nat → Nat} {i m tp T : Nat → Int32} {e b : Nat} {s : Int32} {line : Nat → (Nat → Int32) → RLn (Nat → Int32)} (hT : ∀ m, TxOK (i 7) (i 8) m tp T e) (hb9 : b ≤ 9) (hok : ∀ n m, n ≤ e → okL e b (line n m)) (hL9 : ∀ n m, n ≤ e → Cp l g yX12_courtLine (Cond.code yX12_courtLine cX12_courtLine 5 none) 6 [.ref q] (wP g q A i m tp n (-1) 0 s) none (wP g q A i (line n m).2.2 tp (line n m).1 (line n m).2.1 0 s)) (n : Nat) (d : Int32) : Cp l g yX12_lines (Cond.code yX12_lines cX12_lines 4 none) 7 [.ref q, .int 0] (wP g q A i m tp n (-1) d s) none (wP g q A i (lnR line T e m).2.2 tp (lnR line T e m).1 (lnR line T e m).2.1 0 s) := by
  refine ct_of (M := mtX12_lines) [some (.ref q), some (.int 0), none, none] rfl (by decide) (Nat.le_of_ble_eq_true rfl) (fun _ h => h) (fun a => ?_)
  have he : e ≤ 400 := (hT m).2.1
  have K107 : ∀ (c : Int32) (n : Nat) (f : Int32) (m : Nat → Int32), WPs l g mtX12_lines 7 0 0 (pR none (wP g q A i m tp n f 0 s)) noX a 107 [some (.ref q), some (.int 0), some (.int 1), some (.int c)] [] (wP g q A i m tp n f 0 s) 0 0 := by
    intro c n f m
    refine q_iconst 0 108 dX12_lines_107 ic_0 rfl ?_
    refine q_istore_n 2 109 (L' := [_, _, _, _]) dX12_lines_108 rfl (by decide) rfl rfl ?_
    refine q_goto 33 dX12_lines_109 (by decide) ?_
    refine q_iload_n 2 34 dX12_lines_33 rfl rfl rfl ?_
    refine q_if_eq 145 37 dX12_lines_34 (by decide) rfl (fun h34 => ?_) (fun h34 => absurd rfl h34)
    refine q_return dX12_lines_145 rfl ?_
    exact pR.rf
  have K134 : ∀ (c : Int32) (n : Nat) (m : Nat → Int32), n ≤ e → WPs l g mtX12_lines 7 0 0 (pR none (wP g q A i m tp n (nI n) 0 s)) noX a 134 [some (.ref q), some (.int 0), some (.int 1), some (.int c)] [] (wP g q A i m tp n (-1) 0 s) 0 0 := by
    intro c n m hn
    refine q_aload_n 0 135 dX12_lines_134 rfl rfl rfl ?_
    refine q_aload_n 0 136 dX12_lines_135 rfl rfl rfl ?_
    refine q_getI 0 139 f_X12_80 dX12_lines_136 rfl rfl rfl ?_
    refine q_cVv 0 [0] [1, 2] [2, 0, 1] 142 (wr := [_, _]) (w1 := _) (ws' := [_, _, _]) p_wrong m_X12_103 dX12_lines_139 rfl rfl rfl rfl rfl rfl rfl rfl (by decide) (by decide) (by decide) (by decide) (Nat.le_of_ble_eq_true rfl) (by omega) (by omega) (by omega) rfl ?_
    rw [show wr (-1) (ps i n (-1) 0 s 9) = nI n from rfl]
    refine q_goto 33 dX12_lines_142 (by decide) ?_
    refine q_iload_n 2 34 dX12_lines_33 rfl rfl rfl ?_
    refine q_if_eq 145 37 dX12_lines_34 (by decide) rfl (fun h34 => absurd h34 one_ne0) (fun h34 => ?_)
    refine q_aload_n 0 38 dX12_lines_37 rfl rfl rfl ?_
    refine q_getI 0 41 f_X12_22 dX12_lines_38 rfl rfl rfl ?_
    refine q_iconst (-1) 42 dX12_lines_41 ic_m1 rfl ?_
    refine q_icmp_ne 145 45 dX12_lines_42 (by decide) rfl (fun h42 => ?_) (fun h42 => absurd h42 (nI_nm1 (by omega)))
    refine q_return dX12_lines_145 rfl ?_
    exact pR.rf
  have K33 : ∀ (k : Nat) (c : Int32) (n : Nat) (m : Nat → Int32), k ≤ 12 → c = nI (12 - k) → n ≤ e → WPs l g mtX12_lines 7 0 0 (pR none (wP g q A i (lnG line T e k n m).2.2 tp (lnG line T e k n m).1 (lnG line T e k n m).2.1 0 s)) noX a 33 [some (.ref q), some (.int 0), some (.int 1), some (.int c)] [] (wP g q A i m tp n (-1) 0 s) 0 0 := by
    intro k
    induction k with
    | zero =>
      intro c n m hk hc hn
      subst hc
      have hsk := sk_in (T := T) hn
      rw [lnG]
      refine q_iload_n 2 34 dX12_lines_33 rfl rfl rfl ?_
      refine q_if_eq 145 37 dX12_lines_34 (by decide) rfl (fun h34 => absurd h34 one_ne0) (fun h34 => ?_)
      refine q_aload_n 0 38 dX12_lines_37 rfl rfl rfl ?_
      refine q_getI 0 41 f_X12_22 dX12_lines_38 rfl rfl rfl ?_
      refine q_iconst (-1) 42 dX12_lines_41 ic_m1 rfl ?_
      refine q_icmp_ne 145 45 dX12_lines_42 (by decide) rfl (fun h42 => absurd rfl h42) (fun h42 => ?_)
      refine q_aload_n 0 46 dX12_lines_45 rfl rfl rfl ?_
      refine q_cVv 0 [0, 1, 2] [] [0, 1, 2] 49 (wr := []) (w1 := _) (ws' := [_, _, _]) (p_skip (T := T) (e := e) (n := n) (hT _) (by omega)) m_X12_90 dX12_lines_46 rfl rfl rfl rfl rfl rfl rfl rfl (by decide) (by decide) (by decide) (by decide) (Nat.le_of_ble_eq_true rfl) (by omega) (by omega) (by omega) rfl ?_
      refine q_iload_n 3 50 dX12_lines_49 rfl rfl rfl ?_
      refine q_bipush 12 52 dX12_lines_50 bc_12 rfl ?_
      refine q_icmp_ne 66 55 dX12_lines_52 (by decide) rfl (fun h52 => absurd n12.symm h52) (fun h52 => ?_)
      refine q_aload_n 0 56 dX12_lines_55 rfl rfl rfl ?_
      refine q_aload_n 0 57 dX12_lines_56 rfl rfl rfl ?_
      refine q_getI 0 60 f_X12_80 dX12_lines_57 rfl rfl rfl ?_
      refine q_cVv 0 [0] [1, 2] [2, 0, 1] 63 (wr := [_, _]) (w1 := _) (ws' := [_, _, _]) p_wrong m_X12_103 dX12_lines_60 rfl rfl rfl rfl rfl rfl rfl rfl (by decide) (by decide) (by decide) (by decide) (Nat.le_of_ble_eq_true rfl) (by omega) (by omega) (by omega) rfl ?_
      rw [show wr (-1) (ps i (sk T e n) (-1) 0 s 9) = nI (sk T e n) from rfl]
      refine q_goto 81 dX12_lines_63 (by decide) ?_
      refine q_iinc 3 _ 84 (L' := [_, _, _, _]) dX12_lines_81 rfl rfl (by decide) rfl rfl ?_
      refine q_aload_n 0 85 dX12_lines_84 rfl rfl rfl ?_
      refine q_cVv 0 [0, 1, 2] [] [0, 1, 2] 88 (wr := []) (w1 := _) (ws' := [_, _, _]) (p_skip (T := T) (e := e) (n := sk T e n) (hT _) (by omega)) m_X12_90 dX12_lines_85 rfl rfl rfl rfl rfl rfl rfl rfl (by decide) (by decide) (by decide) (by decide) (Nat.le_of_ble_eq_true rfl) (by omega) (by omega) (by omega) rfl ?_
      rw [sk_sk]
      refine q_aload_n 0 89 dX12_lines_88 rfl rfl rfl ?_
      refine q_getI 0 92 f_X12_22 dX12_lines_89 rfl rfl rfl ?_
      refine q_iconst (-1) 93 dX12_lines_92 ic_m1 rfl ?_
      refine q_icmp_ne 107 96 dX12_lines_93 (by decide) rfl (fun h93 => ?_) (fun h93 => absurd h93 (nI_nm1 (by omega)))
      exact K107 _ _ _ _
    | succ k ih =>
      intro c n m hk hc hn
      have hsk := sk_in (T := T) hn
      have hcn : ¬ c = 12 := by
        subst hc
        intro hz
        rw [n12] at hz
        exact absurd (nI_eqI (a := 12 - (k + 1)) (b := 12) (by omega) (by omega) hz) (by omega)
      have hc1 : c + 1 = nI (12 - k) := by
        subst hc
        rw [show (1 : Int32) = nI 1 from rfl, nI_add]
        congr 1
        omega
      rw [lnG]
      have hL := hL9 (sk T e n) m hsk
      have ho := hok (sk T e n) m hsk
      generalize line (sk T e n) m = z at *
      obtain ⟨n1, f1, m1⟩ := z
      obtain ⟨ho1, ho2⟩ := ho
      dsimp only at hL ho1 ho2 ⊢
      have hs1 : sk T e n1 ≤ e + b := by rcases sk_le T e n1 with h | h <;> omega
      by_cases hf : f1 = -1
      · rw [if_pos hf]
        have hs2 := sk_in (T := T) (ho2 hf)
        subst hf
        by_cases hz : sk T e n1 = e
        · rw [if_pos hz]
          refine q_iload_n 2 34 dX12_lines_33 rfl rfl rfl ?_
          refine q_if_eq 145 37 dX12_lines_34 (by decide) rfl (fun h34 => absurd h34 one_ne0) (fun h34 => ?_)
          refine q_aload_n 0 38 dX12_lines_37 rfl rfl rfl ?_
          refine q_getI 0 41 f_X12_22 dX12_lines_38 rfl rfl rfl ?_
          refine q_iconst (-1) 42 dX12_lines_41 ic_m1 rfl ?_
          refine q_icmp_ne 145 45 dX12_lines_42 (by decide) rfl (fun h42 => absurd rfl h42) (fun h42 => ?_)
          refine q_aload_n 0 46 dX12_lines_45 rfl rfl rfl ?_
          refine q_cVv 0 [0, 1, 2] [] [0, 1, 2] 49 (wr := []) (w1 := _) (ws' := [_, _, _]) (p_skip (T := T) (e := e) (n := n) (hT _) (by omega)) m_X12_90 dX12_lines_46 rfl rfl rfl rfl rfl rfl rfl rfl (by decide) (by decide) (by decide) (by decide) (Nat.le_of_ble_eq_true rfl) (by omega) (by omega) (by omega) rfl ?_
          refine q_iload_n 3 50 dX12_lines_49 rfl rfl rfl ?_
          refine q_bipush 12 52 dX12_lines_50 bc_12 rfl ?_
          refine q_icmp_ne 66 55 dX12_lines_52 (by decide) rfl (fun h52 => ?_) (fun h52 => absurd h52 hcn)
          refine q_iload_n 1 67 dX12_lines_66 rfl rfl rfl ?_
          refine q_if_eq 77 70 dX12_lines_67 (by decide) rfl (fun h67 => ?_) (fun h67 => absurd rfl h67)
          refine q_aload_n 0 78 dX12_lines_77 rfl rfl rfl ?_
          refine q_cVv 0 [0, 1, 2] [] [0, 1, 2] 81 (wr := []) (w1 := _) (ws' := [_, _, _]) hL m_X12_135 dX12_lines_78 rfl rfl rfl rfl rfl rfl rfl rfl (by decide) (by decide) (by decide) (by decide) (Nat.le_of_ble_eq_true rfl) (by omega) (by omega) (by omega) rfl ?_
          refine q_iinc 3 _ 84 (L' := [_, _, _, _]) dX12_lines_81 rfl rfl (by decide) rfl rfl ?_
          refine q_aload_n 0 85 dX12_lines_84 rfl rfl rfl ?_
          refine q_cVv 0 [0, 1, 2] [] [0, 1, 2] 88 (wr := []) (w1 := _) (ws' := [_, _, _]) (p_skip (T := T) (e := e) (n := n1) (hT _) (by omega)) m_X12_90 dX12_lines_85 rfl rfl rfl rfl rfl rfl rfl rfl (by decide) (by decide) (by decide) (by decide) (Nat.le_of_ble_eq_true rfl) (by omega) (by omega) (by omega) rfl ?_
          rw [hz]
          refine q_aload_n 0 89 dX12_lines_88 rfl rfl rfl ?_
          refine q_getI 0 92 f_X12_22 dX12_lines_89 rfl rfl rfl ?_
          refine q_iconst (-1) 93 dX12_lines_92 ic_m1 rfl ?_
          refine q_icmp_ne 107 96 dX12_lines_93 (by decide) rfl (fun h93 => absurd rfl h93) (fun h93 => ?_)
          refine q_aload_n 0 97 dX12_lines_96 rfl rfl rfl ?_
          refine q_getI 0 100 f_X12_80 dX12_lines_97 rfl rfl rfl ?_
          refine q_aload_n 0 101 dX12_lines_100 rfl rfl rfl ?_
          refine q_getI 0 104 f_X12_83 dX12_lines_101 rfl rfl rfl ?_
          refine q_icmp_ne 112 107 dX12_lines_104 (by decide) rfl (fun h104 => absurd ((hT m).1.symm) h104) (fun h104 => ?_)
          exact K107 _ _ _ _
        · rw [if_neg hz]
          have K112 : WPs l g mtX12_lines 7 0 0 (pR none (wP g q A i (if T (sk T e n1) = 59 then lnG line T e k (sk T e n1 + 1) m1 else (sk T e n1, nI (sk T e n1), m1)).2.2 tp (if T (sk T e n1) = 59 then lnG line T e k (sk T e n1 + 1) m1 else (sk T e n1, nI (sk T e n1), m1)).1 (if T (sk T e n1) = 59 then lnG line T e k (sk T e n1 + 1) m1 else (sk T e n1, nI (sk T e n1), m1)).2.1 0 s)) noX a 112 [some (.ref q), some (.int 0), some (.int 1), some (.int (c + 1))] [] (wP g q A i m1 tp (sk T e n1) (-1) 0 s) 0 0 := by
            by_cases ht : T (sk T e n1) = 59
            · rw [if_pos ht]
              refine q_aload_n 0 113 dX12_lines_112 rfl rfl rfl ?_
              refine q_bipush 59 115 dX12_lines_113 bc_59 rfl ?_
              refine q_cVi 0 [0, 1, 2] [] [0, 1, 2] 118 (wr := []) (w1 := _) (ws' := [_, _, _]) (p_isSign (T := T) (e := e) (n := sk T e n1) (hT _) (by omega)) m_X12_138 dX12_lines_115 rfl rfl rfl rfl rfl rfl rfl rfl (by decide) (by decide) (by decide) (by decide) (Nat.le_of_ble_eq_true rfl) (by omega) (by omega) (by omega) rfl ?_
              rw [sk_sk, if_pos ⟨Nat.lt_of_le_of_ne hs2 hz, ht⟩]
              refine q_if_eq 134 121 dX12_lines_118 (by decide) rfl (fun h118 => absurd h118 one_ne0) (fun h118 => ?_)
              refine q_aload_n 0 122 dX12_lines_121 rfl rfl rfl ?_
              refine q_dup 123 dX12_lines_122 rfl rfl ?_
              refine q_getI 0 126 f_X12_80 dX12_lines_123 rfl rfl rfl ?_
              refine q_iconst 1 127 dX12_lines_126 ic_1 rfl ?_
              refine q_iadd 128 dX12_lines_127 rfl ?_
              refine q_putI 0 131 (w' := [_, _, _]) f_X12_80 ft_X12_9 dX12_lines_128 rfl rfl rfl rfl ?_
              refine q_goto 33 dX12_lines_131 (by decide) ?_
              rw [show ps i (sk T e n1) (-1) 0 s 9 + 1 = nI (sk T e n1 + 1) from nI_1 _, ps_9]; exact ih _ _ _ (by omega) hc1 (by omega)
            · rw [if_neg ht]
              refine q_aload_n 0 113 dX12_lines_112 rfl rfl rfl ?_
              refine q_bipush 59 115 dX12_lines_113 bc_59 rfl ?_
              refine q_cVi 0 [0, 1, 2] [] [0, 1, 2] 118 (wr := []) (w1 := _) (ws' := [_, _, _]) (p_isSign (T := T) (e := e) (n := sk T e n1) (hT _) (by omega)) m_X12_138 dX12_lines_115 rfl rfl rfl rfl rfl rfl rfl rfl (by decide) (by decide) (by decide) (by decide) (Nat.le_of_ble_eq_true rfl) (by omega) (by omega) (by omega) rfl ?_
              rw [sk_sk, if_neg (fun h => ht h.2)]
              refine q_if_eq 134 121 dX12_lines_118 (by decide) rfl (fun h118 => ?_) (fun h118 => absurd rfl h118)
              exact K134 _ _ _ hs2
          refine q_iload_n 2 34 dX12_lines_33 rfl rfl rfl ?_
          refine q_if_eq 145 37 dX12_lines_34 (by decide) rfl (fun h34 => absurd h34 one_ne0) (fun h34 => ?_)
          refine q_aload_n 0 38 dX12_lines_37 rfl rfl rfl ?_
          refine q_getI 0 41 f_X12_22 dX12_lines_38 rfl rfl rfl ?_
          refine q_iconst (-1) 42 dX12_lines_41 ic_m1 rfl ?_
          refine q_icmp_ne 145 45 dX12_lines_42 (by decide) rfl (fun h42 => absurd rfl h42) (fun h42 => ?_)
          refine q_aload_n 0 46 dX12_lines_45 rfl rfl rfl ?_
          refine q_cVv 0 [0, 1, 2] [] [0, 1, 2] 49 (wr := []) (w1 := _) (ws' := [_, _, _]) (p_skip (T := T) (e := e) (n := n) (hT _) (by omega)) m_X12_90 dX12_lines_46 rfl rfl rfl rfl rfl rfl rfl rfl (by decide) (by decide) (by decide) (by decide) (Nat.le_of_ble_eq_true rfl) (by omega) (by omega) (by omega) rfl ?_
          refine q_iload_n 3 50 dX12_lines_49 rfl rfl rfl ?_
          refine q_bipush 12 52 dX12_lines_50 bc_12 rfl ?_
          refine q_icmp_ne 66 55 dX12_lines_52 (by decide) rfl (fun h52 => ?_) (fun h52 => absurd h52 hcn)
          refine q_iload_n 1 67 dX12_lines_66 rfl rfl rfl ?_
          refine q_if_eq 77 70 dX12_lines_67 (by decide) rfl (fun h67 => ?_) (fun h67 => absurd rfl h67)
          refine q_aload_n 0 78 dX12_lines_77 rfl rfl rfl ?_
          refine q_cVv 0 [0, 1, 2] [] [0, 1, 2] 81 (wr := []) (w1 := _) (ws' := [_, _, _]) hL m_X12_135 dX12_lines_78 rfl rfl rfl rfl rfl rfl rfl rfl (by decide) (by decide) (by decide) (by decide) (Nat.le_of_ble_eq_true rfl) (by omega) (by omega) (by omega) rfl ?_
          refine q_iinc 3 _ 84 (L' := [_, _, _, _]) dX12_lines_81 rfl rfl (by decide) rfl rfl ?_
          refine q_aload_n 0 85 dX12_lines_84 rfl rfl rfl ?_
          refine q_cVv 0 [0, 1, 2] [] [0, 1, 2] 88 (wr := []) (w1 := _) (ws' := [_, _, _]) (p_skip (T := T) (e := e) (n := n1) (hT _) (by omega)) m_X12_90 dX12_lines_85 rfl rfl rfl rfl rfl rfl rfl rfl (by decide) (by decide) (by decide) (by decide) (Nat.le_of_ble_eq_true rfl) (by omega) (by omega) (by omega) rfl ?_
          refine q_aload_n 0 89 dX12_lines_88 rfl rfl rfl ?_
          refine q_getI 0 92 f_X12_22 dX12_lines_89 rfl rfl rfl ?_
          refine q_iconst (-1) 93 dX12_lines_92 ic_m1 rfl ?_
          refine q_icmp_ne 107 96 dX12_lines_93 (by decide) rfl (fun h93 => absurd rfl h93) (fun h93 => ?_)
          refine q_aload_n 0 97 dX12_lines_96 rfl rfl rfl ?_
          refine q_getI 0 100 f_X12_80 dX12_lines_97 rfl rfl rfl ?_
          refine q_aload_n 0 101 dX12_lines_100 rfl rfl rfl ?_
          refine q_getI 0 104 f_X12_83 dX12_lines_101 rfl rfl rfl ?_
          refine q_icmp_ne 112 107 dX12_lines_104 (by decide) rfl (fun h104 => ?_) (fun h104 => absurd h104 (fun h => hz (nI_eqI (by omega) (by omega) (h.trans (hT m).1))))
          exact K112
      · rw [if_neg hf]
        refine q_iload_n 2 34 dX12_lines_33 rfl rfl rfl ?_
        refine q_if_eq 145 37 dX12_lines_34 (by decide) rfl (fun h34 => absurd h34 one_ne0) (fun h34 => ?_)
        refine q_aload_n 0 38 dX12_lines_37 rfl rfl rfl ?_
        refine q_getI 0 41 f_X12_22 dX12_lines_38 rfl rfl rfl ?_
        refine q_iconst (-1) 42 dX12_lines_41 ic_m1 rfl ?_
        refine q_icmp_ne 145 45 dX12_lines_42 (by decide) rfl (fun h42 => absurd rfl h42) (fun h42 => ?_)
        refine q_aload_n 0 46 dX12_lines_45 rfl rfl rfl ?_
        refine q_cVv 0 [0, 1, 2] [] [0, 1, 2] 49 (wr := []) (w1 := _) (ws' := [_, _, _]) (p_skip (T := T) (e := e) (n := n) (hT _) (by omega)) m_X12_90 dX12_lines_46 rfl rfl rfl rfl rfl rfl rfl rfl (by decide) (by decide) (by decide) (by decide) (Nat.le_of_ble_eq_true rfl) (by omega) (by omega) (by omega) rfl ?_
        refine q_iload_n 3 50 dX12_lines_49 rfl rfl rfl ?_
        refine q_bipush 12 52 dX12_lines_50 bc_12 rfl ?_
        refine q_icmp_ne 66 55 dX12_lines_52 (by decide) rfl (fun h52 => ?_) (fun h52 => absurd h52 hcn)
        refine q_iload_n 1 67 dX12_lines_66 rfl rfl rfl ?_
        refine q_if_eq 77 70 dX12_lines_67 (by decide) rfl (fun h67 => ?_) (fun h67 => absurd rfl h67)
        refine q_aload_n 0 78 dX12_lines_77 rfl rfl rfl ?_
        refine q_cVv 0 [0, 1, 2] [] [0, 1, 2] 81 (wr := []) (w1 := _) (ws' := [_, _, _]) hL m_X12_135 dX12_lines_78 rfl rfl rfl rfl rfl rfl rfl rfl (by decide) (by decide) (by decide) (by decide) (Nat.le_of_ble_eq_true rfl) (by omega) (by omega) (by omega) rfl ?_
        refine q_iinc 3 _ 84 (L' := [_, _, _, _]) dX12_lines_81 rfl rfl (by decide) rfl rfl ?_
        refine q_aload_n 0 85 dX12_lines_84 rfl rfl rfl ?_
        refine q_cVv 0 [0, 1, 2] [] [0, 1, 2] 88 (wr := []) (w1 := _) (ws' := [_, _, _]) (p_skip (T := T) (e := e) (n := n1) (hT _) (by omega)) m_X12_90 dX12_lines_85 rfl rfl rfl rfl rfl rfl rfl rfl (by decide) (by decide) (by decide) (by decide) (Nat.le_of_ble_eq_true rfl) (by omega) (by omega) (by omega) rfl ?_
        refine q_aload_n 0 89 dX12_lines_88 rfl rfl rfl ?_
        refine q_getI 0 92 f_X12_22 dX12_lines_89 rfl rfl rfl ?_
        refine q_iconst (-1) 93 dX12_lines_92 ic_m1 rfl ?_
        refine q_icmp_ne 107 96 dX12_lines_93 (by decide) rfl (fun h93 => ?_) (fun h93 => absurd h93 hf)
        exact K107 _ _ _ _
  unfold lnR
  by_cases h9 : sk T e 0 < e
  · rw [if_pos h9]
    refine q_aload_n 0 1 dX12_lines_0 rfl rfl rfl ?_
    refine q_iconst 0 2 dX12_lines_1 ic_0 rfl ?_
    refine q_putI 0 5 (w' := [_, _, _]) f_X12_80 ft_X12_9 dX12_lines_2 rfl rfl rfl rfl ?_
    refine q_aload_n 0 6 dX12_lines_5 rfl rfl rfl ?_
    refine q_iconst 0 7 dX12_lines_6 ic_0 rfl ?_
    refine q_putI 0 10 (w' := [_, _, _]) f_X12_129 ft_X12_11 dX12_lines_7 rfl rfl rfl rfl ?_
    rw [show upd (upd (ps i n (-1) d s) 9 0) 11 0 = ps i 0 (-1) 0 s from by rw [show (0 : Int32) = nI 0 from rfl, ps_9, ps_11]]
    refine q_aload_n 0 11 dX12_lines_10 rfl rfl rfl ?_
    refine q_cVv 0 [0, 1, 2] [] [0, 1, 2] 14 (wr := []) (w1 := _) (ws' := [_, _, _]) (p_skip (T := T) (e := e) (n := 0) (hT _) (by omega)) m_X12_90 dX12_lines_11 rfl rfl rfl rfl rfl rfl rfl rfl (by decide) (by decide) (by decide) (by decide) (Nat.le_of_ble_eq_true rfl) (by omega) (by omega) (by omega) rfl ?_
    refine q_aload_n 0 15 dX12_lines_14 rfl rfl rfl ?_
    refine q_getI 0 18 f_X12_80 dX12_lines_15 rfl rfl rfl ?_
    refine q_aload_n 0 19 dX12_lines_18 rfl rfl rfl ?_
    refine q_getI 0 22 f_X12_83 dX12_lines_19 rfl rfl rfl ?_
    refine q_icmp_ge 29 25 dX12_lines_22 (by decide) rfl (fun h22 => absurd h22 (by show ¬ i 8 ≤ nI (sk T e 0); rw [(hT m).1]; exact nI_ge h9 (by omega))) (fun h22 => ?_)
    refine q_iconst 1 26 dX12_lines_25 ic_1 rfl ?_
    refine q_goto 30 dX12_lines_26 (by decide) ?_
    refine q_istore_n 2 31 (L' := [_, _, _, _]) dX12_lines_30 rfl (by decide) rfl rfl ?_
    refine q_iconst 0 32 dX12_lines_31 ic_0 rfl ?_
    refine q_istore_n 3 33 (L' := [_, _, _, _]) dX12_lines_32 rfl (by decide) rfl rfl ?_
    exact K33 12 _ _ _ (Nat.le_refl _) rfl (Nat.le_of_lt h9)
  · rw [if_neg h9]
    refine q_aload_n 0 1 dX12_lines_0 rfl rfl rfl ?_
    refine q_iconst 0 2 dX12_lines_1 ic_0 rfl ?_
    refine q_putI 0 5 (w' := [_, _, _]) f_X12_80 ft_X12_9 dX12_lines_2 rfl rfl rfl rfl ?_
    refine q_aload_n 0 6 dX12_lines_5 rfl rfl rfl ?_
    refine q_iconst 0 7 dX12_lines_6 ic_0 rfl ?_
    refine q_putI 0 10 (w' := [_, _, _]) f_X12_129 ft_X12_11 dX12_lines_7 rfl rfl rfl rfl ?_
    rw [show upd (upd (ps i n (-1) d s) 9 0) 11 0 = ps i 0 (-1) 0 s from by rw [show (0 : Int32) = nI 0 from rfl, ps_9, ps_11]]
    refine q_aload_n 0 11 dX12_lines_10 rfl rfl rfl ?_
    refine q_cVv 0 [0, 1, 2] [] [0, 1, 2] 14 (wr := []) (w1 := _) (ws' := [_, _, _]) (p_skip (T := T) (e := e) (n := 0) (hT _) (by omega)) m_X12_90 dX12_lines_11 rfl rfl rfl rfl rfl rfl rfl rfl (by decide) (by decide) (by decide) (by decide) (Nat.le_of_ble_eq_true rfl) (by omega) (by omega) (by omega) rfl ?_
    refine q_aload_n 0 15 dX12_lines_14 rfl rfl rfl ?_
    refine q_getI 0 18 f_X12_80 dX12_lines_15 rfl rfl rfl ?_
    refine q_aload_n 0 19 dX12_lines_18 rfl rfl rfl ?_
    refine q_getI 0 22 f_X12_83 dX12_lines_19 rfl rfl rfl ?_
    refine q_icmp_ge 29 25 dX12_lines_22 (by decide) rfl (fun h22 => ?_) (fun h22 => absurd (by show i 8 ≤ nI (sk T e 0); rw [(hT m).1]; exact nI_le (by omega) (by have := sk_in (T := T) (Nat.zero_le e); omega)) h22)
    refine q_iconst 0 30 dX12_lines_29 ic_0 rfl ?_
    refine q_istore_n 2 31 (L' := [_, _, _, _]) dX12_lines_30 rfl (by decide) rfl rfl ?_
    refine q_iconst 0 32 dX12_lines_31 ic_0 rfl ?_
    refine q_istore_n 3 33 (L' := [_, _, _, _]) dX12_lines_32 rfl (by decide) rfl rfl ?_
    refine q_iload_n 2 34 dX12_lines_33 rfl rfl rfl ?_
    refine q_if_eq 145 37 dX12_lines_34 (by decide) rfl (fun h34 => ?_) (fun h34 => absurd rfl h34)
    refine q_return dX12_lines_145 rfl ?_
    exact pR.rf

