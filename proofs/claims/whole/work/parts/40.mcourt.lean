/-! ===== courtLine ===== -/
def cellOf (a b w : Int32) : Nat := 12 * (4 * a.toNatClampNeg + b.toNatClampNeg) + w.toNatClampNeg
def ctN (T : Nat → Int32) (e : Nat) (a b w : Int32) (n : Nat) (f : Int32) (m : Nat → Int32) : Nat × Int32 × (Nat → Int32) := (fgN T e n f, fgF T e n f 0 100, if fgF T e n f 0 100 = -1 then upd m (cellOf a b w) (fgV T e n f) else m)
def ctW (T : Nat → Int32) (e : Nat) (a b : Int32) (n : Nat) (m : Nat → Int32) : Nat × Int32 × (Nat → Int32) :=
  if isW T e (sk T e n) w_won then ctN T e a b 0 (sk T e n + 3) (-1) m
  else if isW T e (sk T e n) w_lost then ctN T e a b 1 (sk T e n + 4) (-1) m
  else if isW T e (sk T e n) w_dead then ctN T e a b (2 + figV T e (sk T e n + 4)) (figE T e (sk T e n + 4)) (fgF T e (sk T e n + 4) (-1) 0 9) m
  else (sk T e n, nI (sk T e n), m)
def ctL (T : Nat → Int32) (e n : Nat) (m : Nat → Int32) : Nat × Int32 × (Nat → Int32) :=
  if fgF T e (figE T e n) (fgF T e n (-1) 0 3) 0 3 = -1 then ctW T e (figV T e n) (figV T e (figE T e n)) (figE T e (figE T e n)) m
  else (fgN T e (figE T e n) (fgF T e n (-1) 0 3), fgF T e (figE T e n) (fgF T e n (-1) 0 3) 0 3, m)
def ct1 (T : Nat → Int32) (e k : Nat) (lo hi : Int32) (n : Nat) (m : Nat → Int32) : Nat × Int32 × (Nat → Int32) := (figE T e n, fgF T e n (-1) lo hi, upd m k (figV T e n))
def ctR (T : Nat → Int32) (e n : Nat) (m : Nat → Int32) : Nat × Int32 × (Nat → Int32) :=
  if isW T e (sk T e n) w_rally then ctL T e (sk T e n + 5) m
  else if isW T e (sk T e n) w_games then ct1 T e 194 1 6 (sk T e n + 5) m
  else if isW T e (sk T e n) w_club then ct1 T e 195 0 2 (sk T e n + 4) m
  else if isW T e (sk T e n) w_even then ct1 T e 196 0 1 (sk T e n + 4) m
  else (sk T e n, nI (sk T e n), m)
theorem fgF_f {T : Nat → Int32} {e n : Nat} {f lo hi : Int32} (h : fgF T e n f lo hi = -1) : f = -1 := by
  unfold fgF at h
  split at h
  · assumption
  · exact h
theorem nat_of {v : Int32} {h : Nat} (h31 : h < 2 ^ 31) (h0 : ¬ v < 0) (h1 : ¬ nI h < v) : v = nI v.toNatClampNeg ∧ v.toNatClampNeg ≤ h := by
  have a0 : (0 : Int) ≤ v.toInt := by
    have := mt Int32.lt_iff_toInt_lt.mpr h0
    have e0 : (0 : Int32).toInt = 0 := rfl
    omega
  have a1 : v.toInt ≤ h := by
    have := mt Int32.lt_iff_toInt_lt.mpr h1
    rw [nI_toInt h31] at this
    omega
  have a2 : v.toNatClampNeg = v.toInt.toNat := rfl
  have a3 : v.toNatClampNeg ≤ h := by omega
  refine ⟨Int32.toInt_inj.mp ?_, a3⟩
  rw [nI_toInt (by omega)]
  omega
theorem fg_nat {T : Nat → Int32} {e n h : Nat} {hi : Int32} (h31 : h < 2 ^ 31) (hs : sk T e n < 2 ^ 31) (hh : hi = nI h) (hf : fgF T e n (-1) 0 hi = -1) : figV T e n = nI (figV T e n).toNatClampNeg ∧ (figV T e n).toNatClampNeg ≤ h := by
  have hb : ¬ figBad T e n 0 hi := by
    intro hb
    rw [show fgF T e n (-1) 0 hi = (if figBad T e n 0 hi then nI (sk T e n) else -1) from rfl, if_pos hb] at hf
    exact nI_nm1 hs hf
  refine nat_of h31 (fun h => hb (Or.inr (Or.inr (Or.inl h)))) (fun h => hb (Or.inr (Or.inr (Or.inr ?_))))
  rw [hh]
  exact h
theorem cell_idx {a b w : Int32} {x y z : Nat} (ha : a = nI x) (hb : b = nI y) (hw : w = nI z) (hx : x ≤ 3) (hy : y ≤ 3) (hz : z ≤ 11) : (0 : Int32) + 12 * (4 * a + b) + w = nI (cellOf a b w) ∧ cellOf a b w < 192 := by
  subst ha; subst hb; subst hw
  unfold cellOf
  rw [nI_clamp (by omega), nI_clamp (by omega), nI_clamp (by omega)]
  refine ⟨?_, by omega⟩
  have h : ∀ x, x ≤ 3 → ∀ y, y ≤ 3 → ∀ z, z ≤ 11 → (0 : Int32) + 12 * (4 * nI x + nI y) + nI z = nI (12 * (4 * x + y) + z) := by
    intro x hx y hy z hz
    have h : ∀ x : Fin 4, ∀ y : Fin 4, ∀ z : Fin 12, (0 : Int32) + 12 * (4 * nI x.1 + nI y.1) + nI z.1 = nI (12 * (4 * x.1 + y.1) + z.1) := by decide +kernel
    exact h ⟨x, by omega⟩ ⟨y, by omega⟩ ⟨z, by omega⟩
  exact h x hx y hy z hz
theorem p_courtLine {l : Launch} {g : Gh} {q : Nat} {A : Nat → Nat} {i m tp T : Nat → Int32} {e n : Nat} {s : Int32} (hT : TxOK (i 7) (i 8) m tp T e) (hn : n ≤ e) : Cp l g yX12_courtLine (Cond.code yX12_courtLine cX12_courtLine 5 none) 6 [.ref q] (wP g q A i m tp n (-1) 0 s) none (wP g q A i (ctR T e n m).2.2 tp (ctR T e n m).1 (ctR T e n m).2.1 0 s) := by
  refine ct_of (M := mtX12_courtLine) [some (.ref q), none, none, none, none] rfl (by decide) (Nat.le_of_ble_eq_true rfl) (fun _ h => h) (fun a => ?_)
  have he : e ≤ 400 := hT.2.1
  have hsk := sk_in (T := T) hn
  unfold ctR
  by_cases hw : isW T e (sk T e n) w_rally
  · rw [if_pos hw]
    have h5 : sk T e n + 5 ≤ e := isW_in hw (by decide)
    generalize hr : sk T e n + 5 = r at *
    have hE1 := figE_le T e r h5
    have hE2 := figE_le T e _ hE1
    have hS1 := sk_in (T := T) h5
    have hS2 := sk_in (T := T) hE1
    unfold ctL
    by_cases hf2 : fgF T e (figE T e r) (fgF T e r (-1) 0 3) 0 3 = -1
    · rw [if_pos hf2]
      have hf1 := fgF_f hf2
      rw [hf1] at hf2
      obtain ⟨ea, la⟩ := fg_nat (h := 3) (by omega) (by omega) rfl hf1
      obtain ⟨eb, lb⟩ := fg_nat (h := 3) (by omega) (by omega) rfl hf2
      generalize hva : figV T e r = va at *
      generalize hvb : figV T e (figE T e r) = vb at *
      generalize hn2 : figE T e (figE T e r) = n2 at *
      have hS3 := sk_in (T := T) hE2
      have K102 : ∀ (w : Int32) (c : Nat) (n : Nat) (f : Int32), n ≤ e → (f = -1 → w = nI c ∧ c ≤ 11) → WPs l g mtX12_courtLine 6 0 0 (pR none (wP g q A i (ctN T e va vb w n f m).2.2 tp (ctN T e va vb w n f m).1 (ctN T e va vb w n f m).2.1 0 s)) noX a 102 [some (.ref q), some (.int va), some (.int vb), some (.int w), none] [] (wP g q A i m tp n f 0 s) 0 0 := by
        intro w c n f hn hc
        unfold ctN
        by_cases hf : fgF T e n f 0 100 = -1
        · rw [if_pos hf]
          obtain ⟨ew, lw⟩ := hc (fgF_f hf)
          have hx := cell_idx ea eb ew la lb lw
          generalize cellOf va vb w = cx at *
          refine q_aload_n 0 103 dX12_courtLine_102 rfl rfl rfl ?_
          refine q_iconst 0 104 dX12_courtLine_103 ic_0 rfl ?_
          refine q_bipush 100 106 dX12_courtLine_104 bc_100 rfl ?_
          refine q_cVi 0 [0, 1, 2] [] [0, 1, 2] 109 (wr := []) (w1 := _) (ws' := [_, _, _]) (p_figures (T := T) (e := e) (n := n) hT (by omega)) m_X12_113 dX12_courtLine_106 rfl rfl rfl rfl rfl rfl rfl rfl (by decide) (by decide) (by decide) (by decide) (Nat.le_of_ble_eq_true rfl) (by omega) (by omega) (by omega) rfl ?_
          refine q_istore 4 111 (L' := [_, _, _, _, _]) dX12_courtLine_109 (by decide) rfl rfl ?_
          refine q_aload_n 0 112 dX12_courtLine_111 rfl rfl rfl ?_
          refine q_getI 0 115 f_X12_22 dX12_courtLine_112 rfl rfl rfl ?_
          refine q_iconst (-1) 116 dX12_courtLine_115 ic_m1 rfl ?_
          refine q_icmp_ne 138 119 dX12_courtLine_116 (by decide) rfl (fun h116 => absurd hf h116) (fun h116 => ?_)
          refine q_aload_n 0 120 dX12_courtLine_119 rfl rfl rfl ?_
          refine q_getR 0 123 f_X12_7 dX12_courtLine_120 rfl rfl rfl rfl ?_
          refine q_iconst 0 124 dX12_courtLine_123 ic_0 rfl ?_
          refine q_bipush 12 126 dX12_courtLine_124 bc_12 rfl ?_
          refine q_iconst 4 127 dX12_courtLine_126 ic_4 rfl ?_
          refine q_iload_n 1 128 dX12_courtLine_127 rfl rfl rfl ?_
          refine q_imul 129 dX12_courtLine_128 rfl ?_
          refine q_iload_n 2 130 dX12_courtLine_129 rfl rfl rfl ?_
          refine q_iadd 131 dX12_courtLine_130 rfl ?_
          refine q_imul 132 dX12_courtLine_131 rfl ?_
          refine q_iadd 133 dX12_courtLine_132 rfl ?_
          refine q_iload_n 3 134 dX12_courtLine_133 rfl rfl rfl ?_
          refine q_iadd 135 dX12_courtLine_134 rfl ?_
          refine q_iload 4 137 dX12_courtLine_135 rfl rfl ?_
          refine q_iast 1 cx 138 (w' := [_, _, _]) dX12_courtLine_137 rfl ⟨hx.1, by have := hx.2; omega, by decide⟩ rfl rfl ?_
          refine q_goto 228 dX12_courtLine_138 (by decide) ?_
          refine q_return dX12_courtLine_228 rfl ?_
          exact pR.rf
        · rw [if_neg hf]
          refine q_aload_n 0 103 dX12_courtLine_102 rfl rfl rfl ?_
          refine q_iconst 0 104 dX12_courtLine_103 ic_0 rfl ?_
          refine q_bipush 100 106 dX12_courtLine_104 bc_100 rfl ?_
          refine q_cVi 0 [0, 1, 2] [] [0, 1, 2] 109 (wr := []) (w1 := _) (ws' := [_, _, _]) (p_figures (T := T) (e := e) (n := n) hT (by omega)) m_X12_113 dX12_courtLine_106 rfl rfl rfl rfl rfl rfl rfl rfl (by decide) (by decide) (by decide) (by decide) (Nat.le_of_ble_eq_true rfl) (by omega) (by omega) (by omega) rfl ?_
          refine q_istore 4 111 (L' := [_, _, _, _, _]) dX12_courtLine_109 (by decide) rfl rfl ?_
          refine q_aload_n 0 112 dX12_courtLine_111 rfl rfl rfl ?_
          refine q_getI 0 115 f_X12_22 dX12_courtLine_112 rfl rfl rfl ?_
          refine q_iconst (-1) 116 dX12_courtLine_115 ic_m1 rfl ?_
          refine q_icmp_ne 138 119 dX12_courtLine_116 (by decide) rfl (fun h116 => ?_) (fun h116 => absurd h116 hf)
          refine q_goto 228 dX12_courtLine_138 (by decide) ?_
          refine q_return dX12_courtLine_228 rfl ?_
          exact pR.rf
      unfold ctW
      by_cases hw0 : isW T e (sk T e n2) w_won
      · rw [if_pos hw0]
        have h3 : sk T e n2 + 3 ≤ e := isW_in hw0 (by decide)
        refine q_aload_n 0 1 dX12_courtLine_0 rfl rfl rfl ?_
        refine q_ldcS "rally" 3 sr_X12_107 dX12_courtLine_1 rfl ?_
        refine q_cVi 0 [0, 1, 2] [] [0, 1, 2] 6 (wr := []) (w1 := _) (ws' := [_, _, _]) (p_has sw_X12_107 (by decide) (T := T) (e := e) (n := n) hT (by omega)) m_X12_109 dX12_courtLine_3 rfl rfl rfl rfl rfl rfl rfl rfl (by decide) (by decide) (by decide) (by decide) (Nat.le_of_ble_eq_true rfl) (by omega) (by omega) (by omega) rfl ?_
        rw [show hasB T e n w_rally = 1 from if_pos hw, show hasN T e n w_rally = sk T e n + 5 from if_pos hw, hr]
        refine q_if_eq 141 9 dX12_courtLine_6 (by decide) rfl (fun h6 => absurd h6 one_ne0) (fun h6 => ?_)
        refine q_aload_n 0 10 dX12_courtLine_9 rfl rfl rfl ?_
        refine q_iconst 0 11 dX12_courtLine_10 ic_0 rfl ?_
        refine q_iconst 3 12 dX12_courtLine_11 ic_3 rfl ?_
        refine q_cVi 0 [0, 1, 2] [] [0, 1, 2] 15 (wr := []) (w1 := _) (ws' := [_, _, _]) (p_figures (T := T) (e := e) (n := r) hT (by omega)) m_X12_113 dX12_courtLine_12 rfl rfl rfl rfl rfl rfl rfl rfl (by decide) (by decide) (by decide) (by decide) (Nat.le_of_ble_eq_true rfl) (by omega) (by omega) (by omega) rfl ?_
        rw [show fgV T e r (-1) = figV T e r from rfl, show fgN T e r (-1) = figE T e r from rfl, hf1, hva]
        refine q_istore_n 1 16 (L' := [_, _, _, _, _]) dX12_courtLine_15 rfl (by decide) rfl rfl ?_
        refine q_aload_n 0 17 dX12_courtLine_16 rfl rfl rfl ?_
        refine q_iconst 0 18 dX12_courtLine_17 ic_0 rfl ?_
        refine q_iconst 3 19 dX12_courtLine_18 ic_3 rfl ?_
        refine q_cVi 0 [0, 1, 2] [] [0, 1, 2] 22 (wr := []) (w1 := _) (ws' := [_, _, _]) (p_figures (T := T) (e := e) (n := figE T e r) hT (by omega)) m_X12_113 dX12_courtLine_19 rfl rfl rfl rfl rfl rfl rfl rfl (by decide) (by decide) (by decide) (by decide) (Nat.le_of_ble_eq_true rfl) (by omega) (by omega) (by omega) rfl ?_
        rw [show fgV T e (figE T e r) (-1) = figV T e (figE T e r) from rfl, show fgN T e (figE T e r) (-1) = figE T e (figE T e r) from rfl, hf2, hvb, hn2]
        refine q_istore_n 2 23 (L' := [_, _, _, _, _]) dX12_courtLine_22 rfl (by decide) rfl rfl ?_
        refine q_aload_n 0 24 dX12_courtLine_23 rfl rfl rfl ?_
        refine q_getI 0 27 f_X12_22 dX12_courtLine_24 rfl rfl rfl ?_
        refine q_iconst (-1) 28 dX12_courtLine_27 ic_m1 rfl ?_
        refine q_icmp_eq 32 31 dX12_courtLine_28 (by decide) rfl (fun h28 => ?_) (fun h28 => absurd rfl h28)
        refine q_aload_n 0 33 dX12_courtLine_32 rfl rfl rfl ?_
        refine q_ldcS "won" 35 sr_X12_117 dX12_courtLine_33 rfl ?_
        refine q_cVi 0 [0, 1, 2] [] [0, 1, 2] 38 (wr := []) (w1 := _) (ws' := [_, _, _]) (p_has sw_X12_117 (by decide) (T := T) (e := e) (n := n2) hT (by omega)) m_X12_109 dX12_courtLine_35 rfl rfl rfl rfl rfl rfl rfl rfl (by decide) (by decide) (by decide) (by decide) (Nat.le_of_ble_eq_true rfl) (by omega) (by omega) (by omega) rfl ?_
        rw [show hasB T e n2 w_won = 1 from if_pos hw0, show hasN T e n2 w_won = sk T e n2 + 3 from if_pos hw0]
        refine q_if_eq 45 41 dX12_courtLine_38 (by decide) rfl (fun h38 => absurd h38 one_ne0) (fun h38 => ?_)
        refine q_iconst 0 42 dX12_courtLine_41 ic_0 rfl ?_
        refine q_goto 72 dX12_courtLine_42 (by decide) ?_
        refine q_istore_n 3 73 (L' := [_, _, _, _, _]) dX12_courtLine_72 rfl (by decide) rfl rfl ?_
        refine q_iload_n 3 74 dX12_courtLine_73 rfl rfl rfl ?_
        refine q_iconst (-1) 75 dX12_courtLine_74 ic_m1 rfl ?_
        refine q_icmp_ne 87 78 dX12_courtLine_75 (by decide) rfl (fun h75 => ?_) (fun h75 => absurd h75 (by decide))
        refine q_iload_n 3 88 dX12_courtLine_87 rfl rfl rfl ?_
        refine q_iconst 2 89 dX12_courtLine_88 ic_2 rfl ?_
        refine q_icmp_ne 102 92 dX12_courtLine_89 (by decide) rfl (fun h89 => ?_) (fun h89 => absurd h89 (by decide))
        exact K102 0 0 _ _ h3 (fun _ => ⟨rfl, by omega⟩)
      · rw [if_neg hw0]
        by_cases hw1 : isW T e (sk T e n2) w_lost
        · rw [if_pos hw1]
          have h4 : sk T e n2 + 4 ≤ e := isW_in hw1 (by decide)
          refine q_aload_n 0 1 dX12_courtLine_0 rfl rfl rfl ?_
          refine q_ldcS "rally" 3 sr_X12_107 dX12_courtLine_1 rfl ?_
          refine q_cVi 0 [0, 1, 2] [] [0, 1, 2] 6 (wr := []) (w1 := _) (ws' := [_, _, _]) (p_has sw_X12_107 (by decide) (T := T) (e := e) (n := n) hT (by omega)) m_X12_109 dX12_courtLine_3 rfl rfl rfl rfl rfl rfl rfl rfl (by decide) (by decide) (by decide) (by decide) (Nat.le_of_ble_eq_true rfl) (by omega) (by omega) (by omega) rfl ?_
          rw [show hasB T e n w_rally = 1 from if_pos hw, show hasN T e n w_rally = sk T e n + 5 from if_pos hw, hr]
          refine q_if_eq 141 9 dX12_courtLine_6 (by decide) rfl (fun h6 => absurd h6 one_ne0) (fun h6 => ?_)
          refine q_aload_n 0 10 dX12_courtLine_9 rfl rfl rfl ?_
          refine q_iconst 0 11 dX12_courtLine_10 ic_0 rfl ?_
          refine q_iconst 3 12 dX12_courtLine_11 ic_3 rfl ?_
          refine q_cVi 0 [0, 1, 2] [] [0, 1, 2] 15 (wr := []) (w1 := _) (ws' := [_, _, _]) (p_figures (T := T) (e := e) (n := r) hT (by omega)) m_X12_113 dX12_courtLine_12 rfl rfl rfl rfl rfl rfl rfl rfl (by decide) (by decide) (by decide) (by decide) (Nat.le_of_ble_eq_true rfl) (by omega) (by omega) (by omega) rfl ?_
          rw [show fgV T e r (-1) = figV T e r from rfl, show fgN T e r (-1) = figE T e r from rfl, hf1, hva]
          refine q_istore_n 1 16 (L' := [_, _, _, _, _]) dX12_courtLine_15 rfl (by decide) rfl rfl ?_
          refine q_aload_n 0 17 dX12_courtLine_16 rfl rfl rfl ?_
          refine q_iconst 0 18 dX12_courtLine_17 ic_0 rfl ?_
          refine q_iconst 3 19 dX12_courtLine_18 ic_3 rfl ?_
          refine q_cVi 0 [0, 1, 2] [] [0, 1, 2] 22 (wr := []) (w1 := _) (ws' := [_, _, _]) (p_figures (T := T) (e := e) (n := figE T e r) hT (by omega)) m_X12_113 dX12_courtLine_19 rfl rfl rfl rfl rfl rfl rfl rfl (by decide) (by decide) (by decide) (by decide) (Nat.le_of_ble_eq_true rfl) (by omega) (by omega) (by omega) rfl ?_
          rw [show fgV T e (figE T e r) (-1) = figV T e (figE T e r) from rfl, show fgN T e (figE T e r) (-1) = figE T e (figE T e r) from rfl, hf2, hvb, hn2]
          refine q_istore_n 2 23 (L' := [_, _, _, _, _]) dX12_courtLine_22 rfl (by decide) rfl rfl ?_
          refine q_aload_n 0 24 dX12_courtLine_23 rfl rfl rfl ?_
          refine q_getI 0 27 f_X12_22 dX12_courtLine_24 rfl rfl rfl ?_
          refine q_iconst (-1) 28 dX12_courtLine_27 ic_m1 rfl ?_
          refine q_icmp_eq 32 31 dX12_courtLine_28 (by decide) rfl (fun h28 => ?_) (fun h28 => absurd rfl h28)
          refine q_aload_n 0 33 dX12_courtLine_32 rfl rfl rfl ?_
          refine q_ldcS "won" 35 sr_X12_117 dX12_courtLine_33 rfl ?_
          refine q_cVi 0 [0, 1, 2] [] [0, 1, 2] 38 (wr := []) (w1 := _) (ws' := [_, _, _]) (p_has sw_X12_117 (by decide) (T := T) (e := e) (n := n2) hT (by omega)) m_X12_109 dX12_courtLine_35 rfl rfl rfl rfl rfl rfl rfl rfl (by decide) (by decide) (by decide) (by decide) (Nat.le_of_ble_eq_true rfl) (by omega) (by omega) (by omega) rfl ?_
          rw [show hasB T e n2 w_won = 0 from if_neg hw0, show hasN T e n2 w_won = sk T e n2 from if_neg hw0]
          refine q_if_eq 45 41 dX12_courtLine_38 (by decide) rfl (fun h38 => ?_) (fun h38 => absurd rfl h38)
          refine q_aload_n 0 46 dX12_courtLine_45 rfl rfl rfl ?_
          refine q_ldcS "lost" 48 sr_X12_119 dX12_courtLine_46 rfl ?_
          refine q_cVi 0 [0, 1, 2] [] [0, 1, 2] 51 (wr := []) (w1 := _) (ws' := [_, _, _]) (p_has sw_X12_119 (by decide) (T := T) (e := e) (n := sk T e n2) hT (by omega)) m_X12_109 dX12_courtLine_48 rfl rfl rfl rfl rfl rfl rfl rfl (by decide) (by decide) (by decide) (by decide) (Nat.le_of_ble_eq_true rfl) (by omega) (by omega) (by omega) rfl ?_
          rw [show hasB T e (sk T e n2) w_lost = 1 from by unfold hasB; rw [sk_sk]; exact if_pos hw1, show hasN T e (sk T e n2) w_lost = sk T e n2 + 4 from by unfold hasN; rw [sk_sk]; exact if_pos hw1]
          refine q_if_eq 58 54 dX12_courtLine_51 (by decide) rfl (fun h51 => absurd h51 one_ne0) (fun h51 => ?_)
          refine q_iconst 1 55 dX12_courtLine_54 ic_1 rfl ?_
          refine q_goto 72 dX12_courtLine_55 (by decide) ?_
          refine q_istore_n 3 73 (L' := [_, _, _, _, _]) dX12_courtLine_72 rfl (by decide) rfl rfl ?_
          refine q_iload_n 3 74 dX12_courtLine_73 rfl rfl rfl ?_
          refine q_iconst (-1) 75 dX12_courtLine_74 ic_m1 rfl ?_
          refine q_icmp_ne 87 78 dX12_courtLine_75 (by decide) rfl (fun h75 => ?_) (fun h75 => absurd h75 (by decide))
          refine q_iload_n 3 88 dX12_courtLine_87 rfl rfl rfl ?_
          refine q_iconst 2 89 dX12_courtLine_88 ic_2 rfl ?_
          refine q_icmp_ne 102 92 dX12_courtLine_89 (by decide) rfl (fun h89 => ?_) (fun h89 => absurd h89 (by decide))
          exact K102 1 1 _ _ h4 (fun _ => ⟨rfl, by omega⟩)
        · rw [if_neg hw1]
          by_cases hw2 : isW T e (sk T e n2) w_dead
          · rw [if_pos hw2]
            have h4 : sk T e n2 + 4 ≤ e := isW_in hw2 (by decide)
            have hS4 := sk_in (T := T) h4
            have hE4 := figE_le T e _ h4
            refine q_aload_n 0 1 dX12_courtLine_0 rfl rfl rfl ?_
            refine q_ldcS "rally" 3 sr_X12_107 dX12_courtLine_1 rfl ?_
            refine q_cVi 0 [0, 1, 2] [] [0, 1, 2] 6 (wr := []) (w1 := _) (ws' := [_, _, _]) (p_has sw_X12_107 (by decide) (T := T) (e := e) (n := n) hT (by omega)) m_X12_109 dX12_courtLine_3 rfl rfl rfl rfl rfl rfl rfl rfl (by decide) (by decide) (by decide) (by decide) (Nat.le_of_ble_eq_true rfl) (by omega) (by omega) (by omega) rfl ?_
            rw [show hasB T e n w_rally = 1 from if_pos hw, show hasN T e n w_rally = sk T e n + 5 from if_pos hw, hr]
            refine q_if_eq 141 9 dX12_courtLine_6 (by decide) rfl (fun h6 => absurd h6 one_ne0) (fun h6 => ?_)
            refine q_aload_n 0 10 dX12_courtLine_9 rfl rfl rfl ?_
            refine q_iconst 0 11 dX12_courtLine_10 ic_0 rfl ?_
            refine q_iconst 3 12 dX12_courtLine_11 ic_3 rfl ?_
            refine q_cVi 0 [0, 1, 2] [] [0, 1, 2] 15 (wr := []) (w1 := _) (ws' := [_, _, _]) (p_figures (T := T) (e := e) (n := r) hT (by omega)) m_X12_113 dX12_courtLine_12 rfl rfl rfl rfl rfl rfl rfl rfl (by decide) (by decide) (by decide) (by decide) (Nat.le_of_ble_eq_true rfl) (by omega) (by omega) (by omega) rfl ?_
            rw [show fgV T e r (-1) = figV T e r from rfl, show fgN T e r (-1) = figE T e r from rfl, hf1, hva]
            refine q_istore_n 1 16 (L' := [_, _, _, _, _]) dX12_courtLine_15 rfl (by decide) rfl rfl ?_
            refine q_aload_n 0 17 dX12_courtLine_16 rfl rfl rfl ?_
            refine q_iconst 0 18 dX12_courtLine_17 ic_0 rfl ?_
            refine q_iconst 3 19 dX12_courtLine_18 ic_3 rfl ?_
            refine q_cVi 0 [0, 1, 2] [] [0, 1, 2] 22 (wr := []) (w1 := _) (ws' := [_, _, _]) (p_figures (T := T) (e := e) (n := figE T e r) hT (by omega)) m_X12_113 dX12_courtLine_19 rfl rfl rfl rfl rfl rfl rfl rfl (by decide) (by decide) (by decide) (by decide) (Nat.le_of_ble_eq_true rfl) (by omega) (by omega) (by omega) rfl ?_
            rw [show fgV T e (figE T e r) (-1) = figV T e (figE T e r) from rfl, show fgN T e (figE T e r) (-1) = figE T e (figE T e r) from rfl, hf2, hvb, hn2]
            refine q_istore_n 2 23 (L' := [_, _, _, _, _]) dX12_courtLine_22 rfl (by decide) rfl rfl ?_
            refine q_aload_n 0 24 dX12_courtLine_23 rfl rfl rfl ?_
            refine q_getI 0 27 f_X12_22 dX12_courtLine_24 rfl rfl rfl ?_
            refine q_iconst (-1) 28 dX12_courtLine_27 ic_m1 rfl ?_
            refine q_icmp_eq 32 31 dX12_courtLine_28 (by decide) rfl (fun h28 => ?_) (fun h28 => absurd rfl h28)
            refine q_aload_n 0 33 dX12_courtLine_32 rfl rfl rfl ?_
            refine q_ldcS "won" 35 sr_X12_117 dX12_courtLine_33 rfl ?_
            refine q_cVi 0 [0, 1, 2] [] [0, 1, 2] 38 (wr := []) (w1 := _) (ws' := [_, _, _]) (p_has sw_X12_117 (by decide) (T := T) (e := e) (n := n2) hT (by omega)) m_X12_109 dX12_courtLine_35 rfl rfl rfl rfl rfl rfl rfl rfl (by decide) (by decide) (by decide) (by decide) (Nat.le_of_ble_eq_true rfl) (by omega) (by omega) (by omega) rfl ?_
            rw [show hasB T e n2 w_won = 0 from if_neg hw0, show hasN T e n2 w_won = sk T e n2 from if_neg hw0]
            refine q_if_eq 45 41 dX12_courtLine_38 (by decide) rfl (fun h38 => ?_) (fun h38 => absurd rfl h38)
            refine q_aload_n 0 46 dX12_courtLine_45 rfl rfl rfl ?_
            refine q_ldcS "lost" 48 sr_X12_119 dX12_courtLine_46 rfl ?_
            refine q_cVi 0 [0, 1, 2] [] [0, 1, 2] 51 (wr := []) (w1 := _) (ws' := [_, _, _]) (p_has sw_X12_119 (by decide) (T := T) (e := e) (n := sk T e n2) hT (by omega)) m_X12_109 dX12_courtLine_48 rfl rfl rfl rfl rfl rfl rfl rfl (by decide) (by decide) (by decide) (by decide) (Nat.le_of_ble_eq_true rfl) (by omega) (by omega) (by omega) rfl ?_
            rw [show hasB T e (sk T e n2) w_lost = 0 from by unfold hasB; rw [sk_sk]; exact if_neg hw1, show hasN T e (sk T e n2) w_lost = sk T e n2 from by unfold hasN; rw [sk_sk]; exact if_neg hw1]
            refine q_if_eq 58 54 dX12_courtLine_51 (by decide) rfl (fun h51 => ?_) (fun h51 => absurd rfl h51)
            refine q_aload_n 0 59 dX12_courtLine_58 rfl rfl rfl ?_
            refine q_ldcS "dead" 61 sr_X12_121 dX12_courtLine_59 rfl ?_
            refine q_cVi 0 [0, 1, 2] [] [0, 1, 2] 64 (wr := []) (w1 := _) (ws' := [_, _, _]) (p_has sw_X12_121 (by decide) (T := T) (e := e) (n := sk T e n2) hT (by omega)) m_X12_109 dX12_courtLine_61 rfl rfl rfl rfl rfl rfl rfl rfl (by decide) (by decide) (by decide) (by decide) (Nat.le_of_ble_eq_true rfl) (by omega) (by omega) (by omega) rfl ?_
            rw [show hasB T e (sk T e n2) w_dead = 1 from by unfold hasB; rw [sk_sk]; exact if_pos hw2, show hasN T e (sk T e n2) w_dead = sk T e n2 + 4 from by unfold hasN; rw [sk_sk]; exact if_pos hw2]
            refine q_if_eq 71 67 dX12_courtLine_64 (by decide) rfl (fun h64 => absurd h64 one_ne0) (fun h64 => ?_)
            refine q_iconst 2 68 dX12_courtLine_67 ic_2 rfl ?_
            refine q_goto 72 dX12_courtLine_68 (by decide) ?_
            refine q_istore_n 3 73 (L' := [_, _, _, _, _]) dX12_courtLine_72 rfl (by decide) rfl rfl ?_
            refine q_iload_n 3 74 dX12_courtLine_73 rfl rfl rfl ?_
            refine q_iconst (-1) 75 dX12_courtLine_74 ic_m1 rfl ?_
            refine q_icmp_ne 87 78 dX12_courtLine_75 (by decide) rfl (fun h75 => ?_) (fun h75 => absurd h75 (by decide))
            refine q_iload_n 3 88 dX12_courtLine_87 rfl rfl rfl ?_
            refine q_iconst 2 89 dX12_courtLine_88 ic_2 rfl ?_
            refine q_icmp_ne 102 92 dX12_courtLine_89 (by decide) rfl (fun h89 => absurd (by decide) h89) (fun h89 => ?_)
            refine q_iconst 2 93 dX12_courtLine_92 ic_2 rfl ?_
            refine q_aload_n 0 94 dX12_courtLine_93 rfl rfl rfl ?_
            refine q_iconst 0 95 dX12_courtLine_94 ic_0 rfl ?_
            refine q_bipush 9 97 dX12_courtLine_95 bc_9 rfl ?_
            refine q_cVi 0 [0, 1, 2] [] [0, 1, 2] 100 (wr := []) (w1 := _) (ws' := [_, _, _]) (p_figures (T := T) (e := e) (n := sk T e n2 + 4) hT (by omega)) m_X12_113 dX12_courtLine_97 rfl rfl rfl rfl rfl rfl rfl rfl (by decide) (by decide) (by decide) (by decide) (Nat.le_of_ble_eq_true rfl) (by omega) (by omega) (by omega) rfl ?_
            rw [show fgV T e (sk T e n2 + 4) (-1) = figV T e (sk T e n2 + 4) from rfl, show fgN T e (sk T e n2 + 4) (-1) = figE T e (sk T e n2 + 4) from rfl]
            refine q_iadd 101 dX12_courtLine_100 rfl ?_
            refine q_istore_n 3 102 (L' := [_, _, _, _, _]) dX12_courtLine_101 rfl (by decide) rfl rfl ?_
            refine K102 _ (2 + (figV T e (sk T e n2 + 4)).toNatClampNeg) _ _ hE4 (fun hf => ?_)
            obtain ⟨ed, ld⟩ := fg_nat (h := 9) (by omega) (by omega) rfl hf
            refine ⟨?_, by omega⟩
            rw [← nI_add, ← ed]
            rfl
          · rw [if_neg hw2]
            refine q_aload_n 0 1 dX12_courtLine_0 rfl rfl rfl ?_
            refine q_ldcS "rally" 3 sr_X12_107 dX12_courtLine_1 rfl ?_
            refine q_cVi 0 [0, 1, 2] [] [0, 1, 2] 6 (wr := []) (w1 := _) (ws' := [_, _, _]) (p_has sw_X12_107 (by decide) (T := T) (e := e) (n := n) hT (by omega)) m_X12_109 dX12_courtLine_3 rfl rfl rfl rfl rfl rfl rfl rfl (by decide) (by decide) (by decide) (by decide) (Nat.le_of_ble_eq_true rfl) (by omega) (by omega) (by omega) rfl ?_
            rw [show hasB T e n w_rally = 1 from if_pos hw, show hasN T e n w_rally = sk T e n + 5 from if_pos hw, hr]
            refine q_if_eq 141 9 dX12_courtLine_6 (by decide) rfl (fun h6 => absurd h6 one_ne0) (fun h6 => ?_)
            refine q_aload_n 0 10 dX12_courtLine_9 rfl rfl rfl ?_
            refine q_iconst 0 11 dX12_courtLine_10 ic_0 rfl ?_
            refine q_iconst 3 12 dX12_courtLine_11 ic_3 rfl ?_
            refine q_cVi 0 [0, 1, 2] [] [0, 1, 2] 15 (wr := []) (w1 := _) (ws' := [_, _, _]) (p_figures (T := T) (e := e) (n := r) hT (by omega)) m_X12_113 dX12_courtLine_12 rfl rfl rfl rfl rfl rfl rfl rfl (by decide) (by decide) (by decide) (by decide) (Nat.le_of_ble_eq_true rfl) (by omega) (by omega) (by omega) rfl ?_
            rw [show fgV T e r (-1) = figV T e r from rfl, show fgN T e r (-1) = figE T e r from rfl, hf1, hva]
            refine q_istore_n 1 16 (L' := [_, _, _, _, _]) dX12_courtLine_15 rfl (by decide) rfl rfl ?_
            refine q_aload_n 0 17 dX12_courtLine_16 rfl rfl rfl ?_
            refine q_iconst 0 18 dX12_courtLine_17 ic_0 rfl ?_
            refine q_iconst 3 19 dX12_courtLine_18 ic_3 rfl ?_
            refine q_cVi 0 [0, 1, 2] [] [0, 1, 2] 22 (wr := []) (w1 := _) (ws' := [_, _, _]) (p_figures (T := T) (e := e) (n := figE T e r) hT (by omega)) m_X12_113 dX12_courtLine_19 rfl rfl rfl rfl rfl rfl rfl rfl (by decide) (by decide) (by decide) (by decide) (Nat.le_of_ble_eq_true rfl) (by omega) (by omega) (by omega) rfl ?_
            rw [show fgV T e (figE T e r) (-1) = figV T e (figE T e r) from rfl, show fgN T e (figE T e r) (-1) = figE T e (figE T e r) from rfl, hf2, hvb, hn2]
            refine q_istore_n 2 23 (L' := [_, _, _, _, _]) dX12_courtLine_22 rfl (by decide) rfl rfl ?_
            refine q_aload_n 0 24 dX12_courtLine_23 rfl rfl rfl ?_
            refine q_getI 0 27 f_X12_22 dX12_courtLine_24 rfl rfl rfl ?_
            refine q_iconst (-1) 28 dX12_courtLine_27 ic_m1 rfl ?_
            refine q_icmp_eq 32 31 dX12_courtLine_28 (by decide) rfl (fun h28 => ?_) (fun h28 => absurd rfl h28)
            refine q_aload_n 0 33 dX12_courtLine_32 rfl rfl rfl ?_
            refine q_ldcS "won" 35 sr_X12_117 dX12_courtLine_33 rfl ?_
            refine q_cVi 0 [0, 1, 2] [] [0, 1, 2] 38 (wr := []) (w1 := _) (ws' := [_, _, _]) (p_has sw_X12_117 (by decide) (T := T) (e := e) (n := n2) hT (by omega)) m_X12_109 dX12_courtLine_35 rfl rfl rfl rfl rfl rfl rfl rfl (by decide) (by decide) (by decide) (by decide) (Nat.le_of_ble_eq_true rfl) (by omega) (by omega) (by omega) rfl ?_
            rw [show hasB T e n2 w_won = 0 from if_neg hw0, show hasN T e n2 w_won = sk T e n2 from if_neg hw0]
            refine q_if_eq 45 41 dX12_courtLine_38 (by decide) rfl (fun h38 => ?_) (fun h38 => absurd rfl h38)
            refine q_aload_n 0 46 dX12_courtLine_45 rfl rfl rfl ?_
            refine q_ldcS "lost" 48 sr_X12_119 dX12_courtLine_46 rfl ?_
            refine q_cVi 0 [0, 1, 2] [] [0, 1, 2] 51 (wr := []) (w1 := _) (ws' := [_, _, _]) (p_has sw_X12_119 (by decide) (T := T) (e := e) (n := sk T e n2) hT (by omega)) m_X12_109 dX12_courtLine_48 rfl rfl rfl rfl rfl rfl rfl rfl (by decide) (by decide) (by decide) (by decide) (Nat.le_of_ble_eq_true rfl) (by omega) (by omega) (by omega) rfl ?_
            rw [show hasB T e (sk T e n2) w_lost = 0 from by unfold hasB; rw [sk_sk]; exact if_neg hw1, show hasN T e (sk T e n2) w_lost = sk T e n2 from by unfold hasN; rw [sk_sk]; exact if_neg hw1]
            refine q_if_eq 58 54 dX12_courtLine_51 (by decide) rfl (fun h51 => ?_) (fun h51 => absurd rfl h51)
            refine q_aload_n 0 59 dX12_courtLine_58 rfl rfl rfl ?_
            refine q_ldcS "dead" 61 sr_X12_121 dX12_courtLine_59 rfl ?_
            refine q_cVi 0 [0, 1, 2] [] [0, 1, 2] 64 (wr := []) (w1 := _) (ws' := [_, _, _]) (p_has sw_X12_121 (by decide) (T := T) (e := e) (n := sk T e n2) hT (by omega)) m_X12_109 dX12_courtLine_61 rfl rfl rfl rfl rfl rfl rfl rfl (by decide) (by decide) (by decide) (by decide) (Nat.le_of_ble_eq_true rfl) (by omega) (by omega) (by omega) rfl ?_
            rw [show hasB T e (sk T e n2) w_dead = 0 from by unfold hasB; rw [sk_sk]; exact if_neg hw2, show hasN T e (sk T e n2) w_dead = sk T e n2 from by unfold hasN; rw [sk_sk]; exact if_neg hw2]
            refine q_if_eq 71 67 dX12_courtLine_64 (by decide) rfl (fun h64 => ?_) (fun h64 => absurd rfl h64)
            refine q_iconst (-1) 72 dX12_courtLine_71 ic_m1 rfl ?_
            refine q_istore_n 3 73 (L' := [_, _, _, _, _]) dX12_courtLine_72 rfl (by decide) rfl rfl ?_
            refine q_iload_n 3 74 dX12_courtLine_73 rfl rfl rfl ?_
            refine q_iconst (-1) 75 dX12_courtLine_74 ic_m1 rfl ?_
            refine q_icmp_ne 87 78 dX12_courtLine_75 (by decide) rfl (fun h75 => absurd (by decide) h75) (fun h75 => ?_)
            refine q_aload_n 0 79 dX12_courtLine_78 rfl rfl rfl ?_
            refine q_aload_n 0 80 dX12_courtLine_79 rfl rfl rfl ?_
            refine q_getI 0 83 f_X12_80 dX12_courtLine_80 rfl rfl rfl ?_
            refine q_cVv 0 [0] [1, 2] [2, 0, 1] 86 (wr := [_, _]) (w1 := _) (ws' := [_, _, _]) p_wrong m_X12_103 dX12_courtLine_83 rfl rfl rfl rfl rfl rfl rfl rfl (by decide) (by decide) (by decide) (by decide) (Nat.le_of_ble_eq_true rfl) (by omega) (by omega) (by omega) rfl ?_
            refine q_return dX12_courtLine_86 rfl ?_
            exact pR.rf
    · rw [if_neg hf2]
      refine q_aload_n 0 1 dX12_courtLine_0 rfl rfl rfl ?_
      refine q_ldcS "rally" 3 sr_X12_107 dX12_courtLine_1 rfl ?_
      refine q_cVi 0 [0, 1, 2] [] [0, 1, 2] 6 (wr := []) (w1 := _) (ws' := [_, _, _]) (p_has sw_X12_107 (by decide) (T := T) (e := e) (n := n) hT (by omega)) m_X12_109 dX12_courtLine_3 rfl rfl rfl rfl rfl rfl rfl rfl (by decide) (by decide) (by decide) (by decide) (Nat.le_of_ble_eq_true rfl) (by omega) (by omega) (by omega) rfl ?_
      rw [show hasB T e n w_rally = 1 from if_pos hw, show hasN T e n w_rally = sk T e n + 5 from if_pos hw, hr]
      refine q_if_eq 141 9 dX12_courtLine_6 (by decide) rfl (fun h6 => absurd h6 one_ne0) (fun h6 => ?_)
      refine q_aload_n 0 10 dX12_courtLine_9 rfl rfl rfl ?_
      refine q_iconst 0 11 dX12_courtLine_10 ic_0 rfl ?_
      refine q_iconst 3 12 dX12_courtLine_11 ic_3 rfl ?_
      refine q_cVi 0 [0, 1, 2] [] [0, 1, 2] 15 (wr := []) (w1 := _) (ws' := [_, _, _]) (p_figures (T := T) (e := e) (n := r) hT (by omega)) m_X12_113 dX12_courtLine_12 rfl rfl rfl rfl rfl rfl rfl rfl (by decide) (by decide) (by decide) (by decide) (Nat.le_of_ble_eq_true rfl) (by omega) (by omega) (by omega) rfl ?_
      rw [show fgN T e r (-1) = figE T e r from rfl]
      refine q_istore_n 1 16 (L' := [_, _, _, _, _]) dX12_courtLine_15 rfl (by decide) rfl rfl ?_
      refine q_aload_n 0 17 dX12_courtLine_16 rfl rfl rfl ?_
      refine q_iconst 0 18 dX12_courtLine_17 ic_0 rfl ?_
      refine q_iconst 3 19 dX12_courtLine_18 ic_3 rfl ?_
      refine q_cVi 0 [0, 1, 2] [] [0, 1, 2] 22 (wr := []) (w1 := _) (ws' := [_, _, _]) (p_figures (T := T) (e := e) (n := figE T e r) hT (by omega)) m_X12_113 dX12_courtLine_19 rfl rfl rfl rfl rfl rfl rfl rfl (by decide) (by decide) (by decide) (by decide) (Nat.le_of_ble_eq_true rfl) (by omega) (by omega) (by omega) rfl ?_
      refine q_istore_n 2 23 (L' := [_, _, _, _, _]) dX12_courtLine_22 rfl (by decide) rfl rfl ?_
      refine q_aload_n 0 24 dX12_courtLine_23 rfl rfl rfl ?_
      refine q_getI 0 27 f_X12_22 dX12_courtLine_24 rfl rfl rfl ?_
      refine q_iconst (-1) 28 dX12_courtLine_27 ic_m1 rfl ?_
      refine q_icmp_eq 32 31 dX12_courtLine_28 (by decide) rfl (fun h28 => absurd h28 hf2) (fun h28 => ?_)
      refine q_return dX12_courtLine_31 rfl ?_
      exact pR.rf
  · rw [if_neg hw]
    by_cases hw0 : isW T e (sk T e n) w_games
    · rw [if_pos hw0]
      have h5 : sk T e n + 5 ≤ e := isW_in hw0 (by decide)
      refine q_aload_n 0 1 dX12_courtLine_0 rfl rfl rfl ?_
      refine q_ldcS "rally" 3 sr_X12_107 dX12_courtLine_1 rfl ?_
      refine q_cVi 0 [0, 1, 2] [] [0, 1, 2] 6 (wr := []) (w1 := _) (ws' := [_, _, _]) (p_has sw_X12_107 (by decide) (T := T) (e := e) (n := n) hT (by omega)) m_X12_109 dX12_courtLine_3 rfl rfl rfl rfl rfl rfl rfl rfl (by decide) (by decide) (by decide) (by decide) (Nat.le_of_ble_eq_true rfl) (by omega) (by omega) (by omega) rfl ?_
      rw [show hasB T e n w_rally = 0 from if_neg hw, show hasN T e n w_rally = sk T e n from if_neg hw]
      refine q_if_eq 141 9 dX12_courtLine_6 (by decide) rfl (fun h6 => ?_) (fun h6 => absurd rfl h6)
      refine q_aload_n 0 142 dX12_courtLine_141 rfl rfl rfl ?_
      refine q_ldcS "games" 144 sr_X12_123 dX12_courtLine_142 rfl ?_
      refine q_cVi 0 [0, 1, 2] [] [0, 1, 2] 147 (wr := []) (w1 := _) (ws' := [_, _, _]) (p_has sw_X12_123 (by decide) (T := T) (e := e) (n := sk T e n) hT (by omega)) m_X12_109 dX12_courtLine_144 rfl rfl rfl rfl rfl rfl rfl rfl (by decide) (by decide) (by decide) (by decide) (Nat.le_of_ble_eq_true rfl) (by omega) (by omega) (by omega) rfl ?_
      rw [show hasB T e (sk T e n) w_games = 1 from by unfold hasB; rw [sk_sk]; exact if_pos hw0, show hasN T e (sk T e n) w_games = sk T e n + 5 from by unfold hasN; rw [sk_sk]; exact if_pos hw0]
      refine q_if_eq 168 150 dX12_courtLine_147 (by decide) rfl (fun h147 => absurd h147 one_ne0) (fun h147 => ?_)
      refine q_aload_n 0 151 dX12_courtLine_150 rfl rfl rfl ?_
      refine q_getR 0 154 f_X12_7 dX12_courtLine_151 rfl rfl rfl rfl ?_
      refine q_sipush 194 157 dX12_courtLine_154 sc_194 rfl ?_
      refine q_aload_n 0 158 dX12_courtLine_157 rfl rfl rfl ?_
      refine q_iconst 1 159 dX12_courtLine_158 ic_1 rfl ?_
      refine q_bipush 6 161 dX12_courtLine_159 bc_6 rfl ?_
      refine q_cVi 0 [0, 1, 2] [] [0, 1, 2] 164 (wr := []) (w1 := _) (ws' := [_, _, _]) (p_figures (T := T) (e := e) (n := sk T e n + 5) hT (by omega)) m_X12_113 dX12_courtLine_161 rfl rfl rfl rfl rfl rfl rfl rfl (by decide) (by decide) (by decide) (by decide) (Nat.le_of_ble_eq_true rfl) (by omega) (by omega) (by omega) rfl ?_
      refine q_iast 1 194 165 (w' := [_, _, _]) dX12_courtLine_164 rfl ⟨rfl, by omega, by decide⟩ rfl rfl ?_
      refine q_goto 228 dX12_courtLine_165 (by decide) ?_
      refine q_return dX12_courtLine_228 rfl ?_
      exact pR.rf
    · rw [if_neg hw0]
      by_cases hw1 : isW T e (sk T e n) w_club
      · rw [if_pos hw1]
        have h5 : sk T e n + 4 ≤ e := isW_in hw1 (by decide)
        refine q_aload_n 0 1 dX12_courtLine_0 rfl rfl rfl ?_
        refine q_ldcS "rally" 3 sr_X12_107 dX12_courtLine_1 rfl ?_
        refine q_cVi 0 [0, 1, 2] [] [0, 1, 2] 6 (wr := []) (w1 := _) (ws' := [_, _, _]) (p_has sw_X12_107 (by decide) (T := T) (e := e) (n := n) hT (by omega)) m_X12_109 dX12_courtLine_3 rfl rfl rfl rfl rfl rfl rfl rfl (by decide) (by decide) (by decide) (by decide) (Nat.le_of_ble_eq_true rfl) (by omega) (by omega) (by omega) rfl ?_
        rw [show hasB T e n w_rally = 0 from if_neg hw, show hasN T e n w_rally = sk T e n from if_neg hw]
        refine q_if_eq 141 9 dX12_courtLine_6 (by decide) rfl (fun h6 => ?_) (fun h6 => absurd rfl h6)
        refine q_aload_n 0 142 dX12_courtLine_141 rfl rfl rfl ?_
        refine q_ldcS "games" 144 sr_X12_123 dX12_courtLine_142 rfl ?_
        refine q_cVi 0 [0, 1, 2] [] [0, 1, 2] 147 (wr := []) (w1 := _) (ws' := [_, _, _]) (p_has sw_X12_123 (by decide) (T := T) (e := e) (n := sk T e n) hT (by omega)) m_X12_109 dX12_courtLine_144 rfl rfl rfl rfl rfl rfl rfl rfl (by decide) (by decide) (by decide) (by decide) (Nat.le_of_ble_eq_true rfl) (by omega) (by omega) (by omega) rfl ?_
        rw [show hasB T e (sk T e n) w_games = 0 from by unfold hasB; rw [sk_sk]; exact if_neg hw0, show hasN T e (sk T e n) w_games = sk T e n from by unfold hasN; rw [sk_sk]; exact if_neg hw0]
        refine q_if_eq 168 150 dX12_courtLine_147 (by decide) rfl (fun h147 => ?_) (fun h147 => absurd rfl h147)
        refine q_aload_n 0 169 dX12_courtLine_168 rfl rfl rfl ?_
        refine q_ldcS "club" 171 sr_X12_125 dX12_courtLine_169 rfl ?_
        refine q_cVi 0 [0, 1, 2] [] [0, 1, 2] 174 (wr := []) (w1 := _) (ws' := [_, _, _]) (p_has sw_X12_125 (by decide) (T := T) (e := e) (n := sk T e n) hT (by omega)) m_X12_109 dX12_courtLine_171 rfl rfl rfl rfl rfl rfl rfl rfl (by decide) (by decide) (by decide) (by decide) (Nat.le_of_ble_eq_true rfl) (by omega) (by omega) (by omega) rfl ?_
        rw [show hasB T e (sk T e n) w_club = 1 from by unfold hasB; rw [sk_sk]; exact if_pos hw1, show hasN T e (sk T e n) w_club = sk T e n + 4 from by unfold hasN; rw [sk_sk]; exact if_pos hw1]
        refine q_if_eq 194 177 dX12_courtLine_174 (by decide) rfl (fun h174 => absurd h174 one_ne0) (fun h174 => ?_)
        refine q_aload_n 0 178 dX12_courtLine_177 rfl rfl rfl ?_
        refine q_getR 0 181 f_X12_7 dX12_courtLine_178 rfl rfl rfl rfl ?_
        refine q_sipush 195 184 dX12_courtLine_181 sc_195 rfl ?_
        refine q_aload_n 0 185 dX12_courtLine_184 rfl rfl rfl ?_
        refine q_iconst 0 186 dX12_courtLine_185 ic_0 rfl ?_
        refine q_iconst 2 187 dX12_courtLine_186 ic_2 rfl ?_
        refine q_cVi 0 [0, 1, 2] [] [0, 1, 2] 190 (wr := []) (w1 := _) (ws' := [_, _, _]) (p_figures (T := T) (e := e) (n := sk T e n + 4) hT (by omega)) m_X12_113 dX12_courtLine_187 rfl rfl rfl rfl rfl rfl rfl rfl (by decide) (by decide) (by decide) (by decide) (Nat.le_of_ble_eq_true rfl) (by omega) (by omega) (by omega) rfl ?_
        refine q_iast 1 195 191 (w' := [_, _, _]) dX12_courtLine_190 rfl ⟨rfl, by omega, by decide⟩ rfl rfl ?_
        refine q_goto 228 dX12_courtLine_191 (by decide) ?_
        refine q_return dX12_courtLine_228 rfl ?_
        exact pR.rf
      · rw [if_neg hw1]
        by_cases hw2 : isW T e (sk T e n) w_even
        · rw [if_pos hw2]
          have h5 : sk T e n + 4 ≤ e := isW_in hw2 (by decide)
          refine q_aload_n 0 1 dX12_courtLine_0 rfl rfl rfl ?_
          refine q_ldcS "rally" 3 sr_X12_107 dX12_courtLine_1 rfl ?_
          refine q_cVi 0 [0, 1, 2] [] [0, 1, 2] 6 (wr := []) (w1 := _) (ws' := [_, _, _]) (p_has sw_X12_107 (by decide) (T := T) (e := e) (n := n) hT (by omega)) m_X12_109 dX12_courtLine_3 rfl rfl rfl rfl rfl rfl rfl rfl (by decide) (by decide) (by decide) (by decide) (Nat.le_of_ble_eq_true rfl) (by omega) (by omega) (by omega) rfl ?_
          rw [show hasB T e n w_rally = 0 from if_neg hw, show hasN T e n w_rally = sk T e n from if_neg hw]
          refine q_if_eq 141 9 dX12_courtLine_6 (by decide) rfl (fun h6 => ?_) (fun h6 => absurd rfl h6)
          refine q_aload_n 0 142 dX12_courtLine_141 rfl rfl rfl ?_
          refine q_ldcS "games" 144 sr_X12_123 dX12_courtLine_142 rfl ?_
          refine q_cVi 0 [0, 1, 2] [] [0, 1, 2] 147 (wr := []) (w1 := _) (ws' := [_, _, _]) (p_has sw_X12_123 (by decide) (T := T) (e := e) (n := sk T e n) hT (by omega)) m_X12_109 dX12_courtLine_144 rfl rfl rfl rfl rfl rfl rfl rfl (by decide) (by decide) (by decide) (by decide) (Nat.le_of_ble_eq_true rfl) (by omega) (by omega) (by omega) rfl ?_
          rw [show hasB T e (sk T e n) w_games = 0 from by unfold hasB; rw [sk_sk]; exact if_neg hw0, show hasN T e (sk T e n) w_games = sk T e n from by unfold hasN; rw [sk_sk]; exact if_neg hw0]
          refine q_if_eq 168 150 dX12_courtLine_147 (by decide) rfl (fun h147 => ?_) (fun h147 => absurd rfl h147)
          refine q_aload_n 0 169 dX12_courtLine_168 rfl rfl rfl ?_
          refine q_ldcS "club" 171 sr_X12_125 dX12_courtLine_169 rfl ?_
          refine q_cVi 0 [0, 1, 2] [] [0, 1, 2] 174 (wr := []) (w1 := _) (ws' := [_, _, _]) (p_has sw_X12_125 (by decide) (T := T) (e := e) (n := sk T e n) hT (by omega)) m_X12_109 dX12_courtLine_171 rfl rfl rfl rfl rfl rfl rfl rfl (by decide) (by decide) (by decide) (by decide) (Nat.le_of_ble_eq_true rfl) (by omega) (by omega) (by omega) rfl ?_
          rw [show hasB T e (sk T e n) w_club = 0 from by unfold hasB; rw [sk_sk]; exact if_neg hw1, show hasN T e (sk T e n) w_club = sk T e n from by unfold hasN; rw [sk_sk]; exact if_neg hw1]
          refine q_if_eq 194 177 dX12_courtLine_174 (by decide) rfl (fun h174 => ?_) (fun h174 => absurd rfl h174)
          refine q_aload_n 0 195 dX12_courtLine_194 rfl rfl rfl ?_
          refine q_ldcS "even" 197 sr_X12_127 dX12_courtLine_195 rfl ?_
          refine q_cVi 0 [0, 1, 2] [] [0, 1, 2] 200 (wr := []) (w1 := _) (ws' := [_, _, _]) (p_has sw_X12_127 (by decide) (T := T) (e := e) (n := sk T e n) hT (by omega)) m_X12_109 dX12_courtLine_197 rfl rfl rfl rfl rfl rfl rfl rfl (by decide) (by decide) (by decide) (by decide) (Nat.le_of_ble_eq_true rfl) (by omega) (by omega) (by omega) rfl ?_
          rw [show hasB T e (sk T e n) w_even = 1 from by unfold hasB; rw [sk_sk]; exact if_pos hw2, show hasN T e (sk T e n) w_even = sk T e n + 4 from by unfold hasN; rw [sk_sk]; exact if_pos hw2]
          refine q_if_eq 220 203 dX12_courtLine_200 (by decide) rfl (fun h200 => absurd h200 one_ne0) (fun h200 => ?_)
          refine q_aload_n 0 204 dX12_courtLine_203 rfl rfl rfl ?_
          refine q_getR 0 207 f_X12_7 dX12_courtLine_204 rfl rfl rfl rfl ?_
          refine q_sipush 196 210 dX12_courtLine_207 sc_196 rfl ?_
          refine q_aload_n 0 211 dX12_courtLine_210 rfl rfl rfl ?_
          refine q_iconst 0 212 dX12_courtLine_211 ic_0 rfl ?_
          refine q_iconst 1 213 dX12_courtLine_212 ic_1 rfl ?_
          refine q_cVi 0 [0, 1, 2] [] [0, 1, 2] 216 (wr := []) (w1 := _) (ws' := [_, _, _]) (p_figures (T := T) (e := e) (n := sk T e n + 4) hT (by omega)) m_X12_113 dX12_courtLine_213 rfl rfl rfl rfl rfl rfl rfl rfl (by decide) (by decide) (by decide) (by decide) (Nat.le_of_ble_eq_true rfl) (by omega) (by omega) (by omega) rfl ?_
          refine q_iast 1 196 217 (w' := [_, _, _]) dX12_courtLine_216 rfl ⟨rfl, by omega, by decide⟩ rfl rfl ?_
          refine q_goto 228 dX12_courtLine_217 (by decide) ?_
          refine q_return dX12_courtLine_228 rfl ?_
          exact pR.rf
        · rw [if_neg hw2]
          refine q_aload_n 0 1 dX12_courtLine_0 rfl rfl rfl ?_
          refine q_ldcS "rally" 3 sr_X12_107 dX12_courtLine_1 rfl ?_
          refine q_cVi 0 [0, 1, 2] [] [0, 1, 2] 6 (wr := []) (w1 := _) (ws' := [_, _, _]) (p_has sw_X12_107 (by decide) (T := T) (e := e) (n := n) hT (by omega)) m_X12_109 dX12_courtLine_3 rfl rfl rfl rfl rfl rfl rfl rfl (by decide) (by decide) (by decide) (by decide) (Nat.le_of_ble_eq_true rfl) (by omega) (by omega) (by omega) rfl ?_
          rw [show hasB T e n w_rally = 0 from if_neg hw, show hasN T e n w_rally = sk T e n from if_neg hw]
          refine q_if_eq 141 9 dX12_courtLine_6 (by decide) rfl (fun h6 => ?_) (fun h6 => absurd rfl h6)
          refine q_aload_n 0 142 dX12_courtLine_141 rfl rfl rfl ?_
          refine q_ldcS "games" 144 sr_X12_123 dX12_courtLine_142 rfl ?_
          refine q_cVi 0 [0, 1, 2] [] [0, 1, 2] 147 (wr := []) (w1 := _) (ws' := [_, _, _]) (p_has sw_X12_123 (by decide) (T := T) (e := e) (n := sk T e n) hT (by omega)) m_X12_109 dX12_courtLine_144 rfl rfl rfl rfl rfl rfl rfl rfl (by decide) (by decide) (by decide) (by decide) (Nat.le_of_ble_eq_true rfl) (by omega) (by omega) (by omega) rfl ?_
          rw [show hasB T e (sk T e n) w_games = 0 from by unfold hasB; rw [sk_sk]; exact if_neg hw0, show hasN T e (sk T e n) w_games = sk T e n from by unfold hasN; rw [sk_sk]; exact if_neg hw0]
          refine q_if_eq 168 150 dX12_courtLine_147 (by decide) rfl (fun h147 => ?_) (fun h147 => absurd rfl h147)
          refine q_aload_n 0 169 dX12_courtLine_168 rfl rfl rfl ?_
          refine q_ldcS "club" 171 sr_X12_125 dX12_courtLine_169 rfl ?_
          refine q_cVi 0 [0, 1, 2] [] [0, 1, 2] 174 (wr := []) (w1 := _) (ws' := [_, _, _]) (p_has sw_X12_125 (by decide) (T := T) (e := e) (n := sk T e n) hT (by omega)) m_X12_109 dX12_courtLine_171 rfl rfl rfl rfl rfl rfl rfl rfl (by decide) (by decide) (by decide) (by decide) (Nat.le_of_ble_eq_true rfl) (by omega) (by omega) (by omega) rfl ?_
          rw [show hasB T e (sk T e n) w_club = 0 from by unfold hasB; rw [sk_sk]; exact if_neg hw1, show hasN T e (sk T e n) w_club = sk T e n from by unfold hasN; rw [sk_sk]; exact if_neg hw1]
          refine q_if_eq 194 177 dX12_courtLine_174 (by decide) rfl (fun h174 => ?_) (fun h174 => absurd rfl h174)
          refine q_aload_n 0 195 dX12_courtLine_194 rfl rfl rfl ?_
          refine q_ldcS "even" 197 sr_X12_127 dX12_courtLine_195 rfl ?_
          refine q_cVi 0 [0, 1, 2] [] [0, 1, 2] 200 (wr := []) (w1 := _) (ws' := [_, _, _]) (p_has sw_X12_127 (by decide) (T := T) (e := e) (n := sk T e n) hT (by omega)) m_X12_109 dX12_courtLine_197 rfl rfl rfl rfl rfl rfl rfl rfl (by decide) (by decide) (by decide) (by decide) (Nat.le_of_ble_eq_true rfl) (by omega) (by omega) (by omega) rfl ?_
          rw [show hasB T e (sk T e n) w_even = 0 from by unfold hasB; rw [sk_sk]; exact if_neg hw2, show hasN T e (sk T e n) w_even = sk T e n from by unfold hasN; rw [sk_sk]; exact if_neg hw2]
          refine q_if_eq 220 203 dX12_courtLine_200 (by decide) rfl (fun h200 => ?_) (fun h200 => absurd rfl h200)
          refine q_aload_n 0 221 dX12_courtLine_220 rfl rfl rfl ?_
          refine q_aload_n 0 222 dX12_courtLine_221 rfl rfl rfl ?_
          refine q_getI 0 225 f_X12_80 dX12_courtLine_222 rfl rfl rfl ?_
          refine q_cVv 0 [0] [1, 2] [2, 0, 1] 228 (wr := [_, _]) (w1 := _) (ws' := [_, _, _]) p_wrong m_X12_103 dX12_courtLine_225 rfl rfl rfl rfl rfl rfl rfl rfl (by decide) (by decide) (by decide) (by decide) (Nat.le_of_ble_eq_true rfl) (by omega) (by omega) (by omega) rfl ?_
          refine q_return dX12_courtLine_228 rfl ?_
          exact pR.rf

