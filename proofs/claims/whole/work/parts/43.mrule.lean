/-! ===== rule ===== -/
theorem ex_nI (x : Int32) : ∃ n : Nat, x = nI n := ⟨x.toBitVec.toNat, by
  apply Int32.toBitVec_inj.mp
  show x.toBitVec = BitVec.ofNat 32 x.toBitVec.toNat
  simp⟩
theorem ps_id (i : Nat → Int32) {n : Nat} (h : i 9 = nI n) : ps i n (i 10) (i 11) (i 15) = i := by
  funext k
  simp only [ps, upd]
  by_cases h1 : k = 15
  · subst h1; simp
  · by_cases h2 : k = 11
    · subst h2; simp
    · by_cases h3 : k = 10
      · subst h3; simp
      · by_cases h4 : k = 9
        · subst h4; simp [h]
        · simp [h1, h2, h3, h4]
/-- the state in which a text on the tape is read -/
def onTape (i : Nat → Int32) : Nat → Int32 := upd (upd i 7 (-1)) 8 (i 6)
def ruL (tp fc : Nat → Int32) (sv of : Int32) (e : Nat) : RLn Int32 := lnR (rlR tp (someG (atomG tp fc sv of e 6) tp e) e) tp e (-1)
def ruT (m : Nat → Int32) (f : Int32) : Int32 := if f = -1 then (if m 193 = 6 then 2 else 0) else 1
def txP (m tp : Nat → Int32) (t j : Nat) : Nat → Int32 := fun k => if t + 1 ≤ k ∧ k < t + 1 + j then tp (k - (t + 1)) else m k
theorem txP_0 (m tp : Nat → Int32) (t : Nat) : txP m tp t 0 = m := by
  funext k
  simp only [txP]
  rw [if_neg (by omega)]
theorem txP_s (m tp : Nat → Int32) (t j : Nat) : upd (txP m tp t j) (t + 1 + j) (tp j) = txP m tp t (j + 1) := by
  funext k
  by_cases hk : k = t + 1 + j
  · subst hk
    simp only [txP, upd, if_true]
    rw [if_pos (by omega), show t + 1 + j - (t + 1) = j by omega]
  · simp only [txP, upd, if_neg hk]
    by_cases h : t + 1 ≤ k ∧ k < t + 1 + j
    · rw [if_pos h, if_pos (by omega)]
    · rw [if_neg h, if_neg (by omega)]
def ruM (m tp : Nat → Int32) (r e : Nat) : Nat → Int32 := upd (txP (upd m (210 + 401 * r) (nI e)) tp (210 + 401 * r) e) 193 (nI (r + 1))
def ruI (i : Nat → Int32) (R : RLn Int32) (th : Int32) : Nat → Int32 := upd (upd (ps (onTape i) R.1 R.2.1 0 R.2.2) 6 0) 0 th
theorem p_rule {l : Launch} {g : Gh} {q : Nat} {A : Nat → Nat} {i m tp fc : Nat → Int32} {e r : Nat} (h6 : i 6 = nI e) (he : e ≤ 400) (hsv : i 13 = 0 ∨ i 13 = 1) (hof : i 14 = 0 ∨ i 14 = 1) (hr : m 193 = nI r) (hr6 : r ≤ 6) : Cp l g yX12_rule (Cond.code yX12_rule cX12_rule 4 (some .int)) 32 [.ref q] [(q, ob 12 i (rM A)), (A 1, aI g 2616 m), (A 5, aI g 400 tp), (A 12, aI g 5 fc)] (some (.int (if ruT m (ruL tp fc (i 13) (i 14) e).2.1 = 0 then nI r else 0))) [(q, ob 12 (ruI i (ruL tp fc (i 13) (i 14) e) (ruT m (ruL tp fc (i 13) (i 14) e).2.1)) (rM A)), (A 1, aI g 2616 (if ruT m (ruL tp fc (i 13) (i 14) e).2.1 = 0 then ruM m tp r e else m)), (A 5, aI g 400 tp), (A 12, aI g 5 fc)] := by
  refine ct_of (M := mtX12_rule) [some (.ref q), none, none, none] rfl (by decide) (Nat.le_of_ble_eq_true rfl) (fun _ h => h) (fun a => ?_)
  have hT : TxOK (onTape i 7) (onTape i 8) m tp tp e := ⟨h6, he, Or.inl ⟨rfl, fun _ _ => rfl⟩⟩
  have hL := fun (n : Nat) (d s : Int32) => p_lines1 (l := l) (g := g) (q := q) (A := A) (i := onTape i) (m := m) (tp := tp) (fc := fc) (T := tp) (e := e) (b := 6) (line := rlR tp (someG (atomG tp fc (i 13) (i 14) e 6) tp e) e) hT (by omega) (fun n s hn => rlR_ok he hsv hof hn) (fun n s hn => p_ruleLine hT hsv hof hn) n d s
  obtain ⟨n0, h9⟩ := ex_nI (i 9)
  have hps : upd (upd (upd (upd i 10 (-1)) 7 (-1)) 8 (upd (upd i 10 (-1)) 7 (-1) 6)) 15 (-1) = ps (onTape i) n0 (-1) (i 11) (-1) := by
    funext k
    simp only [ps, upd, onTape]
    by_cases h1 : k = 15
    · subst h1; simp
    · by_cases h2 : k = 11
      · subst h2; simp
      · by_cases h3 : k = 10
        · subst h3; simp
        · by_cases h4 : k = 9
          · subst h4; simp [h9]
          · by_cases h5 : k = 8
            · subst h5; simp
            · by_cases h6 : k = 7
              · subst h6; simp
              · simp [h1, h2, h3, h4, h5, h6]
  have hL2 := hL n0 (i 11) (-1)
  clear hL
  rw [show lnR (rlR tp (someG (atomG tp fc (i 13) (i 14) e 6) tp e) e) tp e (-1) = ruL tp fc (i 13) (i 14) e from rfl] at hL2
  generalize ruL tp fc (i 13) (i 14) e = R at *
  obtain ⟨n1, f1, s1⟩ := R
  dsimp only at hL2 ⊢
  unfold ruI
  dsimp only
  by_cases hf : f1 = -1
  · subst hf
    by_cases h3 : m 193 = 6
    · rw [show ruT m (-1) = 2 from by unfold ruT; rw [if_pos rfl, if_pos h3], if_neg (by decide), if_neg (by decide)]
      refine q_aload_n 0 1 dX12_rule_0 rfl rfl rfl ?_
      refine q_iconst (-1) 2 dX12_rule_1 ic_m1 rfl ?_
      refine q_putI 0 5 (w' := [_, _, _, _]) f_X12_22 ft_X12_10 dX12_rule_2 rfl rfl rfl rfl ?_
      refine q_aload_n 0 6 dX12_rule_5 rfl rfl rfl ?_
      refine q_iconst (-1) 7 dX12_rule_6 ic_m1 rfl ?_
      refine q_putI 0 10 (w' := [_, _, _, _]) f_X12_77 ft_X12_7 dX12_rule_7 rfl rfl rfl rfl ?_
      refine q_aload_n 0 11 dX12_rule_10 rfl rfl rfl ?_
      refine q_aload_n 0 12 dX12_rule_11 rfl rfl rfl ?_
      refine q_getI 0 15 f_X12_74 dX12_rule_12 rfl rfl rfl ?_
      refine q_putI 0 18 (w' := [_, _, _, _]) f_X12_83 ft_X12_8 dX12_rule_15 rfl rfl rfl rfl ?_
      refine q_aload_n 0 19 dX12_rule_18 rfl rfl rfl ?_
      refine q_iconst (-1) 20 dX12_rule_19 ic_m1 rfl ?_
      refine q_putI 0 23 (w' := [_, _, _, _]) f_X12_194 ft_X12_15 dX12_rule_20 rfl rfl rfl rfl ?_
      rw [hps]
      refine q_aload_n 0 24 dX12_rule_23 rfl rfl rfl ?_
      refine q_iconst 1 25 dX12_rule_24 ic_1 rfl ?_
      refine q_cVv 0 [0, 1, 2, 3] [] [0, 1, 2, 3] 28 (wr := []) (w1 := _) (ws' := [_, _, _, _]) hL2 m_X12_142 dX12_rule_25 rfl rfl rfl rfl rfl rfl rfl rfl (by decide) (by decide) (by decide) (by decide) (Nat.le_of_ble_eq_true rfl) (by omega) (by omega) (by omega) rfl ?_
      refine q_aload_n 0 29 dX12_rule_28 rfl rfl rfl ?_
      refine q_getI 0 32 f_X12_74 dX12_rule_29 rfl rfl rfl ?_
      refine q_istore_n 1 33 (L' := [_, _, _, _]) dX12_rule_32 rfl (by decide) rfl rfl ?_
      refine q_aload_n 0 34 dX12_rule_33 rfl rfl rfl ?_
      refine q_iconst 0 35 dX12_rule_34 ic_0 rfl ?_
      refine q_putI 0 38 (w' := [_, _, _, _]) f_X12_74 ft_X12_6 dX12_rule_35 rfl rfl rfl rfl ?_
      refine q_aload_n 0 39 dX12_rule_38 rfl rfl rfl ?_
      refine q_aload_n 0 40 dX12_rule_39 rfl rfl rfl ?_
      refine q_getI 0 43 f_X12_22 dX12_rule_40 rfl rfl rfl ?_
      refine q_iconst (-1) 44 dX12_rule_43 ic_m1 rfl ?_
      refine q_icmp_eq 51 47 dX12_rule_44 (by decide) rfl (fun h44 => ?_) (fun h44 => absurd rfl h44)
      refine q_aload_n 0 52 dX12_rule_51 rfl rfl rfl ?_
      refine q_getR 0 55 f_X12_7 dX12_rule_52 rfl rfl rfl rfl ?_
      refine q_sipush 193 58 dX12_rule_55 sc_193 rfl ?_
      refine q_iald 1 193 59 dX12_rule_58 rfl ⟨rfl, by omega, by decide⟩ rfl ?_
      refine q_bipush 6 61 dX12_rule_59 bc_6 rfl ?_
      refine q_icmp_ne 68 64 dX12_rule_61 (by decide) rfl (fun h61 => absurd h3 h61) (fun h61 => ?_)
      refine q_iconst 2 65 dX12_rule_64 ic_2 rfl ?_
      refine q_goto 69 dX12_rule_65 (by decide) ?_
      refine q_putI 0 72 (w' := [_, _, _, _]) f_X12_67 ft_X12_0 dX12_rule_69 rfl rfl rfl rfl ?_
      refine q_aload_n 0 73 dX12_rule_72 rfl rfl rfl ?_
      refine q_getI 0 76 f_X12_67 dX12_rule_73 rfl rfl rfl ?_
      refine q_if_le 81 79 dX12_rule_76 (by decide) rfl (fun h76 => absurd h76 (by show ¬ (2 : Int32) ≤ 0; decide)) (fun h76 => ?_)
      refine q_iconst 0 80 dX12_rule_79 ic_0 rfl ?_
      refine q_ireturn dX12_rule_80 rfl ?_
      exact pR.rf
    · rw [show ruT m (-1) = 0 from by unfold ruT; rw [if_pos rfl, if_neg h3], if_pos rfl, if_pos rfl]
      have hr5 : r ≤ 5 := by
        by_cases hz : r = 6
        · subst hz; exact absurd hr h3
        · omega
      have ht : (210 : Int32) + 401 * m 193 = nI (210 + 401 * r) := by
        rw [hr, ← nI_add, ← pk_mul]
        rfl
      generalize hr9 : 210 + 401 * r = t at *
      have K107 : ∀ (k j : Nat), k + j = e → WPs l g mtX12_rule 32 0 0 (pR (some (.int (nI r))) [(q, ob 12 (upd (upd (ps (onTape i) n1 (-1) 0 s1) 6 0) 0 0) (rM A)), (A 1, aI g 2616 (ruM m tp r e)), (A 5, aI g 400 tp), (A 12, aI g 5 fc)]) noX a 107 [some (.ref q), some (.int (nI e)), some (.int (nI t)), some (.int (nI j))] [] [(q, ob 12 (upd (upd (ps (onTape i) n1 (-1) 0 s1) 6 0) 0 0) (rM A)), (A 1, aI g 2616 (txP (upd m t (nI e)) tp t j)), (A 5, aI g 400 tp), (A 12, aI g 5 fc)] 0 0 := by
        intro k
        induction k with
        | zero =>
          intro j hj
          obtain rfl : j = e := by omega
          have h93 : txP (upd m t (nI j)) tp t j 193 = nI r := by
            simp only [txP, upd]
            rw [if_neg (by omega), if_neg (by omega)]
            exact hr
          have hfin : upd (txP (upd m t (nI j)) tp t j) 193 (txP (upd m t (nI j)) tp t j 193 + 1) = ruM m tp r j := by
            rw [h93, nI_1]
            unfold ruM
            rw [hr9]
          refine q_iload_n 3 108 dX12_rule_107 rfl rfl rfl ?_
          refine q_iload_n 1 109 dX12_rule_108 rfl rfl rfl ?_
          refine q_icmp_ge 134 112 dX12_rule_109 (by decide) rfl (fun h109 => ?_) (fun h109 => absurd (nI_le (Nat.le_refl _) (by omega)) h109)
          refine q_aload_n 0 135 dX12_rule_134 rfl rfl rfl ?_
          refine q_getR 0 138 f_X12_7 dX12_rule_135 rfl rfl rfl rfl ?_
          refine q_sipush 193 141 dX12_rule_138 sc_193 rfl ?_
          refine q_dup2 142 dX12_rule_141 rfl rfl rfl ?_
          refine q_iald 1 193 143 dX12_rule_142 rfl ⟨rfl, by omega, by decide⟩ rfl ?_
          refine q_iconst 1 144 dX12_rule_143 ic_1 rfl ?_
          refine q_iadd 145 dX12_rule_144 rfl ?_
          refine q_iast 1 193 146 (w' := [_, _, _, _]) dX12_rule_145 rfl ⟨rfl, by omega, by decide⟩ rfl rfl ?_
          rw [hfin]
          refine q_aload_n 0 147 dX12_rule_146 rfl rfl rfl ?_
          refine q_getR 0 150 f_X12_7 dX12_rule_147 rfl rfl rfl rfl ?_
          refine q_sipush 193 153 dX12_rule_150 sc_193 rfl ?_
          refine q_iald 1 193 154 dX12_rule_153 rfl ⟨rfl, by omega, by decide⟩ rfl ?_
          refine q_iconst 1 155 dX12_rule_154 ic_1 rfl ?_
          refine q_isub 156 dX12_rule_155 rfl ?_
          refine q_ireturn dX12_rule_156 rfl ?_
          exact pR.mk (by rw [show ruM m tp r j 193 = nI (r + 1) from pk_us, nI_pred]) rfl
        | succ k ih =>
          intro j hj
          refine q_iload_n 3 108 dX12_rule_107 rfl rfl rfl ?_
          refine q_iload_n 1 109 dX12_rule_108 rfl rfl rfl ?_
          refine q_icmp_ge 134 112 dX12_rule_109 (by decide) rfl (fun h109 => absurd h109 (nI_ge (by omega) (by omega))) (fun h109 => ?_)
          refine q_aload_n 0 113 dX12_rule_112 rfl rfl rfl ?_
          refine q_getR 0 116 f_X12_7 dX12_rule_113 rfl rfl rfl rfl ?_
          refine q_iload_n 2 117 dX12_rule_116 rfl rfl rfl ?_
          refine q_iconst 1 118 dX12_rule_117 ic_1 rfl ?_
          refine q_iadd 119 dX12_rule_118 rfl ?_
          refine q_iload_n 3 120 dX12_rule_119 rfl rfl rfl ?_
          refine q_iadd 121 dX12_rule_120 rfl ?_
          rw [nI_1, nI_add']
          refine q_aload_n 0 122 dX12_rule_121 rfl rfl rfl ?_
          refine q_getR 0 125 f_X12_19 dX12_rule_122 rfl rfl rfl rfl ?_
          refine q_iload_n 3 126 dX12_rule_125 rfl rfl rfl ?_
          refine q_iald 2 j 127 dX12_rule_126 rfl ⟨rfl, by omega, by decide⟩ rfl ?_
          refine q_iast 1 (t+1+j) 128 (w' := [_, _, _, _]) dX12_rule_127 rfl ⟨rfl, by omega, by decide⟩ rfl rfl ?_
          refine q_iinc 3 (nI (j + 1)) 131 (L' := [_, _, _, _]) dX12_rule_128 rfl (inc1 (j)) (by decide) rfl rfl ?_
          refine q_goto 107 dX12_rule_131 (by decide) ?_
          rw [txP_s]; exact ih (j + 1) (by omega)
      have K0 := K107 e 0 rfl
      rw [txP_0] at K0
      refine q_aload_n 0 1 dX12_rule_0 rfl rfl rfl ?_
      refine q_iconst (-1) 2 dX12_rule_1 ic_m1 rfl ?_
      refine q_putI 0 5 (w' := [_, _, _, _]) f_X12_22 ft_X12_10 dX12_rule_2 rfl rfl rfl rfl ?_
      refine q_aload_n 0 6 dX12_rule_5 rfl rfl rfl ?_
      refine q_iconst (-1) 7 dX12_rule_6 ic_m1 rfl ?_
      refine q_putI 0 10 (w' := [_, _, _, _]) f_X12_77 ft_X12_7 dX12_rule_7 rfl rfl rfl rfl ?_
      refine q_aload_n 0 11 dX12_rule_10 rfl rfl rfl ?_
      refine q_aload_n 0 12 dX12_rule_11 rfl rfl rfl ?_
      refine q_getI 0 15 f_X12_74 dX12_rule_12 rfl rfl rfl ?_
      refine q_putI 0 18 (w' := [_, _, _, _]) f_X12_83 ft_X12_8 dX12_rule_15 rfl rfl rfl rfl ?_
      refine q_aload_n 0 19 dX12_rule_18 rfl rfl rfl ?_
      refine q_iconst (-1) 20 dX12_rule_19 ic_m1 rfl ?_
      refine q_putI 0 23 (w' := [_, _, _, _]) f_X12_194 ft_X12_15 dX12_rule_20 rfl rfl rfl rfl ?_
      rw [hps]
      refine q_aload_n 0 24 dX12_rule_23 rfl rfl rfl ?_
      refine q_iconst 1 25 dX12_rule_24 ic_1 rfl ?_
      refine q_cVv 0 [0, 1, 2, 3] [] [0, 1, 2, 3] 28 (wr := []) (w1 := _) (ws' := [_, _, _, _]) hL2 m_X12_142 dX12_rule_25 rfl rfl rfl rfl rfl rfl rfl rfl (by decide) (by decide) (by decide) (by decide) (Nat.le_of_ble_eq_true rfl) (by omega) (by omega) (by omega) rfl ?_
      refine q_aload_n 0 29 dX12_rule_28 rfl rfl rfl ?_
      refine q_getI 0 32 f_X12_74 dX12_rule_29 rfl rfl rfl ?_
      rw [show ps (onTape i) n1 (-1) 0 s1 6 = nI e from h6]
      refine q_istore_n 1 33 (L' := [_, _, _, _]) dX12_rule_32 rfl (by decide) rfl rfl ?_
      refine q_aload_n 0 34 dX12_rule_33 rfl rfl rfl ?_
      refine q_iconst 0 35 dX12_rule_34 ic_0 rfl ?_
      refine q_putI 0 38 (w' := [_, _, _, _]) f_X12_74 ft_X12_6 dX12_rule_35 rfl rfl rfl rfl ?_
      refine q_aload_n 0 39 dX12_rule_38 rfl rfl rfl ?_
      refine q_aload_n 0 40 dX12_rule_39 rfl rfl rfl ?_
      refine q_getI 0 43 f_X12_22 dX12_rule_40 rfl rfl rfl ?_
      refine q_iconst (-1) 44 dX12_rule_43 ic_m1 rfl ?_
      refine q_icmp_eq 51 47 dX12_rule_44 (by decide) rfl (fun h44 => ?_) (fun h44 => absurd rfl h44)
      refine q_aload_n 0 52 dX12_rule_51 rfl rfl rfl ?_
      refine q_getR 0 55 f_X12_7 dX12_rule_52 rfl rfl rfl rfl ?_
      refine q_sipush 193 58 dX12_rule_55 sc_193 rfl ?_
      refine q_iald 1 193 59 dX12_rule_58 rfl ⟨rfl, by omega, by decide⟩ rfl ?_
      refine q_bipush 6 61 dX12_rule_59 bc_6 rfl ?_
      refine q_icmp_ne 68 64 dX12_rule_61 (by decide) rfl (fun h61 => ?_) (fun h61 => absurd h61 h3)
      refine q_iconst 0 69 dX12_rule_68 ic_0 rfl ?_
      refine q_putI 0 72 (w' := [_, _, _, _]) f_X12_67 ft_X12_0 dX12_rule_69 rfl rfl rfl rfl ?_
      refine q_aload_n 0 73 dX12_rule_72 rfl rfl rfl ?_
      refine q_getI 0 76 f_X12_67 dX12_rule_73 rfl rfl rfl ?_
      refine q_if_le 81 79 dX12_rule_76 (by decide) rfl (fun h76 => ?_) (fun h76 => absurd (by show (0 : Int32) ≤ 0; decide) h76)
      refine q_sipush 210 84 dX12_rule_81 sc_210 rfl ?_
      refine q_sipush 401 87 dX12_rule_84 sc_401 rfl ?_
      refine q_aload_n 0 88 dX12_rule_87 rfl rfl rfl ?_
      refine q_getR 0 91 f_X12_7 dX12_rule_88 rfl rfl rfl rfl ?_
      refine q_sipush 193 94 dX12_rule_91 sc_193 rfl ?_
      refine q_iald 1 193 95 dX12_rule_94 rfl ⟨rfl, by omega, by decide⟩ rfl ?_
      refine q_imul 96 dX12_rule_95 rfl ?_
      refine q_iadd 97 dX12_rule_96 rfl ?_
      rw [ht]
      refine q_istore_n 2 98 (L' := [_, _, _, _]) dX12_rule_97 rfl (by decide) rfl rfl ?_
      refine q_aload_n 0 99 dX12_rule_98 rfl rfl rfl ?_
      refine q_getR 0 102 f_X12_7 dX12_rule_99 rfl rfl rfl rfl ?_
      refine q_iload_n 2 103 dX12_rule_102 rfl rfl rfl ?_
      refine q_iload_n 1 104 dX12_rule_103 rfl rfl rfl ?_
      refine q_iast 1 t 105 (w' := [_, _, _, _]) dX12_rule_104 rfl ⟨rfl, by omega, by decide⟩ rfl rfl ?_
      refine q_iconst 0 106 dX12_rule_105 ic_0 rfl ?_
      refine q_istore_n 3 107 (L' := [_, _, _, _]) dX12_rule_106 rfl (by decide) rfl rfl ?_
      exact K0
  · rw [show ruT m f1 = 1 from if_neg hf, if_neg one_ne0, if_neg one_ne0]
    refine q_aload_n 0 1 dX12_rule_0 rfl rfl rfl ?_
    refine q_iconst (-1) 2 dX12_rule_1 ic_m1 rfl ?_
    refine q_putI 0 5 (w' := [_, _, _, _]) f_X12_22 ft_X12_10 dX12_rule_2 rfl rfl rfl rfl ?_
    refine q_aload_n 0 6 dX12_rule_5 rfl rfl rfl ?_
    refine q_iconst (-1) 7 dX12_rule_6 ic_m1 rfl ?_
    refine q_putI 0 10 (w' := [_, _, _, _]) f_X12_77 ft_X12_7 dX12_rule_7 rfl rfl rfl rfl ?_
    refine q_aload_n 0 11 dX12_rule_10 rfl rfl rfl ?_
    refine q_aload_n 0 12 dX12_rule_11 rfl rfl rfl ?_
    refine q_getI 0 15 f_X12_74 dX12_rule_12 rfl rfl rfl ?_
    refine q_putI 0 18 (w' := [_, _, _, _]) f_X12_83 ft_X12_8 dX12_rule_15 rfl rfl rfl rfl ?_
    refine q_aload_n 0 19 dX12_rule_18 rfl rfl rfl ?_
    refine q_iconst (-1) 20 dX12_rule_19 ic_m1 rfl ?_
    refine q_putI 0 23 (w' := [_, _, _, _]) f_X12_194 ft_X12_15 dX12_rule_20 rfl rfl rfl rfl ?_
    rw [hps]
    refine q_aload_n 0 24 dX12_rule_23 rfl rfl rfl ?_
    refine q_iconst 1 25 dX12_rule_24 ic_1 rfl ?_
    refine q_cVv 0 [0, 1, 2, 3] [] [0, 1, 2, 3] 28 (wr := []) (w1 := _) (ws' := [_, _, _, _]) hL2 m_X12_142 dX12_rule_25 rfl rfl rfl rfl rfl rfl rfl rfl (by decide) (by decide) (by decide) (by decide) (Nat.le_of_ble_eq_true rfl) (by omega) (by omega) (by omega) rfl ?_
    refine q_aload_n 0 29 dX12_rule_28 rfl rfl rfl ?_
    refine q_getI 0 32 f_X12_74 dX12_rule_29 rfl rfl rfl ?_
    refine q_istore_n 1 33 (L' := [_, _, _, _]) dX12_rule_32 rfl (by decide) rfl rfl ?_
    refine q_aload_n 0 34 dX12_rule_33 rfl rfl rfl ?_
    refine q_iconst 0 35 dX12_rule_34 ic_0 rfl ?_
    refine q_putI 0 38 (w' := [_, _, _, _]) f_X12_74 ft_X12_6 dX12_rule_35 rfl rfl rfl rfl ?_
    refine q_aload_n 0 39 dX12_rule_38 rfl rfl rfl ?_
    refine q_aload_n 0 40 dX12_rule_39 rfl rfl rfl ?_
    refine q_getI 0 43 f_X12_22 dX12_rule_40 rfl rfl rfl ?_
    refine q_iconst (-1) 44 dX12_rule_43 ic_m1 rfl ?_
    refine q_icmp_eq 51 47 dX12_rule_44 (by decide) rfl (fun h44 => absurd h44 hf) (fun h44 => ?_)
    refine q_iconst 1 48 dX12_rule_47 ic_1 rfl ?_
    refine q_goto 69 dX12_rule_48 (by decide) ?_
    refine q_putI 0 72 (w' := [_, _, _, _]) f_X12_67 ft_X12_0 dX12_rule_69 rfl rfl rfl rfl ?_
    refine q_aload_n 0 73 dX12_rule_72 rfl rfl rfl ?_
    refine q_getI 0 76 f_X12_67 dX12_rule_73 rfl rfl rfl ?_
    refine q_if_le 81 79 dX12_rule_76 (by decide) rfl (fun h76 => absurd h76 (by show ¬ (1 : Int32) ≤ 0; decide)) (fun h76 => ?_)
    refine q_iconst 0 80 dX12_rule_79 ic_0 rfl ?_
    refine q_ireturn dX12_rule_80 rfl ?_
    exact pR.rf

