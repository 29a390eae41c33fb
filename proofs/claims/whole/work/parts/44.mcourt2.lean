/-! ===== court ===== -/
def suC (M : Nat → Int32) (k : Nat) : Nat → Int32
  | 0 => 0
  | j + 1 => suC M k j + M (12 * k + j)
def coF (M : Nat → Int32) (v f : Int32) : Nat → Int32
  | 0 => f
  | k + 1 => if suC M k 12 = 100 then coF M v f k else wr (coF M v f k) v
def coL (tp m : Nat → Int32) (e : Nat) : RLn (Nat → Int32) := lnR (ctR tp e) tp e m
def coT (M : Nat → Int32) (f : Int32) : Int32 := if f = -1 then (if M 192 = 12 then 2 else 0) else 1
theorem i12k (k : Nat) : (0 : Int32) + 12 * nI k = nI (12 * k) := by
  rw [n12, pk_mul, show (0 : Int32) = nI 0 from rfl, nI_add, Nat.zero_add]
theorem p_court {l : Launch} {g : Gh} {q : Nat} {A : Nat → Nat} {i m tp bf : Nat → Int32} {e : Nat} {R : RLn (Nat → Int32)} {f th : Int32} (h6 : i 6 = nI e) (he : e ≤ 400) (hR : coL tp m e = R) (hF : coF R.2.2 (nI e) R.2.1 16 = f) (hth : coT R.2.2 f = th) : Cp l g yX12_court (Cond.code yX12_court cX12_court 4 (some .int)) 8 [.ref q] [(q, ob 12 i (rM A)), (A 1, aI g 2616 m), (A 4, aI g 201 bf), (A 5, aI g 400 tp)] (some (.int (if th = 0 then R.2.2 192 + 1 else 0))) [(q, ob 12 (upd (upd (ps (onTape i) R.1 f 0 (i 15)) 6 0) 0 th) (rM A)), (A 1, aI g 2616 (if th = 0 then upd R.2.2 192 (R.2.2 192 + 1) else cp R.2.2 (cp bf m 201) 201)), (A 4, aI g 201 (cp bf m 201)), (A 5, aI g 400 tp)] := by
  refine ct_of (M := mtX12_court) [some (.ref q), none, none, none] rfl (by decide) (Nat.le_of_ble_eq_true rfl) (fun _ h => h) (fun a => ?_)
  have hT : ∀ m, TxOK (onTape i 7) (onTape i 8) m tp tp e := fun m => ⟨h6, he, Or.inl ⟨rfl, fun _ _ => rfl⟩⟩
  obtain ⟨n0, h9⟩ := ex_nI (i 9)
  have hL2 := p_lines0 (l := l) (g := g) (q := q) (A := A) (i := onTape i) (m := m) (tp := tp) (T := tp) (e := e) (b := 0) (s := i 15) (line := ctR tp e) hT (by omega) (fun n m hn => ctR_ok hn) (fun n m hn => p_courtLine (hT m) hn) n0 (i 11)
  rw [show lnR (ctR tp e) tp e m = coL tp m e from rfl, hR] at hL2
  clear hR
  have hps : upd (upd (upd i 10 (-1)) 7 (-1)) 8 (upd (upd i 10 (-1)) 7 (-1) 6) = ps (onTape i) n0 (-1) (i 11) (i 15) := by
    funext k
    simp only [ps, upd, onTape]
    by_cases h1 : k = 15
    · subst h1; simp
    · by_cases h2 : k = 11
      · subst h2; simp
      · by_cases h3 : k = 10
        · subst h3; simp
        · by_cases h4 : k = 9
          · subst h4; simp [h9]
          · by_cases h5 : k = 8
            · subst h5; simp
            · by_cases h6 : k = 7
              · subst h6; simp
              · simp [h1, h2, h3, h4, h5, h6]
  obtain ⟨n1, f1, M⟩ := R
  dsimp only at hL2 hF hth ⊢
  generalize hb : cp bf m 201 = B at *
  have K158 : ∀ (c j : Nat) (z2 z3 : Option Value), c + j = 201 → WPs l g mtX12_court 8 0 0 (pR (some (.int 0)) [(q, ob 12 (upd (upd (ps (onTape i) n1 f 0 (i 15)) 6 0) 0 th) (rM A)), (A 1, aI g 2616 (cp M B 201)), (A 4, aI g 201 B), (A 5, aI g 400 tp)]) noX a 158 [some (.ref q), some (.int (nI j)), z2, z3] [] [(q, ob 12 (upd (upd (ps (onTape i) n1 f 0 (i 15)) 6 0) 0 th) (rM A)), (A 1, aI g 2616 (cp M B j)), (A 4, aI g 201 B), (A 5, aI g 400 tp)] 0 0 := by
    intro c
    induction c with
    | zero =>
      intro j z2 z3 hj
      obtain rfl : j = 201 := by omega
      refine q_iload_n 1 159 dX12_court_158 rfl rfl rfl ?_
      refine q_sipush 201 162 dX12_court_159 sc_201 rfl ?_
      refine q_icmp_ge 183 165 dX12_court_162 (by decide) rfl (fun h162 => ?_) (fun h162 => absurd (by decide) h162)
      refine q_iconst 0 184 dX12_court_183 ic_0 rfl ?_
      refine q_ireturn dX12_court_184 rfl ?_
      exact pR.rf
    | succ c ih =>
      intro j z2 z3 hj
      refine q_iload_n 1 159 dX12_court_158 rfl rfl rfl ?_
      refine q_sipush 201 162 dX12_court_159 sc_201 rfl ?_
      refine q_icmp_ge 183 165 dX12_court_162 (by decide) rfl (fun h162 => absurd h162 (nI_ge (a := j) (b := 201) (by omega) (by omega))) (fun h162 => ?_)
      refine q_aload_n 0 166 dX12_court_165 rfl rfl rfl ?_
      refine q_getR 0 169 f_X12_7 dX12_court_166 rfl rfl rfl rfl ?_
      refine q_iload_n 1 170 dX12_court_169 rfl rfl rfl ?_
      refine q_aload_n 0 171 dX12_court_170 rfl rfl rfl ?_
      refine q_getR 0 174 f_X12_16 dX12_court_171 rfl rfl rfl rfl ?_
      refine q_iload_n 1 175 dX12_court_174 rfl rfl rfl ?_
      refine q_iald 2 j 176 dX12_court_175 rfl ⟨rfl, by omega, by decide⟩ rfl ?_
      refine q_iast 1 j 177 (w' := [_, _, _, _]) dX12_court_176 rfl ⟨rfl, by omega, by decide⟩ rfl rfl ?_
      refine q_iinc 1 (nI (j + 1)) 180 (L' := [_, _, _, _]) dX12_court_177 rfl (inc1 (j)) (by decide) rfl rfl ?_
      refine q_goto 158 dX12_court_180 (by decide) ?_
      rw [cp_s]; exact ih (j + 1) _ _ (by omega)
  have K110 : ∀ (z1 z2 z3 : Option Value), WPs l g mtX12_court 8 0 0 (pR (some (.int (if th = 0 then M 192 + 1 else 0))) [(q, ob 12 (upd (upd (ps (onTape i) n1 f 0 (i 15)) 6 0) 0 th) (rM A)), (A 1, aI g 2616 (if th = 0 then upd M 192 (M 192 + 1) else cp M B 201)), (A 4, aI g 201 B), (A 5, aI g 400 tp)]) noX a 110 [some (.ref q), z1, z2, z3] [] [(q, ob 12 (ps (onTape i) n1 f 0 (i 15)) (rM A)), (A 1, aI g 2616 M), (A 4, aI g 201 B), (A 5, aI g 400 tp)] 0 0 := by
    intro z1 z2 z3
    have K8 := fun z2 z3 => K158 201 0 z2 z3 rfl
    rw [cp_0] at K8
    by_cases hf : f = -1
    · by_cases h3 : M 192 = 12
      · have e2 : th = 2 := by rw [← hth]; unfold coT; rw [if_pos hf, if_pos h3]
        subst e2
        rw [if_neg (by decide), if_neg (by decide)]
        refine q_aload_n 0 111 dX12_court_110 rfl rfl rfl ?_
        refine q_iconst 0 112 dX12_court_111 ic_0 rfl ?_
        refine q_putI 0 115 (w' := [_, _, _, _]) f_X12_74 ft_X12_6 dX12_court_112 rfl rfl rfl rfl ?_
        refine q_aload_n 0 116 dX12_court_115 rfl rfl rfl ?_
        refine q_aload_n 0 117 dX12_court_116 rfl rfl rfl ?_
        refine q_getI 0 120 f_X12_22 dX12_court_117 rfl rfl rfl ?_
        refine q_iconst (-1) 121 dX12_court_120 ic_m1 rfl ?_
        refine q_icmp_eq 128 124 dX12_court_121 (by decide) rfl (fun h121 => ?_) (fun h121 => absurd hf h121)
        refine q_aload_n 0 129 dX12_court_128 rfl rfl rfl ?_
        refine q_getR 0 132 f_X12_7 dX12_court_129 rfl rfl rfl rfl ?_
        refine q_sipush 192 135 dX12_court_132 sc_192 rfl ?_
        refine q_iald 1 192 136 dX12_court_135 rfl ⟨rfl, by omega, by decide⟩ rfl ?_
        refine q_bipush 12 138 dX12_court_136 bc_12 rfl ?_
        refine q_icmp_ne 145 141 dX12_court_138 (by decide) rfl (fun h138 => absurd h3 h138) (fun h138 => ?_)
        refine q_iconst 2 142 dX12_court_141 ic_2 rfl ?_
        refine q_goto 146 dX12_court_142 (by decide) ?_
        refine q_putI 0 149 (w' := [_, _, _, _]) f_X12_67 ft_X12_0 dX12_court_146 rfl rfl rfl rfl ?_
        refine q_aload_n 0 150 dX12_court_149 rfl rfl rfl ?_
        refine q_getI 0 153 f_X12_67 dX12_court_150 rfl rfl rfl ?_
        refine q_if_le 185 156 dX12_court_153 (by decide) rfl (fun h153 => absurd h153 (by show ¬ (2 : Int32) ≤ 0; decide)) (fun h153 => ?_)
        refine q_iconst 0 157 dX12_court_156 ic_0 rfl ?_
        refine q_istore_n 1 158 (L' := [_, _, _, _]) dX12_court_157 rfl (by decide) rfl rfl ?_
        exact K8 _ _
      · have e2 : th = 0 := by rw [← hth]; unfold coT; rw [if_pos hf, if_neg h3]
        subst e2
        rw [if_pos rfl, if_pos rfl]
        refine q_aload_n 0 111 dX12_court_110 rfl rfl rfl ?_
        refine q_iconst 0 112 dX12_court_111 ic_0 rfl ?_
        refine q_putI 0 115 (w' := [_, _, _, _]) f_X12_74 ft_X12_6 dX12_court_112 rfl rfl rfl rfl ?_
        refine q_aload_n 0 116 dX12_court_115 rfl rfl rfl ?_
        refine q_aload_n 0 117 dX12_court_116 rfl rfl rfl ?_
        refine q_getI 0 120 f_X12_22 dX12_court_117 rfl rfl rfl ?_
        refine q_iconst (-1) 121 dX12_court_120 ic_m1 rfl ?_
        refine q_icmp_eq 128 124 dX12_court_121 (by decide) rfl (fun h121 => ?_) (fun h121 => absurd hf h121)
        refine q_aload_n 0 129 dX12_court_128 rfl rfl rfl ?_
        refine q_getR 0 132 f_X12_7 dX12_court_129 rfl rfl rfl rfl ?_
        refine q_sipush 192 135 dX12_court_132 sc_192 rfl ?_
        refine q_iald 1 192 136 dX12_court_135 rfl ⟨rfl, by omega, by decide⟩ rfl ?_
        refine q_bipush 12 138 dX12_court_136 bc_12 rfl ?_
        refine q_icmp_ne 145 141 dX12_court_138 (by decide) rfl (fun h138 => ?_) (fun h138 => absurd h138 h3)
        refine q_iconst 0 146 dX12_court_145 ic_0 rfl ?_
        refine q_putI 0 149 (w' := [_, _, _, _]) f_X12_67 ft_X12_0 dX12_court_146 rfl rfl rfl rfl ?_
        refine q_aload_n 0 150 dX12_court_149 rfl rfl rfl ?_
        refine q_getI 0 153 f_X12_67 dX12_court_150 rfl rfl rfl ?_
        refine q_if_le 185 156 dX12_court_153 (by decide) rfl (fun h153 => ?_) (fun h153 => absurd (by show (0 : Int32) ≤ 0; decide) h153)
        refine q_aload_n 0 186 dX12_court_185 rfl rfl rfl ?_
        refine q_getR 0 189 f_X12_7 dX12_court_186 rfl rfl rfl rfl ?_
        refine q_sipush 192 192 dX12_court_189 sc_192 rfl ?_
        refine q_dup2 193 dX12_court_192 rfl rfl rfl ?_
        refine q_iald 1 192 194 dX12_court_193 rfl ⟨rfl, by omega, by decide⟩ rfl ?_
        refine q_iconst 1 195 dX12_court_194 ic_1 rfl ?_
        refine q_iadd 196 dX12_court_195 rfl ?_
        refine q_iast 1 192 197 (w' := [_, _, _, _]) dX12_court_196 rfl ⟨rfl, by omega, by decide⟩ rfl rfl ?_
        refine q_aload_n 0 198 dX12_court_197 rfl rfl rfl ?_
        refine q_getR 0 201 f_X12_7 dX12_court_198 rfl rfl rfl rfl ?_
        refine q_sipush 192 204 dX12_court_201 sc_192 rfl ?_
        refine q_iald 1 192 205 dX12_court_204 rfl ⟨rfl, by omega, by decide⟩ rfl ?_
        refine q_ireturn dX12_court_205 rfl ?_
        exact pR.mk (by rw [pk_us]) rfl
    · have e2 : th = 1 := by rw [← hth]; unfold coT; rw [if_neg hf]
      subst e2
      rw [if_neg one_ne0, if_neg one_ne0]
      refine q_aload_n 0 111 dX12_court_110 rfl rfl rfl ?_
      refine q_iconst 0 112 dX12_court_111 ic_0 rfl ?_
      refine q_putI 0 115 (w' := [_, _, _, _]) f_X12_74 ft_X12_6 dX12_court_112 rfl rfl rfl rfl ?_
      refine q_aload_n 0 116 dX12_court_115 rfl rfl rfl ?_
      refine q_aload_n 0 117 dX12_court_116 rfl rfl rfl ?_
      refine q_getI 0 120 f_X12_22 dX12_court_117 rfl rfl rfl ?_
      refine q_iconst (-1) 121 dX12_court_120 ic_m1 rfl ?_
      refine q_icmp_eq 128 124 dX12_court_121 (by decide) rfl (fun h121 => absurd h121 hf) (fun h121 => ?_)
      refine q_iconst 1 125 dX12_court_124 ic_1 rfl ?_
      refine q_goto 146 dX12_court_125 (by decide) ?_
      refine q_putI 0 149 (w' := [_, _, _, _]) f_X12_67 ft_X12_0 dX12_court_146 rfl rfl rfl rfl ?_
      refine q_aload_n 0 150 dX12_court_149 rfl rfl rfl ?_
      refine q_getI 0 153 f_X12_67 dX12_court_150 rfl rfl rfl ?_
      refine q_if_le 185 156 dX12_court_153 (by decide) rfl (fun h153 => absurd h153 (by show ¬ (1 : Int32) ≤ 0; decide)) (fun h153 => ?_)
      refine q_iconst 0 157 dX12_court_156 ic_0 rfl ?_
      refine q_istore_n 1 158 (L' := [_, _, _, _]) dX12_court_157 rfl (by decide) rfl rfl ?_
      exact K8 _ _
  have K52 : ∀ (c k : Nat) (z2 z3 : Option Value), c + k = 16 → WPs l g mtX12_court 8 0 0 (pR (some (.int (if th = 0 then M 192 + 1 else 0))) [(q, ob 12 (upd (upd (ps (onTape i) n1 f 0 (i 15)) 6 0) 0 th) (rM A)), (A 1, aI g 2616 (if th = 0 then upd M 192 (M 192 + 1) else cp M B 201)), (A 4, aI g 201 B), (A 5, aI g 400 tp)]) noX a 52 [some (.ref q), some (.int (nI k)), z2, z3] [] [(q, ob 12 (ps (onTape i) n1 (coF M (nI e) f1 k) 0 (i 15)) (rM A)), (A 1, aI g 2616 M), (A 4, aI g 201 B), (A 5, aI g 400 tp)] 0 0 := by
    intro c
    induction c with
    | zero =>
      intro k z2 z3 hk
      obtain rfl : k = 16 := by omega
      rw [hF]
      refine q_iload_n 1 53 dX12_court_52 rfl rfl rfl ?_
      refine q_bipush 16 55 dX12_court_53 bc_16 rfl ?_
      refine q_icmp_ge 110 58 dX12_court_55 (by decide) rfl (fun h55 => ?_) (fun h55 => absurd (by decide) h55)
      exact K110 _ _ _
    | succ c ih =>
      intro k z2 z3 hk
      have K62 : ∀ (c j : Nat), c + j = 12 → WPs l g mtX12_court 8 0 0 (pR (some (.int (if th = 0 then M 192 + 1 else 0))) [(q, ob 12 (upd (upd (ps (onTape i) n1 f 0 (i 15)) 6 0) 0 th) (rM A)), (A 1, aI g 2616 (if th = 0 then upd M 192 (M 192 + 1) else cp M B 201)), (A 4, aI g 201 B), (A 5, aI g 400 tp)]) noX a 62 [some (.ref q), some (.int (nI k)), some (.int (suC M k j)), some (.int (nI j))] [] [(q, ob 12 (ps (onTape i) n1 (coF M (nI e) f1 k) 0 (i 15)) (rM A)), (A 1, aI g 2616 M), (A 4, aI g 201 B), (A 5, aI g 400 tp)] 0 0 := by
        intro c
        induction c with
        | zero =>
          intro j hj
          obtain rfl : j = 12 := by omega
          by_cases h1 : suC M k 12 = 100
          · have e1 : coF M (nI e) f1 (k + 1) = coF M (nI e) f1 k := if_pos h1
            refine q_iload_n 3 63 dX12_court_62 rfl rfl rfl ?_
            refine q_bipush 12 65 dX12_court_63 bc_12 rfl ?_
            refine q_icmp_ge 90 68 dX12_court_65 (by decide) rfl (fun h65 => ?_) (fun h65 => absurd (by decide) h65)
            refine q_iload_n 2 91 dX12_court_90 rfl rfl rfl ?_
            refine q_bipush 100 93 dX12_court_91 bc_100 rfl ?_
            refine q_icmp_eq 104 96 dX12_court_93 (by decide) rfl (fun h93 => ?_) (fun h93 => absurd h1 h93)
            refine q_iinc 1 (nI (k + 1)) 107 (L' := [_, _, _, _]) dX12_court_104 rfl (inc1 (k)) (by decide) rfl rfl ?_
            refine q_goto 52 dX12_court_107 (by decide) ?_
            rw [← e1]; exact ih (k + 1) _ _ (by omega)
          · have e1 : coF M (nI e) f1 (k + 1) = wr (coF M (nI e) f1 k) (nI e) := if_neg h1
            refine q_iload_n 3 63 dX12_court_62 rfl rfl rfl ?_
            refine q_bipush 12 65 dX12_court_63 bc_12 rfl ?_
            refine q_icmp_ge 90 68 dX12_court_65 (by decide) rfl (fun h65 => ?_) (fun h65 => absurd (by decide) h65)
            refine q_iload_n 2 91 dX12_court_90 rfl rfl rfl ?_
            refine q_bipush 100 93 dX12_court_91 bc_100 rfl ?_
            refine q_icmp_eq 104 96 dX12_court_93 (by decide) rfl (fun h93 => absurd h93 h1) (fun h93 => ?_)
            refine q_aload_n 0 97 dX12_court_96 rfl rfl rfl ?_
            refine q_aload_n 0 98 dX12_court_97 rfl rfl rfl ?_
            refine q_getI 0 101 f_X12_83 dX12_court_98 rfl rfl rfl ?_
            rw [show ps (onTape i) n1 (coF M (nI e) f1 k) 0 (i 15) 8 = nI e from h6]
            refine q_cVv 0 [0] [1, 2, 3] [3, 0, 1, 2] 104 (wr := [_, _, _]) (w1 := _) (ws' := [_, _, _, _]) p_wrong m_X12_103 dX12_court_101 rfl rfl rfl rfl rfl rfl rfl rfl (by decide) (by decide) (by decide) (by decide) (Nat.le_of_ble_eq_true rfl) (by omega) (by omega) (by omega) rfl ?_
            refine q_iinc 1 (nI (k + 1)) 107 (L' := [_, _, _, _]) dX12_court_104 rfl (inc1 (k)) (by decide) rfl rfl ?_
            refine q_goto 52 dX12_court_107 (by decide) ?_
            rw [← e1]; exact ih (k + 1) _ _ (by omega)
        | succ c ih2 =>
          intro j hj
          refine q_iload_n 3 63 dX12_court_62 rfl rfl rfl ?_
          refine q_bipush 12 65 dX12_court_63 bc_12 rfl ?_
          refine q_icmp_ge 90 68 dX12_court_65 (by decide) rfl (fun h65 => absurd h65 (nI_ge (a := j) (b := 12) (by omega) (by omega))) (fun h65 => ?_)
          refine q_iload_n 2 69 dX12_court_68 rfl rfl rfl ?_
          refine q_aload_n 0 70 dX12_court_69 rfl rfl rfl ?_
          refine q_getR 0 73 f_X12_7 dX12_court_70 rfl rfl rfl rfl ?_
          refine q_iconst 0 74 dX12_court_73 ic_0 rfl ?_
          refine q_bipush 12 76 dX12_court_74 bc_12 rfl ?_
          refine q_iload_n 1 77 dX12_court_76 rfl rfl rfl ?_
          refine q_imul 78 dX12_court_77 rfl ?_
          refine q_iadd 79 dX12_court_78 rfl ?_
          rw [i12k]
          refine q_iload_n 3 80 dX12_court_79 rfl rfl rfl ?_
          refine q_iadd 81 dX12_court_80 rfl ?_
          rw [nI_add']
          refine q_iald 1 (12*k+j) 82 dX12_court_81 rfl ⟨rfl, by omega, by decide⟩ rfl ?_
          refine q_iadd 83 dX12_court_82 rfl ?_
          refine q_istore_n 2 84 (L' := [_, _, _, _]) dX12_court_83 rfl (by decide) rfl rfl ?_
          refine q_iinc 3 (nI (j + 1)) 87 (L' := [_, _, _, _]) dX12_court_84 rfl (inc1 (j)) (by decide) rfl rfl ?_
          refine q_goto 62 dX12_court_87 (by decide) ?_
          exact ih2 (j + 1) (by omega)
      have K0 := K62 12 0 rfl
      refine q_iload_n 1 53 dX12_court_52 rfl rfl rfl ?_
      refine q_bipush 16 55 dX12_court_53 bc_16 rfl ?_
      refine q_icmp_ge 110 58 dX12_court_55 (by decide) rfl (fun h55 => absurd h55 (nI_ge (a := k) (b := 16) (by omega) (by omega))) (fun h55 => ?_)
      refine q_iconst 0 59 dX12_court_58 ic_0 rfl ?_
      refine q_istore_n 2 60 (L' := [_, _, _, _]) dX12_court_59 rfl (by decide) rfl rfl ?_
      refine q_iconst 0 61 dX12_court_60 ic_0 rfl ?_
      refine q_istore_n 3 62 (L' := [_, _, _, _]) dX12_court_61 rfl (by decide) rfl rfl ?_
      exact K0
  have K0 := fun z2 z3 => K52 16 0 z2 z3 rfl
  have K2 : ∀ (c j : Nat), c + j = 201 → WPs l g mtX12_court 8 0 0 (pR (some (.int (if th = 0 then M 192 + 1 else 0))) [(q, ob 12 (upd (upd (ps (onTape i) n1 f 0 (i 15)) 6 0) 0 th) (rM A)), (A 1, aI g 2616 (if th = 0 then upd M 192 (M 192 + 1) else cp M B 201)), (A 4, aI g 201 B), (A 5, aI g 400 tp)]) noX a 2 [some (.ref q), some (.int (nI j)), none, none] [] [(q, ob 12 i (rM A)), (A 1, aI g 2616 m), (A 4, aI g 201 (cp bf m j)), (A 5, aI g 400 tp)] 0 0 := by
    intro c
    induction c with
    | zero =>
      intro j hj
      obtain rfl : j = 201 := by omega
      rw [hb]
      refine q_iload_n 1 3 dX12_court_2 rfl rfl rfl ?_
      refine q_sipush 201 6 dX12_court_3 sc_201 rfl ?_
      refine q_icmp_ge 27 9 dX12_court_6 (by decide) rfl (fun h6 => ?_) (fun h6 => absurd (by decide) h6)
      refine q_aload_n 0 28 dX12_court_27 rfl rfl rfl ?_
      refine q_iconst (-1) 29 dX12_court_28 ic_m1 rfl ?_
      refine q_putI 0 32 (w' := [_, _, _, _]) f_X12_22 ft_X12_10 dX12_court_29 rfl rfl rfl rfl ?_
      refine q_aload_n 0 33 dX12_court_32 rfl rfl rfl ?_
      refine q_iconst (-1) 34 dX12_court_33 ic_m1 rfl ?_
      refine q_putI 0 37 (w' := [_, _, _, _]) f_X12_77 ft_X12_7 dX12_court_34 rfl rfl rfl rfl ?_
      refine q_aload_n 0 38 dX12_court_37 rfl rfl rfl ?_
      refine q_aload_n 0 39 dX12_court_38 rfl rfl rfl ?_
      refine q_getI 0 42 f_X12_74 dX12_court_39 rfl rfl rfl ?_
      refine q_putI 0 45 (w' := [_, _, _, _]) f_X12_83 ft_X12_8 dX12_court_42 rfl rfl rfl rfl ?_
      rw [hps]
      refine q_aload_n 0 46 dX12_court_45 rfl rfl rfl ?_
      refine q_iconst 0 47 dX12_court_46 ic_0 rfl ?_
      refine q_cVv 0 [0, 1, 3] [2] [1, 2, 0, 3] 50 (wr := [_]) (w1 := _) (ws' := [_, _, _, _]) hL2 m_X12_142 dX12_court_47 rfl rfl rfl rfl rfl rfl rfl rfl (by decide) (by decide) (by decide) (by decide) (Nat.le_of_ble_eq_true rfl) (by omega) (by omega) (by omega) rfl ?_
      refine q_iconst 0 51 dX12_court_50 ic_0 rfl ?_
      refine q_istore_n 1 52 (L' := [_, _, _, _]) dX12_court_51 rfl (by decide) rfl rfl ?_
      exact K0 _ _
    | succ c ih =>
      intro j hj
      refine q_iload_n 1 3 dX12_court_2 rfl rfl rfl ?_
      refine q_sipush 201 6 dX12_court_3 sc_201 rfl ?_
      refine q_icmp_ge 27 9 dX12_court_6 (by decide) rfl (fun h6 => absurd h6 (nI_ge (a := j) (b := 201) (by omega) (by omega))) (fun h6 => ?_)
      refine q_aload_n 0 10 dX12_court_9 rfl rfl rfl ?_
      refine q_getR 0 13 f_X12_16 dX12_court_10 rfl rfl rfl rfl ?_
      refine q_iload_n 1 14 dX12_court_13 rfl rfl rfl ?_
      refine q_aload_n 0 15 dX12_court_14 rfl rfl rfl ?_
      refine q_getR 0 18 f_X12_7 dX12_court_15 rfl rfl rfl rfl ?_
      refine q_iload_n 1 19 dX12_court_18 rfl rfl rfl ?_
      refine q_iald 1 j 20 dX12_court_19 rfl ⟨rfl, by omega, by decide⟩ rfl ?_
      refine q_iast 2 j 21 (w' := [_, _, _, _]) dX12_court_20 rfl ⟨rfl, by omega, by decide⟩ rfl rfl ?_
      refine q_iinc 1 (nI (j + 1)) 24 (L' := [_, _, _, _]) dX12_court_21 rfl (inc1 (j)) (by decide) rfl rfl ?_
      refine q_goto 2 dX12_court_24 (by decide) ?_
      rw [cp_s]; exact ih (j + 1) (by omega)
  have K1 := K2 201 0 rfl
  rw [cp_0] at K1
  refine q_iconst 0 1 dX12_court_0 ic_0 rfl ?_
  refine q_istore_n 1 2 (L' := [_, _, _, _]) dX12_court_1 rfl (by decide) rfl rfl ?_
  exact K1

