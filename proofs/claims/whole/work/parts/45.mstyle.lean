/-! ===== styleOf ===== -/
def stX (fc x : Nat → Int32) (p : Nat) : Nat → Int32 := upd (upd (upd (upd (upd fc 0 (x p + 3)) 1 (x (1 - p) + 3)) 2 (if x 3 = 0 then 10 else x 4)) 3 (x 3)) 4 (x (7 + p))
def stS (x : Nat → Int32) (p : Nat) : Int32 := if x 2 = nI p then 1 else 0
def stO (x : Nat → Int32) : Int32 := if x 6 = 1 then 1 else 0
def stJ (i x : Nat → Int32) (p r e : Nat) : Nat → Int32 := upd (upd (upd (upd i 13 (stS x p)) 14 (stO x)) 7 (nI (211 + 401 * r))) 8 (nI e)
def stT (m : Nat → Int32) (r : Nat) : Nat → Int32 := fun k => m (211 + 401 * r + k)
def stR (m fc x : Nat → Int32) (p r e : Nat) : RLn Int32 := lnR (rlR (stT m r) (someG (atomG (stT m r) (stX fc x p) (stS x p) (stO x) e 6) (stT m r) e) e) (stT m r) e (-1)
theorem p_styleOf0 {l : Launch} {g : Gh} {q : Nat} {A : Nat → Nat} {i m tp fc x : Nat → Int32} {p : Nat} (hp : p ≤ 1) (hm : m (199 + p) = -1) : Cp l g yX12_styleOf (Cond.code yX12_styleOf cX12_styleOf 3 (some .int)) 32 [.ref q, .int (nI p)] [(q, ob 12 (i) (rM A)), (A 1, aI g 2616 m), (A 5, aI g 400 tp), (A 12, aI g 5 (fc)), (A 16, aI g 9 x)] (some (.int 0)) [(q, ob 12 (i) (rM A)), (A 1, aI g 2616 m), (A 5, aI g 400 tp), (A 12, aI g 5 (fc)), (A 16, aI g 9 x)] := by
  refine ct_of (M := mtX12_styleOf) [some (.ref q), some (.int (nI p)), none] rfl (by decide) (Nat.le_of_ble_eq_true rfl) (fun _ h => h) (fun a => ?_)
  refine q_aload_n 0 1 dX12_styleOf_0 rfl rfl rfl ?_
  refine q_getR 0 4 f_X12_7 dX12_styleOf_1 rfl rfl rfl rfl ?_
  refine q_sipush 199 7 dX12_styleOf_4 sc_199 rfl ?_
  refine q_iload_n 1 8 dX12_styleOf_7 rfl rfl rfl ?_
  refine q_iadd 9 dX12_styleOf_8 rfl ?_
  refine q_iald 1 (199+p) 10 dX12_styleOf_9 rfl ⟨nI_add 199 p, by omega, by decide⟩ rfl ?_
  refine q_iconst (-1) 11 dX12_styleOf_10 ic_m1 rfl ?_
  refine q_icmp_ne 16 14 dX12_styleOf_11 (by decide) rfl (fun h11 => absurd hm h11) (fun h11 => ?_)
  refine q_iconst 0 15 dX12_styleOf_14 ic_0 rfl ?_
  refine q_ireturn dX12_styleOf_15 rfl ?_
  exact pR.rf
theorem p_styleOf1 {l : Launch} {g : Gh} {q : Nat} {A : Nat → Nat} {i m tp fc x : Nat → Int32} {p r e : Nat} {R : RLn Int32} (hp : p ≤ 1) (hr : r < 6) (he : e ≤ 400) (hm : m (199 + p) = nI r) (hme : m (210 + 401 * r) = nI e) (hR : stR m fc x p r e = R) : Cp l g yX12_styleOf (Cond.code yX12_styleOf cX12_styleOf 3 (some .int)) 32 [.ref q, .int (nI p)] [(q, ob 12 (i) (rM A)), (A 1, aI g 2616 m), (A 5, aI g 400 tp), (A 12, aI g 5 (fc)), (A 16, aI g 9 x)] (some (.int (if R.2.2 = -1 then 0 else R.2.2))) [(q, ob 12 (ps (stJ i x p r e) R.1 (i 10) 0 R.2.2) (rM A)), (A 1, aI g 2616 m), (A 5, aI g 400 tp), (A 12, aI g 5 (stX fc x p)), (A 16, aI g 9 x)] := by
  refine ct_of (M := mtX12_styleOf) [some (.ref q), some (.int (nI p)), none] rfl (by decide) (Nat.le_of_ble_eq_true rfl) (fun _ h => h) (fun a => ?_)
  have hT : TxOK (stJ i x p r e 7) (stJ i x p r e 8) m tp (stT m r) e := ⟨rfl, he, Or.inr ⟨211 + 401 * r, rfl, by omega, fun _ _ => rfl⟩⟩
  have hsv : stS x p = 0 ∨ stS x p = 1 := by unfold stS; exact if01 _
  have hof : stO x = 0 ∨ stO x = 1 := by unfold stO; exact if01 _
  obtain ⟨n0, h9⟩ := ex_nI (i 9)
  have hL2 := p_lines1 (l := l) (g := g) (q := q) (A := A) (i := stJ i x p r e) (m := m) (tp := tp) (fc := stX fc x p) (T := stT m r) (e := e) (b := 6) (line := rlR (stT m r) (someG (atomG (stT m r) (stX fc x p) (stS x p) (stO x) e 6) (stT m r) e) e) hT (by omega) (fun n s hn => rlR_ok he hsv hof hn) (fun n s hn => p_ruleLine hT hsv hof hn) n0 (i 11) (-1)
  rw [show lnR (rlR (stT m r) (someG (atomG (stT m r) (stX fc x p) (stS x p) (stO x) e 6) (stT m r) e) e) (stT m r) e (-1) = stR m fc x p r e from rfl, hR] at hL2
  clear hR
  have hps : upd (upd (upd (upd (upd (upd i 13 (stS x p)) 14 (stO x)) 10 (-1)) 7 (nI (211 + 401 * r))) 8 (nI e)) 15 (-1) = ps (stJ i x p r e) n0 (-1) (i 11) (-1) := by
    funext k
    simp only [ps, upd, stJ]
    by_cases h1 : k = 15
    · subst h1; simp
    · by_cases h2 : k = 11
      · subst h2; simp
      · by_cases h3 : k = 10
        · subst h3; simp
        · by_cases h4 : k = 9
          · subst h4; simp [h9]
          · simp [h1, h2, h3, h4]
  have hx1 : (1 : Int32) - nI p = nI (1 - p) := pk_sub hp
  have hbase : (210 : Int32) + 401 * m (199 + p) + 1 = nI (211 + 401 * r) := by
    rw [hm, show (401 : Int32) = nI 401 from by decide, show (210 : Int32) = nI 210 from by decide, pk_mul, nI_add, nI_1]
    congr 1
    omega
  obtain ⟨n1, f1, s1⟩ := R
  dsimp only at hL2 ⊢
  have K135 : WPs l g mtX12_styleOf 32 0 0 (pR (some (.int (if s1 = -1 then 0 else s1))) [(q, ob 12 (ps (stJ i x p r e) n1 (i 10) 0 s1) (rM A)), (A 1, aI g 2616 m), (A 5, aI g 400 tp), (A 12, aI g 5 (stX fc x p)), (A 16, aI g 9 x)]) noX a 135 [some (.ref q), some (.int (nI p)), none] [.int (stO x), .ref q] [(q, ob 12 (upd i 13 (stS x p)) (rM A)), (A 1, aI g 2616 m), (A 5, aI g 400 tp), (A 12, aI g 5 (stX fc x p)), (A 16, aI g 9 x)] 0 0 := by
    have hsub : nI (211 + 401 * r) - 1 = nI (210 + 401 * r) := by
      rw [show 211 + 401 * r = 210 + 401 * r + 1 from by omega, nI_pred]
    generalize hb : 210 + 401 * r = b0 at *
    refine q_putZ 0 138 (w' := [_, _, _, _, _]) f_X12_165 ft_X12_14 dX12_styleOf_135 rfl rfl hof rfl rfl ?_
    refine q_aload_n 0 139 dX12_styleOf_138 rfl rfl rfl ?_
    refine q_getI 0 142 f_X12_22 dX12_styleOf_139 rfl rfl rfl ?_
    refine q_istore_n 2 143 (L' := [_, _, _]) dX12_styleOf_142 rfl (by decide) rfl rfl ?_
    refine q_aload_n 0 144 dX12_styleOf_143 rfl rfl rfl ?_
    refine q_iconst (-1) 145 dX12_styleOf_144 ic_m1 rfl ?_
    refine q_putI 0 148 (w' := [_, _, _, _, _]) f_X12_22 ft_X12_10 dX12_styleOf_145 rfl rfl rfl rfl ?_
    refine q_aload_n 0 149 dX12_styleOf_148 rfl rfl rfl ?_
    refine q_sipush 210 152 dX12_styleOf_149 sc_210 rfl ?_
    refine q_sipush 401 155 dX12_styleOf_152 sc_401 rfl ?_
    refine q_aload_n 0 156 dX12_styleOf_155 rfl rfl rfl ?_
    refine q_getR 0 159 f_X12_7 dX12_styleOf_156 rfl rfl rfl rfl ?_
    refine q_sipush 199 162 dX12_styleOf_159 sc_199 rfl ?_
    refine q_iload_n 1 163 dX12_styleOf_162 rfl rfl rfl ?_
    refine q_iadd 164 dX12_styleOf_163 rfl ?_
    refine q_iald 1 (199+p) 165 dX12_styleOf_164 rfl ⟨nI_add 199 p, by omega, by decide⟩ rfl ?_
    refine q_imul 166 dX12_styleOf_165 rfl ?_
    refine q_iadd 167 dX12_styleOf_166 rfl ?_
    refine q_iconst 1 168 dX12_styleOf_167 ic_1 rfl ?_
    refine q_iadd 169 dX12_styleOf_168 rfl ?_
    rw [hbase]
    refine q_putI 0 172 (w' := [_, _, _, _, _]) f_X12_77 ft_X12_7 dX12_styleOf_169 rfl rfl rfl rfl ?_
    refine q_aload_n 0 173 dX12_styleOf_172 rfl rfl rfl ?_
    refine q_aload_n 0 174 dX12_styleOf_173 rfl rfl rfl ?_
    refine q_getR 0 177 f_X12_7 dX12_styleOf_174 rfl rfl rfl rfl ?_
    refine q_aload_n 0 178 dX12_styleOf_177 rfl rfl rfl ?_
    refine q_getI 0 181 f_X12_77 dX12_styleOf_178 rfl rfl rfl ?_
    refine q_iconst 1 182 dX12_styleOf_181 ic_1 rfl ?_
    refine q_isub 183 dX12_styleOf_182 rfl ?_
    refine q_iald 1 b0 184 dX12_styleOf_183 rfl ⟨hsub, by omega, by decide⟩ rfl ?_
    rw [hme]
    refine q_putI 0 187 (w' := [_, _, _, _, _]) f_X12_83 ft_X12_8 dX12_styleOf_184 rfl rfl rfl rfl ?_
    refine q_aload_n 0 188 dX12_styleOf_187 rfl rfl rfl ?_
    refine q_iconst (-1) 189 dX12_styleOf_188 ic_m1 rfl ?_
    refine q_putI 0 192 (w' := [_, _, _, _, _]) f_X12_194 ft_X12_15 dX12_styleOf_189 rfl rfl rfl rfl ?_
    rw [hps]
    refine q_aload_n 0 193 dX12_styleOf_192 rfl rfl rfl ?_
    refine q_iconst 1 194 dX12_styleOf_193 ic_1 rfl ?_
    refine q_cVv 0 [0, 1, 2, 3] [4] [1, 2, 3, 4, 0] 197 (wr := [_]) (w1 := _) (ws' := [_, _, _, _, _]) hL2 m_X12_142 dX12_styleOf_194 rfl rfl rfl rfl rfl rfl rfl rfl (by decide) (by decide) (by decide) (by decide) (Nat.le_of_ble_eq_true rfl) (by omega) (by omega) (by omega) rfl ?_
    refine q_aload_n 0 198 dX12_styleOf_197 rfl rfl rfl ?_
    refine q_iload_n 2 199 dX12_styleOf_198 rfl rfl rfl ?_
    refine q_putI 0 202 (w' := [_, _, _, _, _]) f_X12_22 ft_X12_10 dX12_styleOf_199 rfl rfl rfl rfl ?_
    rw [ps_10]
    refine q_aload_n 0 203 dX12_styleOf_202 rfl rfl rfl ?_
    refine q_getI 0 206 f_X12_194 dX12_styleOf_203 rfl rfl rfl ?_
    refine q_iconst (-1) 207 dX12_styleOf_206 ic_m1 rfl ?_
    refine q_icmp_ne 214 210 dX12_styleOf_207 (by decide) rfl (fun hz => ?_) (fun hz => ?_)
    · refine q_aload_n 0 215 dX12_styleOf_214 rfl rfl rfl ?_
      refine q_getI 0 218 f_X12_194 dX12_styleOf_215 rfl rfl rfl ?_
      refine q_ireturn dX12_styleOf_218 rfl ?_
      first
        | (rw [if_neg (show ¬ s1 = -1 from hz)]; exact pR.mk rfl rfl)
        | (rw [if_pos (show s1 = -1 from hz)]; exact pR.mk rfl rfl)
    · refine q_iconst 0 211 dX12_styleOf_210 ic_0 rfl ?_
      refine q_goto 218 dX12_styleOf_211 (by decide) ?_
      refine q_ireturn dX12_styleOf_218 rfl ?_
      first
        | (rw [if_neg (show ¬ s1 = -1 from hz)]; exact pR.mk rfl rfl)
        | (rw [if_pos (show s1 = -1 from hz)]; exact pR.mk rfl rfl)
  have K115 : WPs l g mtX12_styleOf 32 0 0 (pR (some (.int (if s1 = -1 then 0 else s1))) [(q, ob 12 (ps (stJ i x p r e) n1 (i 10) 0 s1) (rM A)), (A 1, aI g 2616 m), (A 5, aI g 400 tp), (A 12, aI g 5 (stX fc x p)), (A 16, aI g 9 x)]) noX a 115 [some (.ref q), some (.int (nI p)), none] [.int (stS x p), .ref q] [(q, ob 12 (i) (rM A)), (A 1, aI g 2616 m), (A 5, aI g 400 tp), (A 12, aI g 5 (stX fc x p)), (A 16, aI g 9 x)] 0 0 := by
    refine q_putZ 0 118 (w' := [_, _, _, _, _]) f_X12_159 ft_X12_13 dX12_styleOf_115 rfl rfl hsv rfl rfl ?_
    refine q_aload_n 0 119 dX12_styleOf_118 rfl rfl rfl ?_
    refine q_aload_n 0 120 dX12_styleOf_119 rfl rfl rfl ?_
    refine q_getR 0 123 f_X12_29 dX12_styleOf_120 rfl rfl rfl rfl ?_
    refine q_bipush 6 125 dX12_styleOf_123 bc_6 rfl ?_
    refine q_iald 4 6 126 dX12_styleOf_125 rfl ⟨rfl, by omega, by decide⟩ rfl ?_
    refine q_iconst 1 127 dX12_styleOf_126 ic_1 rfl ?_
    refine q_icmp_ne 134 130 dX12_styleOf_127 (by decide) rfl (fun hz => ?_) (fun hz => ?_)
    · refine q_iconst 0 135 dX12_styleOf_134 ic_0 rfl ?_
      first
        | (rw [show stO x = 0 from if_neg hz] at K135; exact K135)
        | (rw [show stO x = 1 from if_pos hz] at K135; exact K135)
    · refine q_iconst 1 131 dX12_styleOf_130 ic_1 rfl ?_
      refine q_goto 135 dX12_styleOf_131 (by decide) ?_
      first
        | (rw [show stO x = 0 from if_neg hz] at K135; exact K135)
        | (rw [show stO x = 1 from if_pos hz] at K135; exact K135)
  have K71 : WPs l g mtX12_styleOf 32 0 0 (pR (some (.int (if s1 = -1 then 0 else s1))) [(q, ob 12 (ps (stJ i x p r e) n1 (i 10) 0 s1) (rM A)), (A 1, aI g 2616 m), (A 5, aI g 400 tp), (A 12, aI g 5 (stX fc x p)), (A 16, aI g 9 x)]) noX a 71 [some (.ref q), some (.int (nI p)), none] [.int (if x 3 = 0 then 10 else x 4), .int 2, .ref (A 12)] [(q, ob 12 (i) (rM A)), (A 1, aI g 2616 m), (A 5, aI g 400 tp), (A 12, aI g 5 (upd (upd fc 0 (x p + 3)) 1 (x (1 - p) + 3))), (A 16, aI g 9 x)] 0 0 := by
    refine q_iast 3 2 72 (w' := [_, _, _, _, _]) dX12_styleOf_71 rfl ⟨rfl, by omega, by decide⟩ rfl rfl ?_
    refine q_aload_n 0 73 dX12_styleOf_72 rfl rfl rfl ?_
    refine q_getR 0 76 f_X12_26 dX12_styleOf_73 rfl rfl rfl rfl ?_
    refine q_iconst 3 77 dX12_styleOf_76 ic_3 rfl ?_
    refine q_aload_n 0 78 dX12_styleOf_77 rfl rfl rfl ?_
    refine q_getR 0 81 f_X12_29 dX12_styleOf_78 rfl rfl rfl rfl ?_
    refine q_iconst 3 82 dX12_styleOf_81 ic_3 rfl ?_
    refine q_iald 4 3 83 dX12_styleOf_82 rfl ⟨rfl, by omega, by decide⟩ rfl ?_
    refine q_iast 3 3 84 (w' := [_, _, _, _, _]) dX12_styleOf_83 rfl ⟨rfl, by omega, by decide⟩ rfl rfl ?_
    refine q_aload_n 0 85 dX12_styleOf_84 rfl rfl rfl ?_
    refine q_getR 0 88 f_X12_26 dX12_styleOf_85 rfl rfl rfl rfl ?_
    refine q_iconst 4 89 dX12_styleOf_88 ic_4 rfl ?_
    refine q_aload_n 0 90 dX12_styleOf_89 rfl rfl rfl ?_
    refine q_getR 0 93 f_X12_29 dX12_styleOf_90 rfl rfl rfl rfl ?_
    refine q_bipush 7 95 dX12_styleOf_93 bc_7 rfl ?_
    refine q_iload_n 1 96 dX12_styleOf_95 rfl rfl rfl ?_
    refine q_iadd 97 dX12_styleOf_96 rfl ?_
    refine q_iald 4 (7+p) 98 dX12_styleOf_97 rfl ⟨nI_add 7 p, by omega, by decide⟩ rfl ?_
    refine q_iast 3 4 99 (w' := [_, _, _, _, _]) dX12_styleOf_98 rfl ⟨rfl, by omega, by decide⟩ rfl rfl ?_
    refine q_aload_n 0 100 dX12_styleOf_99 rfl rfl rfl ?_
    refine q_aload_n 0 101 dX12_styleOf_100 rfl rfl rfl ?_
    refine q_getR 0 104 f_X12_29 dX12_styleOf_101 rfl rfl rfl rfl ?_
    refine q_iconst 2 105 dX12_styleOf_104 ic_2 rfl ?_
    refine q_iald 4 2 106 dX12_styleOf_105 rfl ⟨rfl, by omega, by decide⟩ rfl ?_
    refine q_iload_n 1 107 dX12_styleOf_106 rfl rfl rfl ?_
    refine q_icmp_ne 114 110 dX12_styleOf_107 (by decide) rfl (fun hz => ?_) (fun hz => ?_)
    · refine q_iconst 0 115 dX12_styleOf_114 ic_0 rfl ?_
      first
        | (rw [show stS x p = 0 from if_neg hz] at K115; exact K115)
        | (rw [show stS x p = 1 from if_pos hz] at K115; exact K115)
    · refine q_iconst 1 111 dX12_styleOf_110 ic_1 rfl ?_
      refine q_goto 115 dX12_styleOf_111 (by decide) ?_
      first
        | (rw [show stS x p = 0 from if_neg hz] at K115; exact K115)
        | (rw [show stS x p = 1 from if_pos hz] at K115; exact K115)
  refine q_aload_n 0 1 dX12_styleOf_0 rfl rfl rfl ?_
  refine q_getR 0 4 f_X12_7 dX12_styleOf_1 rfl rfl rfl rfl ?_
  refine q_sipush 199 7 dX12_styleOf_4 sc_199 rfl ?_
  refine q_iload_n 1 8 dX12_styleOf_7 rfl rfl rfl ?_
  refine q_iadd 9 dX12_styleOf_8 rfl ?_
  refine q_iald 1 (199+p) 10 dX12_styleOf_9 rfl ⟨nI_add 199 p, by omega, by decide⟩ rfl ?_
  refine q_iconst (-1) 11 dX12_styleOf_10 ic_m1 rfl ?_
  refine q_icmp_ne 16 14 dX12_styleOf_11 (by decide) rfl (fun h11 => ?_) (fun h11 => absurd h11 (by rw [hm]; exact nI_nm1 (by omega)))
  refine q_aload_n 0 17 dX12_styleOf_16 rfl rfl rfl ?_
  refine q_getR 0 20 f_X12_26 dX12_styleOf_17 rfl rfl rfl rfl ?_
  refine q_iconst 0 21 dX12_styleOf_20 ic_0 rfl ?_
  refine q_aload_n 0 22 dX12_styleOf_21 rfl rfl rfl ?_
  refine q_getR 0 25 f_X12_29 dX12_styleOf_22 rfl rfl rfl rfl ?_
  refine q_iload_n 1 26 dX12_styleOf_25 rfl rfl rfl ?_
  refine q_iald 4 p 27 dX12_styleOf_26 rfl ⟨rfl, by omega, by decide⟩ rfl ?_
  refine q_iconst 3 28 dX12_styleOf_27 ic_3 rfl ?_
  refine q_iadd 29 dX12_styleOf_28 rfl ?_
  refine q_iast 3 0 30 (w' := [_, _, _, _, _]) dX12_styleOf_29 rfl ⟨rfl, by omega, by decide⟩ rfl rfl ?_
  refine q_aload_n 0 31 dX12_styleOf_30 rfl rfl rfl ?_
  refine q_getR 0 34 f_X12_26 dX12_styleOf_31 rfl rfl rfl rfl ?_
  refine q_iconst 1 35 dX12_styleOf_34 ic_1 rfl ?_
  refine q_aload_n 0 36 dX12_styleOf_35 rfl rfl rfl ?_
  refine q_getR 0 39 f_X12_29 dX12_styleOf_36 rfl rfl rfl rfl ?_
  refine q_iconst 1 40 dX12_styleOf_39 ic_1 rfl ?_
  refine q_iload_n 1 41 dX12_styleOf_40 rfl rfl rfl ?_
  refine q_isub 42 dX12_styleOf_41 rfl ?_
  refine q_iald 4 (1-p) 43 dX12_styleOf_42 rfl ⟨hx1, by omega, by decide⟩ rfl ?_
  refine q_iconst 3 44 dX12_styleOf_43 ic_3 rfl ?_
  refine q_iadd 45 dX12_styleOf_44 rfl ?_
  refine q_iast 3 1 46 (w' := [_, _, _, _, _]) dX12_styleOf_45 rfl ⟨rfl, by omega, by decide⟩ rfl rfl ?_
  refine q_aload_n 0 47 dX12_styleOf_46 rfl rfl rfl ?_
  refine q_getR 0 50 f_X12_26 dX12_styleOf_47 rfl rfl rfl rfl ?_
  refine q_iconst 2 51 dX12_styleOf_50 ic_2 rfl ?_
  refine q_aload_n 0 52 dX12_styleOf_51 rfl rfl rfl ?_
  refine q_getR 0 55 f_X12_29 dX12_styleOf_52 rfl rfl rfl rfl ?_
  refine q_iconst 3 56 dX12_styleOf_55 ic_3 rfl ?_
  refine q_iald 4 3 57 dX12_styleOf_56 rfl ⟨rfl, by omega, by decide⟩ rfl ?_
  refine q_if_ne 65 60 dX12_styleOf_57 (by decide) rfl (fun hz => ?_) (fun hz => ?_)
  · refine q_aload_n 0 66 dX12_styleOf_65 rfl rfl rfl ?_
    refine q_getR 0 69 f_X12_29 dX12_styleOf_66 rfl rfl rfl rfl ?_
    refine q_iconst 4 70 dX12_styleOf_69 ic_4 rfl ?_
    refine q_iald 4 4 71 dX12_styleOf_70 rfl ⟨rfl, by omega, by decide⟩ rfl ?_
    first
      | (rw [if_neg hz] at K71; exact K71)
      | (rw [if_pos hz] at K71; exact K71)
  · refine q_bipush 10 62 dX12_styleOf_60 bc_10 rfl ?_
    refine q_goto 71 dX12_styleOf_62 (by decide) ?_
    first
      | (rw [if_neg hz] at K71; exact K71)
      | (rw [if_pos hz] at K71; exact K71)

