/-! ===== Scanner: scan, and the walk over things ===== -/
abbrev Tok : Type := Int32 × Nat × Int32
def dT (e : Nat) : Tok := (0, e, 0)
def tk1 (T : Sc) (e p : Nat) : Tok := (tkT T e p, p, nmV T p (de T e (p + 1)))
def tokL (T : Sc) (e : Nat) : Nat → Nat → List Tok
  | 0, _ => []
  | f + 1, p => if p < e then (if T p = 32 then tokL T e f (p + 1) else tk1 T e p :: tokL T e f (tkE T e p)) else []
/-- the text's things -/
def toks (T : Sc) (e : Nat) : List Tok := tokL T e 400 0
theorem tkE_in (T : Sc) {e p : Nat} (h : p < e) : p < tkE T e p ∧ tkE T e p ≤ e := by
  unfold tkE
  have h1 := we_ge T e (p + 1)
  have h2 := we_le T e (p + 1)
  have h3 := de_ge T e (p + 1)
  have h4 := de_le T e (p + 1)
  split
  · split
    · omega
    · omega
  · omega
def RepP (D : List Tok) (e : Nat) (th be nu : Sc) : Prop := ∀ k, k < D.length → th k = (D.getD k (dT e)).1 ∧ be k = nI (D.getD k (dT e)).2.1 ∧ ((D.getD k (dT e)).1 = 1 → nu k = (D.getD k (dT e)).2.2)
def RepT (L : List Tok) (e : Nat) (i th be nu : Sc) : Prop := i 5 = nI L.length ∧ L.length ≤ 400 ∧ e ≤ 400 ∧ RepP L e th be nu ∧ th L.length = 0 ∧ be L.length = nI e
theorem tget_lt {D : List Tok} {z y : Tok} {k : Nat} (h : k < D.length) : (D ++ [y]).getD k z = D.getD k z := by simp [List.getD, List.getElem?_append_left h]
theorem tget_eq {D : List Tok} {z y : Tok} : (D ++ [y]).getD D.length z = y := by simp [List.getD]
theorem if_ne {c : Prop} [Decidable c] {x y v : Int32} (h1 : ¬ x = v) (h2 : ¬ y = v) : ¬ (if c then x else y) = v := by
  by_cases h : c
  · rw [if_pos h]; exact h1
  · rw [if_neg h]; exact h2
theorem cwK_ne1 (T : Sc) (p e : Nat) : ¬ cwK T p e = 1 := if_ne (by decide) (if_ne (by decide) (if_ne (by decide) (if_ne (by decide) (if_ne (by decide) (if_ne (by decide) (if_ne (by decide) (by decide)))))))
theorem rwK_ne1 (T : Sc) (p e : Nat) : ¬ rwK T p e = 1 := if_ne (by decide) (if_ne (by decide) (if_ne (by decide) (if_ne (by decide) (if_ne (by decide) (if_ne (by decide) (if_ne (by decide) (if_ne (by decide) (if_ne (by decide) (if_ne (by decide) (if_ne (by decide) (by decide)))))))))))
theorem wdK_ne1 (T : Sc) (p e : Nat) : ¬ wdK T p e = 1 := if_ne (rwK_ne1 T p e) (cwK_ne1 T p e)
theorem sgn_ne1 (x : Int32) : ¬ 100 + (x &&& 255) = 1 := by
  rw [pk_and x (m := 255) 8 (by decide), show (100 : Int32) = nI 100 from by decide, nI_add]
  intro h
  have h2 : (x.toBitVec.toNat % 2 ^ 8) < 256 := Nat.mod_lt _ (by decide)
  have := (nI_eq (a := 100 + x.toBitVec.toNat % 2 ^ 8) (b := 1) (by omega) (by decide)).mp h
  omega
theorem RepP_push {D : List Tok} {e p : Nat} {th be nu Tc : Sc} (h : RepP D e th be nu) : RepP (D ++ [tk1 Tc e p]) e (upd th D.length (tkT Tc e p)) (upd be D.length (nI p)) (tkN Tc e p nu D.length) := by
  intro k hk
  rw [List.length_append, List.length_singleton] at hk
  by_cases hk2 : k = D.length
  · subst hk2
    rw [tget_eq, pk_us, pk_us]
    refine ⟨rfl, rfl, fun h1 => ?_⟩
    have h1 : tkT Tc e p = 1 := h1
    unfold tkT at h1
    unfold tkN
    by_cases hl : rIn (Tc p) 97 122 = 0
    · rw [if_pos hl] at h1 ⊢
      by_cases hd : rIn (Tc p) 48 57 = 0
      · rw [if_pos hd] at h1
        exact absurd h1 (sgn_ne1 _)
      · rw [if_neg hd, pk_us]
        rfl
    · rw [if_neg hl] at h1
      exact absurd h1 (wdK_ne1 _ _ _)
  · have hk3 : k < D.length := by omega
    obtain ⟨a1, a2, a3⟩ := h k hk3
    rw [tget_lt hk3, pk_un hk2, pk_un hk2]
    refine ⟨a1, a2, fun h1 => ?_⟩
    rw [← a3 h1]
    unfold tkN
    split
    · split
      · rfl
      · exact pk_un hk2
    · rfl
theorem c_X7_scan {l : Launch} {g : Gh} {q t b n x : Nat} {i th be nu Tc : Sc} {y : Option Nat} {e : Nat} (he : e ≤ 400) : Ce l g yX7_scan (Cond.code yX7_scan cX7_scan 5 none) 9 [.ref q, .ref x, .int (nI e)] [(q, ob 7 i [some t, some b, some n, y, none, none, none]), (t, aI g 401 th), (b, aI g 401 be), (n, aI g 401 nu), (x, aB g 400 Tc)] (fun _ : Sc × Sc × Sc × Sc => none) (fun z : Sc × Sc × Sc × Sc => [(q, ob 7 z.1 (rS t b n x)), (t, aI g 401 z.2.1), (b, aI g 401 z.2.2.1), (n, aI g 401 z.2.2.2), (x, aB g 400 Tc)]) (fun z : Sc × Sc × Sc × Sc => RepT (toks Tc e) e z.1 z.2.1 z.2.2.1 z.2.2.2 ∧ z.1 6 = 0) := by
  refine ct_of (M := mtX7_scan) [some (.ref q), some (.ref x), some (.int (nI e)), none, none] rfl (by decide) (Nat.le_of_ble_eq_true rfl) (fun _ h => h) (fun a => ?_)
  have K36 : ∀ (c j : Nat), c + j = 400 → ∀ (D : List Tok) (p : Nat) (i1 th1 be1 nu1 : Sc), j ≤ p → p ≤ e → D.length ≤ p → D ++ tokL Tc e c p = toks Tc e → RepP D e th1 be1 nu1 → i1 4 = nI e → i1 5 = nI D.length → i1 6 = 0 → WPs l g mtX7_scan 9 0 0 (pE (fun _ : Sc × Sc × Sc × Sc => none) (fun z : Sc × Sc × Sc × Sc => [(q, ob 7 z.1 (rS t b n x)), (t, aI g 401 z.2.1), (b, aI g 401 z.2.2.1), (n, aI g 401 z.2.2.2), (x, aB g 400 Tc)]) (fun z : Sc × Sc × Sc × Sc => RepT (toks Tc e) e z.1 z.2.1 z.2.2.1 z.2.2.2 ∧ z.1 6 = 0)) noX a 36 [some (.ref q), some (.ref x), some (.int (nI e)), some (.int (nI p)), some (.int (nI j))] [] [(q, ob 7 i1 (rS t b n x)), (t, aI g 401 th1), (b, aI g 401 be1), (n, aI g 401 nu1), (x, aB g 400 Tc)] 0 0 := by
    intro c
    induction c with
    | zero =>
      intro j hj D p i1 th1 be1 nu1 h1 h2 h3 hD hR h4 h5 h6
      obtain rfl : j = 400 := by omega
      rw [show tokL Tc e 0 p = [] from rfl, List.append_nil] at hD
      have hge : (400 : Int32) ≤ nI 400 := by decide
      have hR2 : RepT (toks Tc e) e i1 (upd th1 D.length 0) (upd be1 D.length (i1 4)) nu1 := by
        rw [← hD]
        refine ⟨h5, by omega, he, fun k hk => ?_, pk_us, by rw [pk_us]; exact h4⟩
        rw [pk_un (by omega), pk_un (by omega)]
        exact hR k hk
      generalize hdl : D.length = dl at *
      refine q_iload 4 38 dX7_scan_36 rfl rfl ?_
      refine q_sipush 400 41 dX7_scan_38 sc_400 rfl ?_
      refine q_icmp_ge 81 44 dX7_scan_41 (by decide) rfl (fun h41 => ?_) (fun h41 => absurd hge h41)
      refine q_aload_n 0 82 dX7_scan_81 rfl rfl rfl ?_
      refine q_getR 0 85 f_X7_11 dX7_scan_82 rfl rfl rfl rfl ?_
      refine q_aload_n 0 86 dX7_scan_85 rfl rfl rfl ?_
      refine q_getI 0 89 f_X7_35 dX7_scan_86 rfl rfl rfl ?_
      rw [h5]
      refine q_iconst 0 90 dX7_scan_89 ic_0 rfl ?_
      refine q_iast 1 dl 91 (w' := [_, _, _, _, _]) dX7_scan_90 rfl ⟨rfl, by omega, by decide⟩ rfl rfl ?_
      refine q_aload_n 0 92 dX7_scan_91 rfl rfl rfl ?_
      refine q_getR 0 95 f_X7_15 dX7_scan_92 rfl rfl rfl rfl ?_
      refine q_aload_n 0 96 dX7_scan_95 rfl rfl rfl ?_
      refine q_getI 0 99 f_X7_35 dX7_scan_96 rfl rfl rfl ?_
      rw [h5]
      refine q_aload_n 0 100 dX7_scan_99 rfl rfl rfl ?_
      refine q_getI 0 103 f_X7_31 dX7_scan_100 rfl rfl rfl ?_
      refine q_iast 2 dl 104 (w' := [_, _, _, _, _]) dX7_scan_103 rfl ⟨rfl, by omega, by decide⟩ rfl rfl ?_
      refine q_return dX7_scan_104 rfl ?_
      exact pE.mk (_, _, _, _) ⟨hR2, h6⟩ rfl rfl
    | succ c ih =>
      intro j hj D p i1 th1 be1 nu1 h1 h2 h3 hD hR h4 h5 h6
      have hlt : ¬ (400 : Int32) ≤ nI j := nI_ge (b := 400) (by omega) (by decide)
      rw [tokL] at hD
      by_cases hp : p < e
      · have hpe : ¬ i1 4 ≤ nI p := by rw [h4]; exact nI_ge hp (by omega)
        rw [if_pos hp] at hD
        by_cases hb : Tc p = 32
        · rw [if_pos hb] at hD
          have K1 := ih (j + 1) (by omega) D (p + 1) i1 th1 be1 nu1 (by omega) (by omega) (by omega) hD hR h4 h5 h6
          clear ih
          refine q_iload 4 38 dX7_scan_36 rfl rfl ?_
          refine q_sipush 400 41 dX7_scan_38 sc_400 rfl ?_
          refine q_icmp_ge 81 44 dX7_scan_41 (by decide) rfl (fun h41 => absurd h41 hlt) (fun h41 => ?_)
          refine q_iload_n 3 45 dX7_scan_44 rfl rfl rfl ?_
          refine q_aload_n 0 46 dX7_scan_45 rfl rfl rfl ?_
          refine q_getI 0 49 f_X7_31 dX7_scan_46 rfl rfl rfl ?_
          refine q_icmp_ge 81 52 dX7_scan_49 (by decide) rfl (fun h49 => absurd h49 hpe) (fun h49 => ?_)
          refine q_aload_n 0 53 dX7_scan_52 rfl rfl rfl ?_
          refine q_getR 0 56 f_X7_21 dX7_scan_53 rfl rfl rfl rfl ?_
          refine q_iload_n 3 57 dX7_scan_56 rfl rfl rfl ?_
          refine q_bald 4 p 58 dX7_scan_57 rfl ⟨rfl, by omega, by decide⟩ rfl ?_
          refine q_bipush 32 60 dX7_scan_58 bc_32 rfl ?_
          refine q_icmp_ne 69 63 dX7_scan_60 (by decide) rfl (fun h60 => absurd hb h60) (fun h60 => ?_)
          refine q_iload_n 3 64 dX7_scan_63 rfl rfl rfl ?_
          refine q_iconst 1 65 dX7_scan_64 ic_1 rfl ?_
          refine q_iadd 66 dX7_scan_65 rfl ?_
          refine q_goto 74 dX7_scan_66 (by decide) ?_
          rw [nI_1]
          refine q_istore_n 3 75 (L' := [_, _, _, _, _]) dX7_scan_74 rfl (by decide) rfl rfl ?_
          refine q_iinc 4 (nI (j + 1)) 78 (L' := [_, _, _, _, _]) dX7_scan_75 rfl (inc1 (j)) (by decide) rfl rfl ?_
          refine q_goto 36 dX7_scan_78 (by decide) ?_
          exact K1
        · rw [if_neg hb] at hD
          obtain ⟨t1, t2⟩ := tkE_in Tc hp
          have K1 := ih (j + 1) (by omega) (D ++ [tk1 Tc e p]) (tkE Tc e p) (upd i1 5 (nI (D.length + 1))) (upd th1 D.length (tkT Tc e p)) (upd be1 D.length (nI p)) (tkN Tc e p nu1 D.length) (by omega) t2 (by rw [List.length_append, List.length_singleton]; omega) (by rw [List.append_assoc]; exact hD) (RepP_push hR) h4 (by rw [pk_us, List.length_append, List.length_singleton]) h6
          clear ih
          refine q_iload 4 38 dX7_scan_36 rfl rfl ?_
          refine q_sipush 400 41 dX7_scan_38 sc_400 rfl ?_
          refine q_icmp_ge 81 44 dX7_scan_41 (by decide) rfl (fun h41 => absurd h41 hlt) (fun h41 => ?_)
          refine q_iload_n 3 45 dX7_scan_44 rfl rfl rfl ?_
          refine q_aload_n 0 46 dX7_scan_45 rfl rfl rfl ?_
          refine q_getI 0 49 f_X7_31 dX7_scan_46 rfl rfl rfl ?_
          refine q_icmp_ge 81 52 dX7_scan_49 (by decide) rfl (fun h49 => absurd h49 hpe) (fun h49 => ?_)
          refine q_aload_n 0 53 dX7_scan_52 rfl rfl rfl ?_
          refine q_getR 0 56 f_X7_21 dX7_scan_53 rfl rfl rfl rfl ?_
          refine q_iload_n 3 57 dX7_scan_56 rfl rfl rfl ?_
          refine q_bald 4 p 58 dX7_scan_57 rfl ⟨rfl, by omega, by decide⟩ rfl ?_
          refine q_bipush 32 60 dX7_scan_58 bc_32 rfl ?_
          refine q_icmp_ne 69 63 dX7_scan_60 (by decide) rfl (fun h60 => ?_) (fun h60 => absurd h60 hb)
          refine q_aload_n 0 70 dX7_scan_69 rfl rfl rfl ?_
          refine q_iload_n 3 71 dX7_scan_70 rfl rfl rfl ?_
          refine q_cVi 0 [0, 1, 2, 3, 4] [] [0, 1, 2, 3, 4] 74 (wr := []) (w1 := _) (ws' := [_, _, _, _, _]) (c_X7_scanThing he hp (by omega) h4 h5) m_X7_41 dX7_scan_71 rfl rfl rfl rfl rfl rfl rfl rfl (by decide) (by decide) (by decide) (by decide) (Nat.le_of_ble_eq_true rfl) (by omega) (by omega) (by omega) rfl ?_
          refine q_istore_n 3 75 (L' := [_, _, _, _, _]) dX7_scan_74 rfl (by decide) rfl rfl ?_
          refine q_iinc 4 (nI (j + 1)) 78 (L' := [_, _, _, _, _]) dX7_scan_75 rfl (inc1 (j)) (by decide) rfl rfl ?_
          refine q_goto 36 dX7_scan_78 (by decide) ?_
          exact K1
      · have hpe : i1 4 ≤ nI p := by rw [h4]; exact nI_le (by omega) (by omega)
        rw [if_neg hp, List.append_nil] at hD
        have hR2 : RepT (toks Tc e) e i1 (upd th1 D.length 0) (upd be1 D.length (i1 4)) nu1 := by
          rw [← hD]
          refine ⟨h5, by omega, he, fun k hk => ?_, pk_us, by rw [pk_us]; exact h4⟩
          rw [pk_un (by omega), pk_un (by omega)]
          exact hR k hk
        clear ih
        generalize hdl : D.length = dl at *
        refine q_iload 4 38 dX7_scan_36 rfl rfl ?_
        refine q_sipush 400 41 dX7_scan_38 sc_400 rfl ?_
        refine q_icmp_ge 81 44 dX7_scan_41 (by decide) rfl (fun h41 => absurd h41 hlt) (fun h41 => ?_)
        refine q_iload_n 3 45 dX7_scan_44 rfl rfl rfl ?_
        refine q_aload_n 0 46 dX7_scan_45 rfl rfl rfl ?_
        refine q_getI 0 49 f_X7_31 dX7_scan_46 rfl rfl rfl ?_
        refine q_icmp_ge 81 52 dX7_scan_49 (by decide) rfl (fun h49 => ?_) (fun h49 => absurd hpe h49)
        refine q_aload_n 0 82 dX7_scan_81 rfl rfl rfl ?_
        refine q_getR 0 85 f_X7_11 dX7_scan_82 rfl rfl rfl rfl ?_
        refine q_aload_n 0 86 dX7_scan_85 rfl rfl rfl ?_
        refine q_getI 0 89 f_X7_35 dX7_scan_86 rfl rfl rfl ?_
        rw [h5]
        refine q_iconst 0 90 dX7_scan_89 ic_0 rfl ?_
        refine q_iast 1 dl 91 (w' := [_, _, _, _, _]) dX7_scan_90 rfl ⟨rfl, by omega, by decide⟩ rfl rfl ?_
        refine q_aload_n 0 92 dX7_scan_91 rfl rfl rfl ?_
        refine q_getR 0 95 f_X7_15 dX7_scan_92 rfl rfl rfl rfl ?_
        refine q_aload_n 0 96 dX7_scan_95 rfl rfl rfl ?_
        refine q_getI 0 99 f_X7_35 dX7_scan_96 rfl rfl rfl ?_
        rw [h5]
        refine q_aload_n 0 100 dX7_scan_99 rfl rfl rfl ?_
        refine q_getI 0 103 f_X7_31 dX7_scan_100 rfl rfl rfl ?_
        refine q_iast 2 dl 104 (w' := [_, _, _, _, _]) dX7_scan_103 rfl ⟨rfl, by omega, by decide⟩ rfl rfl ?_
        refine q_return dX7_scan_104 rfl ?_
        exact pE.mk (_, _, _, _) ⟨hR2, h6⟩ rfl rfl
  have K1 := K36 400 0 rfl [] 0 (upd (upd (upd i 4 (nI e)) 5 0) 6 0) th be nu (Nat.le_refl _) (Nat.zero_le _) (Nat.le_refl _) rfl (fun k hk => absurd hk (Nat.not_lt_zero _)) rfl rfl rfl
  clear K36
  have em : iMin (nI e) (iMin (nI 400) 400) = nI e := by
    rw [show iMin (nI 400) 400 = nI 400 from by decide, iMin_n (by omega) (by decide), Nat.min_eq_left he]
  refine q_aload_n 0 1 dX7_scan_0 rfl rfl rfl ?_
  refine q_aload_n 1 2 dX7_scan_1 rfl rfl rfl ?_
  refine q_putR 0 5 (w' := [_, _, _, _, _]) (r' := [_, _, _, _, _, _, _]) f_X7_21 ft_X7_3 dX7_scan_2 rfl rfl (Nat.le_of_ble_eq_true rfl) rfl rfl rfl rfl rfl ?_
  refine q_aload_n 0 6 dX7_scan_5 rfl rfl rfl ?_
  refine q_iload_n 2 7 dX7_scan_6 rfl rfl rfl ?_
  refine q_aload_n 1 8 dX7_scan_7 rfl rfl rfl ?_
  refine q_alenB 4 _ 9 dX7_scan_8 rfl rfl rfl ?_
  refine q_sipush 400 12 dX7_scan_9 sc_400 rfl ?_
  refine q_mmin 15 mm_X7_25 dX7_scan_12 (Nat.le_of_ble_eq_true rfl) (by omega) (by omega) (by omega) rfl ?_
  refine q_mmin 18 mm_X7_25 dX7_scan_15 (Nat.le_of_ble_eq_true rfl) (by omega) (by omega) (by omega) rfl ?_
  rw [em]
  refine q_putI 0 21 (w' := [_, _, _, _, _]) f_X7_31 ft_X7_4 dX7_scan_18 rfl rfl rfl rfl ?_
  refine q_aload_n 0 22 dX7_scan_21 rfl rfl rfl ?_
  refine q_iconst 0 23 dX7_scan_22 ic_0 rfl ?_
  refine q_putI 0 26 (w' := [_, _, _, _, _]) f_X7_35 ft_X7_5 dX7_scan_23 rfl rfl rfl rfl ?_
  refine q_aload_n 0 27 dX7_scan_26 rfl rfl rfl ?_
  refine q_iconst 0 28 dX7_scan_27 ic_0 rfl ?_
  refine q_putI 0 31 (w' := [_, _, _, _, _]) f_X7_38 ft_X7_6 dX7_scan_28 rfl rfl rfl rfl ?_
  refine q_iconst 0 32 dX7_scan_31 ic_0 rfl ?_
  refine q_istore_n 3 33 (L' := [_, _, _, _, _]) dX7_scan_32 rfl (by decide) rfl rfl ?_
  refine q_iconst 0 34 dX7_scan_33 ic_0 rfl ?_
  refine q_istore 4 36 (L' := [_, _, _, _, _]) dX7_scan_34 (by decide) rfl rfl ?_
  exact K1
/-- the thing at k -/
def tA (L : List Tok) (e k : Nat) : Tok := L.getD k (dT e)
theorem tA_end {L : List Tok} {e k : Nat} (h : L.length ≤ k) : tA L e k = dT e := by
  unfold tA
  simp [List.getD, List.getElem?_eq_none h]
theorem rep_th {L : List Tok} {e k : Nat} {i th be nu : Sc} (h : RepT L e i th be nu) (hk : k ≤ L.length) : th k = (tA L e k).1 := by
  by_cases h2 : k < L.length
  · exact (h.2.2.2.1 k h2).1
  · obtain rfl : k = L.length := by omega
    rw [tA_end (Nat.le_refl _)]
    exact h.2.2.2.2.1
theorem rep_be {L : List Tok} {e k : Nat} {i th be nu : Sc} (h : RepT L e i th be nu) (hk : k ≤ L.length) : be k = nI (tA L e k).2.1 := by
  by_cases h2 : k < L.length
  · exact (h.2.2.2.1 k h2).2.1
  · obtain rfl : k = L.length := by omega
    rw [tA_end (Nat.le_refl _)]
    exact h.2.2.2.2.2
theorem RepT_6 {L : List Tok} {e : Nat} {i th be nu : Sc} {v : Int32} (h : RepT L e i th be nu) : RepT L e (upd i 6 v) th be nu := h
theorem c_X7_thing {l : Launch} {g : Gh} {q t b n x e k : Nat} {i th be nu : Sc} {L : List Tok} (hR : RepT L e i th be nu) (hk : k ≤ L.length) : Cp l g yX7_thing (Cond.code yX7_thing cX7_thing 1 (some .int)) 1 [.ref q] [(q, ob 7 (upd i 6 (nI k)) (rS t b n x)), (t, aI g 401 th), (b, aI g 401 be), (n, aI g 401 nu)] (some (.int (tA L e k).1)) [(q, ob 7 (upd i 6 (nI k)) (rS t b n x)), (t, aI g 401 th), (b, aI g 401 be), (n, aI g 401 nu)] := by
  refine ct_of (M := mtX7_thing) [some (.ref q)] rfl (by decide) (Nat.le_of_ble_eq_true rfl) (fun _ h => h) (fun a => ?_)
  have e1 := rep_th hR hk
  have hl := hR.2.1
  refine q_aload_n 0 1 dX7_thing_0 rfl rfl rfl ?_
  refine q_getR 0 4 f_X7_11 dX7_thing_1 rfl rfl rfl rfl ?_
  refine q_aload_n 0 5 dX7_thing_4 rfl rfl rfl ?_
  refine q_getI 0 8 f_X7_38 dX7_thing_5 rfl rfl rfl ?_
  rw [show (upd i 6 (nI k)) 6 = nI k from pk_us]
  refine q_iald 1 k 9 dX7_thing_8 rfl ⟨rfl, by omega, by decide⟩ rfl ?_
  rw [e1]
  refine q_ireturn dX7_thing_9 rfl ?_
  exact pR.rf
theorem c_X7_place {l : Launch} {g : Gh} {q t b n x e k : Nat} {i th be nu : Sc} {L : List Tok} (hR : RepT L e i th be nu) (hk : k ≤ L.length) : Cp l g yX7_place (Cond.code yX7_place cX7_place 1 (some .int)) 1 [.ref q] [(q, ob 7 (upd i 6 (nI k)) (rS t b n x)), (t, aI g 401 th), (b, aI g 401 be), (n, aI g 401 nu)] (some (.int (nI (tA L e k).2.1))) [(q, ob 7 (upd i 6 (nI k)) (rS t b n x)), (t, aI g 401 th), (b, aI g 401 be), (n, aI g 401 nu)] := by
  refine ct_of (M := mtX7_place) [some (.ref q)] rfl (by decide) (Nat.le_of_ble_eq_true rfl) (fun _ h => h) (fun a => ?_)
  have e1 := rep_be hR hk
  have hl := hR.2.1
  refine q_aload_n 0 1 dX7_place_0 rfl rfl rfl ?_
  refine q_getR 0 4 f_X7_15 dX7_place_1 rfl rfl rfl rfl ?_
  refine q_aload_n 0 5 dX7_place_4 rfl rfl rfl ?_
  refine q_getI 0 8 f_X7_38 dX7_place_5 rfl rfl rfl ?_
  rw [show (upd i 6 (nI k)) 6 = nI k from pk_us]
  refine q_iald 2 k 9 dX7_place_8 rfl ⟨rfl, by omega, by decide⟩ rfl ?_
  rw [e1]
  refine q_ireturn dX7_place_9 rfl ?_
  exact pR.rf
def pK1 (L : List Tok) (k : Nat) : Nat := if k < L.length then k + 1 else k
theorem c_X7_pass {l : Launch} {g : Gh} {q t b n x e k : Nat} {i th be nu : Sc} {L : List Tok} (hR : RepT L e i th be nu) (hk : k ≤ L.length) : Cp l g yX7_pass (Cond.code yX7_pass cX7_pass 1 none) 1 [.ref q] [(q, ob 7 (upd i 6 (nI k)) (rS t b n x)), (t, aI g 401 th), (b, aI g 401 be), (n, aI g 401 nu)] none [(q, ob 7 (upd i 6 (nI (pK1 L k))) (rS t b n x)), (t, aI g 401 th), (b, aI g 401 be), (n, aI g 401 nu)] := by
  refine ct_of (M := mtX7_pass) [some (.ref q)] rfl (by decide) (Nat.le_of_ble_eq_true rfl) (fun _ h => h) (fun a => ?_)
  have hl := hR.2.1
  have e5 : (upd i 6 (nI k)) 5 = nI L.length := hR.1
  unfold pK1
  by_cases h : k < L.length
  · rw [if_pos h, ← nI_1]
    have hlt : ¬ (upd i 6 (nI k)) 5 ≤ (upd i 6 (nI k)) 6 := by rw [e5, pk_us]; exact nI_ge h (by omega)
    refine q_aload_n 0 1 dX7_pass_0 rfl rfl rfl ?_
    refine q_getI 0 4 f_X7_38 dX7_pass_1 rfl rfl rfl ?_
    refine q_aload_n 0 5 dX7_pass_4 rfl rfl rfl ?_
    refine q_getI 0 8 f_X7_35 dX7_pass_5 rfl rfl rfl ?_
    refine q_icmp_ge 21 11 dX7_pass_8 (by decide) rfl (fun h8 => absurd h8 hlt) (fun h8 => ?_)
    refine q_aload_n 0 12 dX7_pass_11 rfl rfl rfl ?_
    refine q_dup 13 dX7_pass_12 rfl rfl ?_
    refine q_getI 0 16 f_X7_38 dX7_pass_13 rfl rfl rfl ?_
    refine q_iconst 1 17 dX7_pass_16 ic_1 rfl ?_
    refine q_iadd 18 dX7_pass_17 rfl ?_
    refine q_putI 0 21 (w' := [_, _, _, _]) f_X7_38 ft_X7_6 dX7_pass_18 rfl rfl rfl rfl ?_
    refine q_return dX7_pass_21 rfl ?_
    exact pR.mk rfl (by rw [pk_us, upd_upd])
  · rw [if_neg h]
    have hge : (upd i 6 (nI k)) 5 ≤ (upd i 6 (nI k)) 6 := by rw [e5, pk_us]; exact nI_le (by omega) (by omega)
    refine q_aload_n 0 1 dX7_pass_0 rfl rfl rfl ?_
    refine q_getI 0 4 f_X7_38 dX7_pass_1 rfl rfl rfl ?_
    refine q_aload_n 0 5 dX7_pass_4 rfl rfl rfl ?_
    refine q_getI 0 8 f_X7_35 dX7_pass_5 rfl rfl rfl ?_
    refine q_icmp_ge 21 11 dX7_pass_8 (by decide) rfl (fun h8 => ?_) (fun h8 => absurd hge h8)
    refine q_return dX7_pass_21 rfl ?_
    exact pR.rf
/-- passes(v): whether, and where -/
abbrev isT (L : List Tok) (e k : Nat) (v : Int32) : Prop := k < L.length ∧ (tA L e k).1 = v
def psB (L : List Tok) (e k : Nat) (v : Int32) : Int32 := if isT L e k v then 1 else 0
def psK (L : List Tok) (e k : Nat) (v : Int32) : Nat := if isT L e k v then k + 1 else k
theorem psB_or (L : List Tok) (e k : Nat) (v : Int32) : psB L e k v = 0 ∨ psB L e k v = 1 := by unfold psB; split <;> simp
theorem psK_le {L : List Tok} {e k : Nat} {v : Int32} (hk : k ≤ L.length) : psK L e k v ≤ L.length := by
  unfold psK
  split
  · rename_i h; have := h.1; omega
  · exact hk
theorem c_X7_passes {l : Launch} {g : Gh} {q t b n x e k : Nat} {i th be nu : Sc} {L : List Tok} {v : Int32} (hR : RepT L e i th be nu) (hk : k ≤ L.length) : Cp l g yX7_passes (Cond.code yX7_passes cX7_passes 2 (some .boolean)) 1 [.ref q, .int v] [(q, ob 7 (upd i 6 (nI k)) (rS t b n x)), (t, aI g 401 th), (b, aI g 401 be), (n, aI g 401 nu)] (some (.int (psB L e k v))) [(q, ob 7 (upd i 6 (nI (psK L e k v))) (rS t b n x)), (t, aI g 401 th), (b, aI g 401 be), (n, aI g 401 nu)] := by
  refine ct_of (M := mtX7_passes) [some (.ref q), some (.int v)] rfl (by decide) (Nat.le_of_ble_eq_true rfl) (fun _ h => h) (fun a => ?_)
  have hl := hR.2.1
  have e5 : (upd i 6 (nI k)) 5 = nI L.length := hR.1
  have e1 := rep_th hR hk
  unfold psB psK
  by_cases h : k < L.length
  · have hlt : ¬ (upd i 6 (nI k)) 5 ≤ (upd i 6 (nI k)) 6 := by rw [e5, pk_us]; exact nI_ge h (by omega)
    by_cases hv : (tA L e k).1 = v
    · rw [if_pos ⟨h, hv⟩, if_pos ⟨h, hv⟩, ← nI_1]
      refine q_aload_n 0 1 dX7_passes_0 rfl rfl rfl ?_
      refine q_getI 0 4 f_X7_38 dX7_passes_1 rfl rfl rfl ?_
      refine q_aload_n 0 5 dX7_passes_4 rfl rfl rfl ?_
      refine q_getI 0 8 f_X7_35 dX7_passes_5 rfl rfl rfl ?_
      refine q_icmp_ge 24 11 dX7_passes_8 (by decide) rfl (fun h8 => absurd h8 hlt) (fun h8 => ?_)
      refine q_aload_n 0 12 dX7_passes_11 rfl rfl rfl ?_
      refine q_getR 0 15 f_X7_11 dX7_passes_12 rfl rfl rfl rfl ?_
      refine q_aload_n 0 16 dX7_passes_15 rfl rfl rfl ?_
      refine q_getI 0 19 f_X7_38 dX7_passes_16 rfl rfl rfl ?_
      rw [show (upd i 6 (nI k)) 6 = nI k from pk_us]
      refine q_iald 1 k 20 dX7_passes_19 rfl ⟨rfl, by omega, by decide⟩ rfl ?_
      refine q_iload_n 1 21 dX7_passes_20 rfl rfl rfl ?_
      refine q_icmp_eq 26 24 dX7_passes_21 (by decide) rfl (fun h21 => ?_) (fun h21 => absurd (e1.trans hv) h21)
      refine q_aload_n 0 27 dX7_passes_26 rfl rfl rfl ?_
      refine q_dup 28 dX7_passes_27 rfl rfl ?_
      refine q_getI 0 31 f_X7_38 dX7_passes_28 rfl rfl rfl ?_
      refine q_iconst 1 32 dX7_passes_31 ic_1 rfl ?_
      refine q_iadd 33 dX7_passes_32 rfl ?_
      refine q_putI 0 36 (w' := [_, _, _, _]) f_X7_38 ft_X7_6 dX7_passes_33 rfl rfl rfl rfl ?_
      refine q_iconst 1 37 dX7_passes_36 ic_1 rfl ?_
      refine q_zreturn dX7_passes_37 rfl (Or.inr rfl) ?_
      exact pR.mk rfl (by rw [pk_us, upd_upd])
    · rw [if_neg (fun z => hv z.2), if_neg (fun z => hv z.2)]
      refine q_aload_n 0 1 dX7_passes_0 rfl rfl rfl ?_
      refine q_getI 0 4 f_X7_38 dX7_passes_1 rfl rfl rfl ?_
      refine q_aload_n 0 5 dX7_passes_4 rfl rfl rfl ?_
      refine q_getI 0 8 f_X7_35 dX7_passes_5 rfl rfl rfl ?_
      refine q_icmp_ge 24 11 dX7_passes_8 (by decide) rfl (fun h8 => absurd h8 hlt) (fun h8 => ?_)
      refine q_aload_n 0 12 dX7_passes_11 rfl rfl rfl ?_
      refine q_getR 0 15 f_X7_11 dX7_passes_12 rfl rfl rfl rfl ?_
      refine q_aload_n 0 16 dX7_passes_15 rfl rfl rfl ?_
      refine q_getI 0 19 f_X7_38 dX7_passes_16 rfl rfl rfl ?_
      rw [show (upd i 6 (nI k)) 6 = nI k from pk_us]
      refine q_iald 1 k 20 dX7_passes_19 rfl ⟨rfl, by omega, by decide⟩ rfl ?_
      refine q_iload_n 1 21 dX7_passes_20 rfl rfl rfl ?_
      refine q_icmp_eq 26 24 dX7_passes_21 (by decide) rfl (fun h21 => absurd h21 (fun z => hv (e1.symm.trans z))) (fun h21 => ?_)
      refine q_iconst 0 25 dX7_passes_24 ic_0 rfl ?_
      refine q_zreturn dX7_passes_25 rfl (Or.inl rfl) ?_
      exact pR.rf
  · rw [if_neg (fun z => h z.1), if_neg (fun z => h z.1)]
    have hge : (upd i 6 (nI k)) 5 ≤ (upd i 6 (nI k)) 6 := by rw [e5, pk_us]; exact nI_le (by omega) (by omega)
    refine q_aload_n 0 1 dX7_passes_0 rfl rfl rfl ?_
    refine q_getI 0 4 f_X7_38 dX7_passes_1 rfl rfl rfl ?_
    refine q_aload_n 0 5 dX7_passes_4 rfl rfl rfl ?_
    refine q_getI 0 8 f_X7_35 dX7_passes_5 rfl rfl rfl ?_
    refine q_icmp_ge 24 11 dX7_passes_8 (by decide) rfl (fun h8 => ?_) (fun h8 => absurd hge h8)
    refine q_iconst 0 25 dX7_passes_24 ic_0 rfl ?_
    refine q_zreturn dX7_passes_25 rfl (Or.inl rfl) ?_
    exact pR.rf
/-- passNumber(lo, hi) -/
abbrev isN (L : List Tok) (e k : Nat) (lo hi : Int32) : Prop := (k < L.length ∧ (tA L e k).1 = 1) ∧ ¬ (tA L e k).2.2 < lo ∧ (tA L e k).2.2 ≤ hi
def pnV (L : List Tok) (e k : Nat) (lo hi : Int32) : Int32 := if isN L e k lo hi then (tA L e k).2.2 else -1
def pnK (L : List Tok) (e k : Nat) (lo hi : Int32) : Nat := if isN L e k lo hi then k + 1 else k
theorem pnK_le {L : List Tok} {e k : Nat} {lo hi : Int32} (hk : k ≤ L.length) : pnK L e k lo hi ≤ L.length := by
  unfold pnK
  split
  · rename_i h; have := h.1.1; omega
  · exact hk
theorem c_X7_passNumber {l : Launch} {g : Gh} {q t b n x e k : Nat} {i th be nu : Sc} {L : List Tok} {lo hi : Int32} (hR : RepT L e i th be nu) (hk : k ≤ L.length) : Cp l g yX7_passNumber (Cond.code yX7_passNumber cX7_passNumber 3 (some .int)) 1 [.ref q, .int lo, .int hi] [(q, ob 7 (upd i 6 (nI k)) (rS t b n x)), (t, aI g 401 th), (b, aI g 401 be), (n, aI g 401 nu)] (some (.int (pnV L e k lo hi))) [(q, ob 7 (upd i 6 (nI (pnK L e k lo hi))) (rS t b n x)), (t, aI g 401 th), (b, aI g 401 be), (n, aI g 401 nu)] := by
  refine ct_of (M := mtX7_passNumber) [some (.ref q), some (.int lo), some (.int hi)] rfl (by decide) (Nat.le_of_ble_eq_true rfl) (fun _ h => h) (fun a => ?_)
  have hl := hR.2.1
  have e5 : (upd i 6 (nI k)) 5 = nI L.length := hR.1
  have e1 := rep_th hR hk
  unfold pnV pnK
  by_cases h : k < L.length
  · have hlt : ¬ (upd i 6 (nI k)) 5 ≤ (upd i 6 (nI k)) 6 := by rw [e5, pk_us]; exact nI_ge h (by omega)
    by_cases hv : (tA L e k).1 = 1
    · have e2 : nu k = (tA L e k).2.2 := (hR.2.2.2.1 k h).2.2 hv
      by_cases h1 : (tA L e k).2.2 < lo
      · rw [if_neg (fun z => z.2.1 h1), if_neg (fun z => z.2.1 h1)]
        refine q_aload_n 0 1 dX7_passNumber_0 rfl rfl rfl ?_
        refine q_getI 0 4 f_X7_38 dX7_passNumber_1 rfl rfl rfl ?_
        refine q_aload_n 0 5 dX7_passNumber_4 rfl rfl rfl ?_
        refine q_getI 0 8 f_X7_35 dX7_passNumber_5 rfl rfl rfl ?_
        refine q_icmp_ge 50 11 dX7_passNumber_8 (by decide) rfl (fun h8 => absurd h8 hlt) (fun h8 => ?_)
        refine q_aload_n 0 12 dX7_passNumber_11 rfl rfl rfl ?_
        refine q_getR 0 15 f_X7_11 dX7_passNumber_12 rfl rfl rfl rfl ?_
        refine q_aload_n 0 16 dX7_passNumber_15 rfl rfl rfl ?_
        refine q_getI 0 19 f_X7_38 dX7_passNumber_16 rfl rfl rfl ?_
        rw [show (upd i 6 (nI k)) 6 = nI k from pk_us]
        refine q_iald 1 k 20 dX7_passNumber_19 rfl ⟨rfl, by omega, by decide⟩ rfl ?_
        refine q_iconst 1 21 dX7_passNumber_20 ic_1 rfl ?_
        refine q_icmp_ne 50 24 dX7_passNumber_21 (by decide) rfl (fun h21 => absurd (e1.trans hv) h21) (fun h21 => ?_)
        refine q_aload_n 0 25 dX7_passNumber_24 rfl rfl rfl ?_
        refine q_getR 0 28 f_X7_18 dX7_passNumber_25 rfl rfl rfl rfl ?_
        refine q_aload_n 0 29 dX7_passNumber_28 rfl rfl rfl ?_
        refine q_getI 0 32 f_X7_38 dX7_passNumber_29 rfl rfl rfl ?_
        rw [show (upd i 6 (nI k)) 6 = nI k from pk_us]
        refine q_iald 3 k 33 dX7_passNumber_32 rfl ⟨rfl, by omega, by decide⟩ rfl ?_
        refine q_iload_n 1 34 dX7_passNumber_33 rfl rfl rfl ?_
        refine q_icmp_lt 50 37 dX7_passNumber_34 (by decide) rfl (fun h34 => ?_) (fun h34 => absurd (e2 ▸ h1) h34)
        refine q_iconst (-1) 51 dX7_passNumber_50 ic_m1 rfl ?_
        refine q_ireturn dX7_passNumber_51 rfl ?_
        exact pR.rf
      · by_cases h2 : (tA L e k).2.2 ≤ hi
        · rw [if_pos ⟨⟨h, hv⟩, h1, h2⟩, if_pos ⟨⟨h, hv⟩, h1, h2⟩, ← nI_1]
          refine q_aload_n 0 1 dX7_passNumber_0 rfl rfl rfl ?_
          refine q_getI 0 4 f_X7_38 dX7_passNumber_1 rfl rfl rfl ?_
          refine q_aload_n 0 5 dX7_passNumber_4 rfl rfl rfl ?_
          refine q_getI 0 8 f_X7_35 dX7_passNumber_5 rfl rfl rfl ?_
          refine q_icmp_ge 50 11 dX7_passNumber_8 (by decide) rfl (fun h8 => absurd h8 hlt) (fun h8 => ?_)
          refine q_aload_n 0 12 dX7_passNumber_11 rfl rfl rfl ?_
          refine q_getR 0 15 f_X7_11 dX7_passNumber_12 rfl rfl rfl rfl ?_
          refine q_aload_n 0 16 dX7_passNumber_15 rfl rfl rfl ?_
          refine q_getI 0 19 f_X7_38 dX7_passNumber_16 rfl rfl rfl ?_
          rw [show (upd i 6 (nI k)) 6 = nI k from pk_us]
          refine q_iald 1 k 20 dX7_passNumber_19 rfl ⟨rfl, by omega, by decide⟩ rfl ?_
          refine q_iconst 1 21 dX7_passNumber_20 ic_1 rfl ?_
          refine q_icmp_ne 50 24 dX7_passNumber_21 (by decide) rfl (fun h21 => absurd (e1.trans hv) h21) (fun h21 => ?_)
          refine q_aload_n 0 25 dX7_passNumber_24 rfl rfl rfl ?_
          refine q_getR 0 28 f_X7_18 dX7_passNumber_25 rfl rfl rfl rfl ?_
          refine q_aload_n 0 29 dX7_passNumber_28 rfl rfl rfl ?_
          refine q_getI 0 32 f_X7_38 dX7_passNumber_29 rfl rfl rfl ?_
          rw [show (upd i 6 (nI k)) 6 = nI k from pk_us]
          refine q_iald 3 k 33 dX7_passNumber_32 rfl ⟨rfl, by omega, by decide⟩ rfl ?_
          refine q_iload_n 1 34 dX7_passNumber_33 rfl rfl rfl ?_
          refine q_icmp_lt 50 37 dX7_passNumber_34 (by decide) rfl (fun h34 => absurd h34 (e2 ▸ h1)) (fun h34 => ?_)
          refine q_aload_n 0 38 dX7_passNumber_37 rfl rfl rfl ?_
          refine q_getR 0 41 f_X7_18 dX7_passNumber_38 rfl rfl rfl rfl ?_
          refine q_aload_n 0 42 dX7_passNumber_41 rfl rfl rfl ?_
          refine q_getI 0 45 f_X7_38 dX7_passNumber_42 rfl rfl rfl ?_
          rw [show (upd i 6 (nI k)) 6 = nI k from pk_us]
          refine q_iald 3 k 46 dX7_passNumber_45 rfl ⟨rfl, by omega, by decide⟩ rfl ?_
          refine q_iload_n 2 47 dX7_passNumber_46 rfl rfl rfl ?_
          refine q_icmp_le 52 50 dX7_passNumber_47 (by decide) rfl (fun h47 => ?_) (fun h47 => absurd (e2 ▸ h2) h47)
          refine q_aload_n 0 53 dX7_passNumber_52 rfl rfl rfl ?_
          refine q_getR 0 56 f_X7_18 dX7_passNumber_53 rfl rfl rfl rfl ?_
          refine q_aload_n 0 57 dX7_passNumber_56 rfl rfl rfl ?_
          refine q_dup 58 dX7_passNumber_57 rfl rfl ?_
          refine q_getI 0 61 f_X7_38 dX7_passNumber_58 rfl rfl rfl ?_
          refine q_dup_x1 62 dX7_passNumber_61 rfl rfl rfl ?_
          refine q_iconst 1 63 dX7_passNumber_62 ic_1 rfl ?_
          refine q_iadd 64 dX7_passNumber_63 rfl ?_
          refine q_putI 0 67 (w' := [_, _, _, _]) f_X7_38 ft_X7_6 dX7_passNumber_64 rfl rfl rfl rfl ?_
          rw [show (upd i 6 (nI k)) 6 = nI k from pk_us, upd_upd]
          refine q_iald 3 k 68 dX7_passNumber_67 rfl ⟨rfl, by omega, by decide⟩ rfl ?_
          refine q_ireturn dX7_passNumber_68 rfl ?_
          exact pR.mk (by rw [e2]) rfl
        · rw [if_neg (fun z => h2 z.2.2), if_neg (fun z => h2 z.2.2)]
          refine q_aload_n 0 1 dX7_passNumber_0 rfl rfl rfl ?_
          refine q_getI 0 4 f_X7_38 dX7_passNumber_1 rfl rfl rfl ?_
          refine q_aload_n 0 5 dX7_passNumber_4 rfl rfl rfl ?_
          refine q_getI 0 8 f_X7_35 dX7_passNumber_5 rfl rfl rfl ?_
          refine q_icmp_ge 50 11 dX7_passNumber_8 (by decide) rfl (fun h8 => absurd h8 hlt) (fun h8 => ?_)
          refine q_aload_n 0 12 dX7_passNumber_11 rfl rfl rfl ?_
          refine q_getR 0 15 f_X7_11 dX7_passNumber_12 rfl rfl rfl rfl ?_
          refine q_aload_n 0 16 dX7_passNumber_15 rfl rfl rfl ?_
          refine q_getI 0 19 f_X7_38 dX7_passNumber_16 rfl rfl rfl ?_
          rw [show (upd i 6 (nI k)) 6 = nI k from pk_us]
          refine q_iald 1 k 20 dX7_passNumber_19 rfl ⟨rfl, by omega, by decide⟩ rfl ?_
          refine q_iconst 1 21 dX7_passNumber_20 ic_1 rfl ?_
          refine q_icmp_ne 50 24 dX7_passNumber_21 (by decide) rfl (fun h21 => absurd (e1.trans hv) h21) (fun h21 => ?_)
          refine q_aload_n 0 25 dX7_passNumber_24 rfl rfl rfl ?_
          refine q_getR 0 28 f_X7_18 dX7_passNumber_25 rfl rfl rfl rfl ?_
          refine q_aload_n 0 29 dX7_passNumber_28 rfl rfl rfl ?_
          refine q_getI 0 32 f_X7_38 dX7_passNumber_29 rfl rfl rfl ?_
          rw [show (upd i 6 (nI k)) 6 = nI k from pk_us]
          refine q_iald 3 k 33 dX7_passNumber_32 rfl ⟨rfl, by omega, by decide⟩ rfl ?_
          refine q_iload_n 1 34 dX7_passNumber_33 rfl rfl rfl ?_
          refine q_icmp_lt 50 37 dX7_passNumber_34 (by decide) rfl (fun h34 => absurd h34 (e2 ▸ h1)) (fun h34 => ?_)
          refine q_aload_n 0 38 dX7_passNumber_37 rfl rfl rfl ?_
          refine q_getR 0 41 f_X7_18 dX7_passNumber_38 rfl rfl rfl rfl ?_
          refine q_aload_n 0 42 dX7_passNumber_41 rfl rfl rfl ?_
          refine q_getI 0 45 f_X7_38 dX7_passNumber_42 rfl rfl rfl ?_
          rw [show (upd i 6 (nI k)) 6 = nI k from pk_us]
          refine q_iald 3 k 46 dX7_passNumber_45 rfl ⟨rfl, by omega, by decide⟩ rfl ?_
          refine q_iload_n 2 47 dX7_passNumber_46 rfl rfl rfl ?_
          refine q_icmp_le 52 50 dX7_passNumber_47 (by decide) rfl (fun h47 => absurd h47 (e2 ▸ h2)) (fun h47 => ?_)
          refine q_iconst (-1) 51 dX7_passNumber_50 ic_m1 rfl ?_
          refine q_ireturn dX7_passNumber_51 rfl ?_
          exact pR.rf
    · rw [if_neg (fun z => hv z.1.2), if_neg (fun z => hv z.1.2)]
      refine q_aload_n 0 1 dX7_passNumber_0 rfl rfl rfl ?_
      refine q_getI 0 4 f_X7_38 dX7_passNumber_1 rfl rfl rfl ?_
      refine q_aload_n 0 5 dX7_passNumber_4 rfl rfl rfl ?_
      refine q_getI 0 8 f_X7_35 dX7_passNumber_5 rfl rfl rfl ?_
      refine q_icmp_ge 50 11 dX7_passNumber_8 (by decide) rfl (fun h8 => absurd h8 hlt) (fun h8 => ?_)
      refine q_aload_n 0 12 dX7_passNumber_11 rfl rfl rfl ?_
      refine q_getR 0 15 f_X7_11 dX7_passNumber_12 rfl rfl rfl rfl ?_
      refine q_aload_n 0 16 dX7_passNumber_15 rfl rfl rfl ?_
      refine q_getI 0 19 f_X7_38 dX7_passNumber_16 rfl rfl rfl ?_
      rw [show (upd i 6 (nI k)) 6 = nI k from pk_us]
      refine q_iald 1 k 20 dX7_passNumber_19 rfl ⟨rfl, by omega, by decide⟩ rfl ?_
      refine q_iconst 1 21 dX7_passNumber_20 ic_1 rfl ?_
      refine q_icmp_ne 50 24 dX7_passNumber_21 (by decide) rfl (fun h21 => ?_) (fun h21 => absurd h21 (fun z => hv (e1.symm.trans z)))
      refine q_iconst (-1) 51 dX7_passNumber_50 ic_m1 rfl ?_
      refine q_ireturn dX7_passNumber_51 rfl ?_
      exact pR.rf
  · rw [if_neg (fun z => h z.1.1), if_neg (fun z => h z.1.1)]
    have hge : (upd i 6 (nI k)) 5 ≤ (upd i 6 (nI k)) 6 := by rw [e5, pk_us]; exact nI_le (by omega) (by omega)
    refine q_aload_n 0 1 dX7_passNumber_0 rfl rfl rfl ?_
    refine q_getI 0 4 f_X7_38 dX7_passNumber_1 rfl rfl rfl ?_
    refine q_aload_n 0 5 dX7_passNumber_4 rfl rfl rfl ?_
    refine q_getI 0 8 f_X7_35 dX7_passNumber_5 rfl rfl rfl ?_
    refine q_icmp_ge 50 11 dX7_passNumber_8 (by decide) rfl (fun h8 => ?_) (fun h8 => absurd hge h8)
    refine q_iconst (-1) 51 dX7_passNumber_50 ic_m1 rfl ?_
    refine q_ireturn dX7_passNumber_51 rfl ?_
    exact pR.rf
theorem c_X7_init {l : Launch} {g : Gh} {q : Nat} : Cn l g yX7_init (Cond.code yX7_init cX7_init 1 none) 1 3 1203 [.ref q] [(q, ob 7 (fun _ => 0) (List.replicate 7 none))] (fun _ : Nat × Nat × Nat => none) (fun z : Nat × Nat × Nat => [(q, ob 7 (fun _ => 0) [some z.1, some z.2.1, some z.2.2, none, none, none, none]), (z.1, aI g 401 (fun _ => 0)), (z.2.1, aI g 401 (fun _ => 0)), (z.2.2, aI g 401 (fun _ => 0))]) (fun _ k m => k = 3 ∧ m = 1203) := by
  refine ct_of (M := mtX7_init) [some (.ref q)] rfl (by decide) (Nat.le_of_ble_eq_true rfl) (fun _ h => h) (fun a => ?_)
  refine q_aload_n 0 1 dX7_init_0 rfl rfl rfl ?_
  refine q_objInit 4 m_X7_5 dX7_init_1 (Nat.le_of_ble_eq_true rfl) (by decide) rfl ?_
  refine q_aload_n 0 5 dX7_init_4 rfl rfl rfl ?_
  refine q_sipush 401 8 dX7_init_5 sc_401 rfl ?_
  refine q_newI (N := 401) 10 dX7_init_8 rfl (by decide) (by omega) (by omega) rfl (fun q8 => ?_)
  refine q_putRF 0 13 (w' := [_, _]) (r' := [_, _, _, _, _, _, _]) f_X7_11 ft_X7_0 rfl rfl dX7_init_10 rfl rfl (Nat.le_of_ble_eq_true rfl) rfl rfl rfl rfl rfl ?_
  refine q_aload_n 0 14 dX7_init_13 rfl rfl rfl ?_
  refine q_sipush 401 17 dX7_init_14 sc_401 rfl ?_
  refine q_newI (N := 401) 19 dX7_init_17 rfl (by decide) (by omega) (by omega) rfl (fun q17 => ?_)
  refine q_putRF 0 22 (w' := [_, _, _]) (r' := [_, _, _, _, _, _, _]) f_X7_15 ft_X7_1 rfl rfl dX7_init_19 rfl rfl (Nat.le_of_ble_eq_true rfl) rfl rfl rfl rfl rfl ?_
  refine q_aload_n 0 23 dX7_init_22 rfl rfl rfl ?_
  refine q_sipush 401 26 dX7_init_23 sc_401 rfl ?_
  refine q_newI (N := 401) 28 dX7_init_26 rfl (by decide) (by omega) (by omega) rfl (fun q26 => ?_)
  refine q_putRF 0 31 (w' := [_, _, _, _]) (r' := [_, _, _, _, _, _, _]) f_X7_18 ft_X7_2 rfl rfl dX7_init_28 rfl rfl (Nat.le_of_ble_eq_true rfl) rfl rfl rfl rfl rfl ?_
  refine q_return dX7_init_31 rfl ?_
  exact pX.mk (_, _, _) ⟨rfl, rfl⟩ rfl rfl

