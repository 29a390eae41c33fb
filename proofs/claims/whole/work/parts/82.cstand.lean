/-! ===== Rules, Stand ===== -/
abbrev rQ (b0 al : Nat) : List (Option Nat) := [some b0, some al, none]
theorem perm_front (A B R : va_W) : (A ++ (B ++ R)).Perm ((B ++ A) ++ R) := by
  rw [← List.append_assoc]
  exact List.Perm.append_right R List.perm_append_comm
theorem split_at {P : List RuR} {j : Nat} {u : RuR} (h : P[j]? = some u) : P = P.take j ++ u :: P.drop (j + 1) := by
  obtain ⟨h1, h2⟩ := List.getElem?_eq_some_iff.mp h
  rw [← h2, ← List.drop_eq_getElem_cons h1, List.take_append_drop]
/-- rules: the pool has each; who plays by which -/
def RsO (num : Nat) (bf : Sc) (af : Nat → Option Nat) (P : List RuR) (Rl : Nat → RLs) : Prop := num ≤ 6 ∧ (∀ w, w < num → ∃ (j : Nat) (u : RuR), P[j]? = some u ∧ af w = some u.1 ∧ CdO (Rl w) u.2.2.2.1 u.2.2.2.2.1) ∧ (∀ p, p ≤ 1 → bf p = -1 ∨ ∃ w : Nat, w < num ∧ bf p = nI w)
theorem RsO.sa {num : Nat} {bf : Sc} {af : Nat → Option Nat} {P Q : List RuR} {Rl : Nat → RLs} (h : RsO num bf af P Rl) (hs : SaP P Q) : RsO num bf af Q Rl := by
  refine ⟨h.1, fun w hw => ?_, h.2.2⟩
  obtain ⟨j, u, h1, h2, h3⟩ := h.2.1 w hw
  obtain ⟨pf, h4⟩ := hs.get j u h1
  exact ⟨j, ruP u pf, h4, h2, h3⟩
def rsV (bf : Sc) (Rl : Nat → RLs) (sc : Sc) (p : Nat) : Int32 := if bf p = -1 then 0 else stL (faV sc (nI p)) (Rl (bf p).toNatClampNeg)
theorem c_X6_styleOf {l : Launch} {g : Gh} {q b0 al s num p : Nat} {i bf sc : Sc} {af : Nat → Option Nat} {P : List RuR} {Rl : Nat → RLs} (hi : i 2 = nI num) (hO : RsO num bf af P Rl) (hp : p ≤ 1) : Ce l g yX6_styleOf (Cond.code yX6_styleOf cX6_styleOf 4 (some .int)) 4 [.ref q, .int (nI p), .ref s] ([(q, ob 6 i (rQ b0 al)), (b0, aI g 2 bf), (al, aR g 6 af), (s, ob 8 sc [])] ++ plW g P) (fun _ : List RuR => some (.int (rsV bf Rl sc p))) (fun Q : List RuR => [(q, ob 6 i (rQ b0 al)), (b0, aI g 2 bf), (al, aR g 6 af), (s, ob 8 sc [])] ++ plW g Q) (fun Q : List RuR => SaP P Q) := by
  refine ct_of (M := mtX6_styleOf) [some (.ref q), some (.int (nI p)), some (.ref s), none] rfl (by decide) (Nat.le_of_ble_eq_true rfl) (fun _ h => h) (fun a => ?_)
  unfold rsV
  rcases hO.2.2 p hp with hb | ⟨w, hw, hb⟩
  · rw [if_pos hb]
    refine q_aload_n 0 1 dX6_styleOf_0 rfl rfl rfl ?_
    refine q_getR 0 4 f_X6_9 dX6_styleOf_1 rfl rfl rfl rfl ?_
    refine q_iload_n 1 5 dX6_styleOf_4 rfl rfl rfl ?_
    refine q_iald 1 p 6 dX6_styleOf_5 rfl ⟨rfl, by omega, by decide⟩ rfl ?_
    rw [hb]
    refine q_istore_n 3 7 (L' := [_, _, _, _]) dX6_styleOf_6 rfl (by decide) rfl rfl ?_
    refine q_iload_n 3 8 dX6_styleOf_7 rfl rfl rfl ?_
    refine q_if_lt 28 11 dX6_styleOf_8 (by decide) rfl (fun h8 => ?_) (fun h8 => absurd (by decide) h8)
    refine q_iconst 0 29 dX6_styleOf_28 ic_0 rfl ?_
    refine q_ireturn dX6_styleOf_29 rfl ?_
    exact pE.mk P (SaP.rf P) rfl rfl
  · have hw6 := hO.1
    have hne : ¬ bf p = -1 := by rw [hb]; exact nI_nm1 (by omega)
    rw [if_neg hne]
    obtain ⟨j, u, h1, h2, h3⟩ := hO.2.1 w hw
    have hcl : (bf p).toNatClampNeg = w := by rw [hb, nI_clamp (by omega)]
    rw [hcl]
    have hge : ¬ nI w < 0 := nI_pos (by omega)
    have hlt : ¬ i 2 ≤ nI w := by rw [hi]; exact nI_ge hw (by omega)
    have hsp := split_at h1
    generalize P.take j = P1 at *
    generalize P.drop (j + 1) = P2 at *
    subst hsp
    have hc1 := fun pf : Sc => c_X4_styleOf (l := l) (g := g) (a0 := u.1) (cc := u.2.1) (pp := u.2.2.1) (q := s) (pf := pf) (s := sc) (p := nI p) h3
    generalize stL (faV sc (nI p)) (Rl w) = v9 at *
    refine q_aload_n 0 1 dX6_styleOf_0 rfl rfl rfl ?_
    refine q_getR 0 4 f_X6_9 dX6_styleOf_1 rfl rfl rfl rfl ?_
    refine q_iload_n 1 5 dX6_styleOf_4 rfl rfl rfl ?_
    refine q_iald 1 p 6 dX6_styleOf_5 rfl ⟨rfl, by omega, by decide⟩ rfl ?_
    rw [hb]
    refine q_istore_n 3 7 (L' := [_, _, _, _]) dX6_styleOf_6 rfl (by decide) rfl rfl ?_
    refine q_iload_n 3 8 dX6_styleOf_7 rfl rfl rfl ?_
    refine q_if_lt 28 11 dX6_styleOf_8 (by decide) rfl (fun h8 => absurd h8 hge) (fun h8 => ?_)
    refine q_iload_n 3 12 dX6_styleOf_11 rfl rfl rfl ?_
    refine q_aload_n 0 13 dX6_styleOf_12 rfl rfl rfl ?_
    refine q_getI 0 16 f_X6_21 dX6_styleOf_13 rfl rfl rfl ?_
    refine q_icmp_ge 28 19 dX6_styleOf_16 (by decide) rfl (fun h16 => absurd h16 hlt) (fun h16 => ?_)
    refine q_aload_n 0 20 dX6_styleOf_19 rfl rfl rfl ?_
    refine q_getR 0 23 f_X6_17 dX6_styleOf_20 rfl rfl rfl rfl ?_
    refine q_iload_n 3 24 dX6_styleOf_23 rfl rfl rfl ?_
    refine q_aald 2 w 25 dX6_styleOf_24 rfl ⟨rfl, by omega, by decide⟩ h2 rfl ?_
    refine q_ifnonnull 30 dX6_styleOf_25 (by decide) ?_
    refine q_aload_n 0 31 dX6_styleOf_30 rfl rfl rfl ?_
    refine q_getR 0 34 f_X6_17 dX6_styleOf_31 rfl rfl rfl rfl ?_
    refine q_iload_n 3 35 dX6_styleOf_34 rfl rfl rfl ?_
    refine q_aald 2 w 36 dX6_styleOf_35 rfl ⟨rfl, by omega, by decide⟩ h2 rfl ?_
    refine q_iload_n 1 37 dX6_styleOf_36 rfl rfl rfl ?_
    refine q_aload_n 2 38 dX6_styleOf_37 rfl rfl rfl ?_
    refine q_perm ((List.Perm.append_left _ (plW_perm g P1 P2 u)).trans (perm_front _ _ _)) ?_
    show WPs l g mtX6_styleOf 4 0 0 _ noX a 38 _ _ ([(u.1, ob 4 (fun _ => 0) [some u.2.1, some u.2.2.1]), (u.2.1, aI g u.2.2.2.1 u.2.2.2.2.1), (u.2.2.1, aI g 40 u.2.2.2.2.2), (q, ob 6 i (rQ b0 al)), (b0, aI g 2 bf), (al, aR g 6 af), (s, ob 8 sc [])] ++ plW g (P1 ++ P2)) _ _
    refine q_txVi 0 [0, 1, 2, 6] [3, 4, 5] [3, 4, 5, 0, 1, 2, 6] 41 (wr := [_, _, _]) (w1 := _) (ws' := fun _ => [_, _, _, _, _, _, _]) (hc1 u.2.2.2.2.2) m_X6_28 dX6_styleOf_38 rfl rfl rfl rfl rfl rfl rfl (fun _ => rfl) (by decide) (by decide) (by decide) (by decide) (Nat.le_of_ble_eq_true rfl) (by omega) (by omega) (by omega) rfl (fun pf9 _ => ?_)
    refine q_perm (ws' := [(q, ob 6 i (rQ b0 al)), (b0, aI g 2 bf), (al, aR g 6 af), (s, ob 8 sc [])] ++ plW g (P1 ++ ruP u pf9 :: P2)) ((List.Perm.append_left _ (plW_perm g P1 P2 (ruP u pf9))).trans (perm_front _ _ _)).symm ?_
    refine q_ireturn dX6_styleOf_41 rfl ?_
    exact pE.mk (P1 ++ ruP u pf9 :: P2) (SaP.mid P1 u pf9 P2) rfl rfl
theorem plW_get (g : Gh) : ∀ (P : List RuR) (j : Nat) (u : RuR), P[j]? = some u → (plW g P)[3 * j]? = some (u.1, ob 4 (fun _ => 0) [some u.2.1, some u.2.2.1])
  | [], j, u, h => by simp at h
  | v :: P, 0, u, h => by
    have : v = u := by simpa using h
    subst this
    rfl
  | v :: P, j + 1, u, h => by
    have h2 : P[j]? = some u := by simpa using h
    have h3 := plW_get g P j u h2
    rw [plW_cons, List.getElem?_append_right (by show 3 ≤ _; omega)]
    show (plW g P)[3 * (j + 1) - 3]? = _
    rw [show 3 * (j + 1) - 3 = 3 * j by omega]
    exact h3
theorem get_r {ws T : va_W} {n k : Nat} {e : Nat × va_E} (hl : ws.length = n) (h : T[k]? = some e) : (ws ++ T)[n + k]? = some e := by
  rw [List.getElem?_append_right (by omega), hl, Nat.add_sub_cancel_left]
  exact h
def cpR (f h : Nat → Option Nat) (j : Nat) : Nat → Option Nat := fun k => if k < j then h k else f k
theorem cpR_0 (f h : Nat → Option Nat) : cpR f h 0 = f := by funext k; simp [cpR]
theorem cpR_s (f h : Nat → Option Nat) (j : Nat) : va_up (cpR f h j) j (h j) = cpR f h (j + 1) := by
  funext k
  by_cases hk : k = j
  · subst hk; simp [cpR, va_up]
  · by_cases h2 : k < j
    · simp [cpR, va_up, hk, h2, Nat.lt_succ_of_lt h2]
    · have : ¬ k < j + 1 := by omega
      simp [cpR, va_up, hk, h2, this]
theorem c_X6_takeFrom {l : Launch} {g : Gh} {q b0 al q1 b1 al1 num : Nat} {i bf i1 bf1 : Sc} {af af1 : Nat → Option Nat} {P : List RuR} {Rl : Nat → RLs} (hi : i1 2 = nI num) (hO : RsO num bf1 af1 P Rl) : Cp l g yX6_takeFrom (Cond.code yX6_takeFrom cX6_takeFrom 3 none) 1 [.ref q, .ref q1] ([(q, ob 6 i (rQ b0 al)), (b0, aI g 2 bf), (al, aR g 6 af), (q1, ob 6 i1 (rQ b1 al1)), (b1, aI g 2 bf1), (al1, aR g 6 af1)] ++ plW g P) none ([(q, ob 6 (upd i 2 (nI num)) (rQ b0 al)), (b0, aI g 2 bf1), (al, aR g 6 (cpR af af1 num)), (q1, ob 6 i1 (rQ b1 al1)), (b1, aI g 2 bf1), (al1, aR g 6 af1)] ++ plW g P) := by
  refine ct_of (M := mtX6_takeFrom) [some (.ref q), some (.ref q1), none] rfl (by decide) (Nat.le_of_ble_eq_true rfl) (fun _ h => h) (fun a => ?_)
  have hn6 := hO.1
  have K10 : ∀ (c j : Nat), c + j = num → WPs l g mtX6_takeFrom 1 0 0 (pR none ([(q, ob 6 (upd i 2 (nI num)) (rQ b0 al)), (b0, aI g 2 bf1), (al, aR g 6 (cpR af af1 num)), (q1, ob 6 i1 (rQ b1 al1)), (b1, aI g 2 bf1), (al1, aR g 6 af1)] ++ plW g P)) noX a 10 [some (.ref q), some (.ref q1), some (.int (nI j))] [] ([(q, ob 6 (upd i 2 (nI num)) (rQ b0 al)), (b0, aI g 2 bf), (al, aR g 6 (cpR af af1 j)), (q1, ob 6 i1 (rQ b1 al1)), (b1, aI g 2 bf1), (al1, aR g 6 af1)] ++ plW g P) 0 0 := by
    intro c
    induction c with
    | zero =>
      intro j hj
      obtain rfl : j = num := by omega
      have hge : upd i 2 (nI j) 2 ≤ nI j := Int32.le_refl _
      refine q_iload_n 2 11 dX6_takeFrom_10 rfl rfl rfl ?_
      refine q_aload_n 0 12 dX6_takeFrom_11 rfl rfl rfl ?_
      refine q_getI 0 15 f_X6_21 dX6_takeFrom_12 rfl rfl rfl ?_
      refine q_icmp_ge 36 18 dX6_takeFrom_15 (by decide) rfl (fun h15 => ?_) (fun h15 => absurd hge h15)
      refine q_aload_n 0 37 dX6_takeFrom_36 rfl rfl rfl ?_
      refine q_getR 0 40 f_X6_9 dX6_takeFrom_37 rfl rfl rfl rfl ?_
      refine q_iconst 0 41 dX6_takeFrom_40 ic_0 rfl ?_
      refine q_aload_n 1 42 dX6_takeFrom_41 rfl rfl rfl ?_
      refine q_getR 3 45 f_X6_9 dX6_takeFrom_42 rfl rfl rfl rfl ?_
      refine q_iconst 0 46 dX6_takeFrom_45 ic_0 rfl ?_
      refine q_iald 4 0 47 dX6_takeFrom_46 rfl ⟨by decide, by decide, by decide⟩ rfl ?_
      refine q_iast 1 0 48 (w' := ([_, _, _, _, _, _] ++ _)) dX6_takeFrom_47 rfl ⟨by decide, by decide, by decide⟩ rfl rfl ?_
      refine q_aload_n 0 49 dX6_takeFrom_48 rfl rfl rfl ?_
      refine q_getR 0 52 f_X6_9 dX6_takeFrom_49 rfl rfl rfl rfl ?_
      refine q_iconst 1 53 dX6_takeFrom_52 ic_1 rfl ?_
      refine q_aload_n 1 54 dX6_takeFrom_53 rfl rfl rfl ?_
      refine q_getR 3 57 f_X6_9 dX6_takeFrom_54 rfl rfl rfl rfl ?_
      refine q_iconst 1 58 dX6_takeFrom_57 ic_1 rfl ?_
      refine q_iald 4 1 59 dX6_takeFrom_58 rfl ⟨by decide, by decide, by decide⟩ rfl ?_
      refine q_iast 1 1 60 (w' := ([_, _, _, _, _, _] ++ _)) dX6_takeFrom_59 rfl ⟨by decide, by decide, by decide⟩ rfl rfl ?_
      refine q_ax 1 bf1 rfl (fun k hk => ?_) rfl ?_
      · match k, hk with
        | 0, _ => rfl
        | 1, _ => rfl
        | (k + 2), hk => omega
      refine q_return dX6_takeFrom_60 rfl ?_
      exact pR.rf
    | succ c ih =>
      intro j hj
      have hlt : ¬ upd i 2 (nI num) 2 ≤ nI j := nI_ge (by omega) (by omega)
      obtain ⟨jj, u, h1, h2, h3⟩ := hO.2.1 j (by omega)
      have hpl := get_r (ws := [(q, ob 6 (upd i 2 (nI num)) (rQ b0 al)), (b0, aI g 2 bf), (al, aR g 6 (cpR af af1 j)), (q1, ob 6 i1 (rQ b1 al1)), (b1, aI g 2 bf1), (al1, aR g 6 af1)]) (n := 6) rfl (plW_get g P jj u h1)
      have K1 := ih (j + 1) (by omega)
      rw [← cpR_s, h2] at K1
      clear ih
      refine q_iload_n 2 11 dX6_takeFrom_10 rfl rfl rfl ?_
      refine q_aload_n 0 12 dX6_takeFrom_11 rfl rfl rfl ?_
      refine q_getI 0 15 f_X6_21 dX6_takeFrom_12 rfl rfl rfl ?_
      refine q_icmp_ge 36 18 dX6_takeFrom_15 (by decide) rfl (fun h15 => absurd h15 hlt) (fun h15 => ?_)
      refine q_aload_n 0 19 dX6_takeFrom_18 rfl rfl rfl ?_
      refine q_getR 0 22 f_X6_17 dX6_takeFrom_19 rfl rfl rfl rfl ?_
      refine q_iload_n 2 23 dX6_takeFrom_22 rfl rfl rfl ?_
      refine q_aload_n 1 24 dX6_takeFrom_23 rfl rfl rfl ?_
      refine q_getR 3 27 f_X6_17 dX6_takeFrom_24 rfl rfl rfl rfl ?_
      refine q_iload_n 2 28 dX6_takeFrom_27 rfl rfl rfl ?_
      refine q_aald 5 j 29 dX6_takeFrom_28 rfl ⟨rfl, by omega, by decide⟩ h2 rfl ?_
      refine q_aast (c9 := 0) 2 (6 + 3 * jj) j 30 (w' := ([_, _, _, _, _, _] ++ _)) dX6_takeFrom_29 rfl hpl ⟨rfl, by omega, by decide⟩ rfl rfl ?_
      refine q_iinc 2 (nI (j + 1)) 33 (L' := [_, _, _]) dX6_takeFrom_30 rfl (inc1 (j)) (by decide) rfl rfl ?_
      refine q_goto 10 dX6_takeFrom_33 (by decide) ?_
      exact K1
  have K1 := K10 num 0 rfl
  rw [cpR_0] at K1
  clear K10
  refine q_aload_n 0 1 dX6_takeFrom_0 rfl rfl rfl ?_
  refine q_aload_n 1 2 dX6_takeFrom_1 rfl rfl rfl ?_
  refine q_getI 3 5 f_X6_21 dX6_takeFrom_2 rfl rfl rfl ?_
  rw [hi]
  refine q_putI 0 8 (w' := ([_, _, _, _, _, _] ++ _)) f_X6_21 ft_X6_2 dX6_takeFrom_5 rfl rfl rfl rfl ?_
  refine q_iconst 0 9 dX6_takeFrom_8 ic_0 rfl ?_
  refine q_istore_n 2 10 (L' := [_, _, _]) dX6_takeFrom_9 rfl (by decide) rfl rfl ?_
  exact K1
theorem nn_X6_15 : Cond.classLink RX6 15 RX4 ∈ TT := TT_of (by decide +kernel) rfl
theorem c_X6_init {l : Launch} {g : Gh} {q : Nat} : Cn l g yX6_init (Cond.code yX6_init cX6_init 1 none) 1 2 8 [.ref q] [(q, ob 6 (fun _ => 0) (List.replicate 3 none))] (fun _ : Nat × Nat => none) (fun z : Nat × Nat => [(q, ob 6 (fun _ => 0) (rQ z.1 z.2)), (z.1, aI g 2 (fun _ => -1)), (z.2, aR g 6 (fun _ => none))]) (fun _ k m => k = 2 ∧ m = 8) := by
  refine ct_of (M := mtX6_init) [some (.ref q)] rfl (by decide) (Nat.le_of_ble_eq_true rfl) (fun _ h => h) (fun a => ?_)
  refine q_aload_n 0 1 dX6_init_0 rfl rfl rfl ?_
  refine q_objInit 4 m_X6_3 dX6_init_1 (Nat.le_of_ble_eq_true rfl) (by decide) rfl ?_
  refine q_aload_n 0 5 dX6_init_4 rfl rfl rfl ?_
  refine q_iconst 2 6 dX6_init_5 ic_2 rfl ?_
  refine q_newI (N := 2) 8 dX6_init_6 rfl (by decide) (by omega) (by omega) rfl (fun q6 => ?_)
  refine q_dup 9 dX6_init_8 rfl rfl ?_
  refine q_iconst 0 10 dX6_init_9 ic_0 rfl ?_
  refine q_iconst (-1) 11 dX6_init_10 ic_m1 rfl ?_
  refine q_iast 1 0 12 (w' := [_, _]) dX6_init_11 rfl ⟨by decide, by decide, by decide⟩ rfl rfl ?_
  refine q_dup 13 dX6_init_12 rfl rfl ?_
  refine q_iconst 1 14 dX6_init_13 ic_1 rfl ?_
  refine q_iconst (-1) 15 dX6_init_14 ic_m1 rfl ?_
  refine q_iast 1 1 16 (w' := [_, _]) dX6_init_15 rfl ⟨by decide, by decide, by decide⟩ rfl rfl ?_
  refine q_ax 1 (fun _ => -1) rfl (fun k hk => ?_) rfl ?_
  · match k, hk with
    | 0, _ => rfl
    | 1, _ => rfl
    | (k + 2), hk => omega
  refine q_putRF 0 19 (w' := [_, _]) (r' := [_, _, _]) f_X6_9 ft_X6_0 rfl rfl dX6_init_16 rfl rfl (Nat.le_of_ble_eq_true rfl) rfl rfl rfl rfl rfl ?_
  refine q_aload_n 0 20 dX6_init_19 rfl rfl rfl ?_
  refine q_bipush 6 22 dX6_init_20 bc_6 rfl ?_
  refine q_newR (N := 6) 25 nn_X6_15 dX6_init_22 rfl (by decide) (by omega) (by omega) rfl (fun q22 => ?_)
  refine q_putRF 0 28 (w' := [_, _, _]) (r' := [_, _, _]) f_X6_17 ft_X6_1 rfl rfl dX6_init_25 rfl rfl (Nat.le_of_ble_eq_true rfl) rfl rfl rfl rfl rfl ?_
  refine q_return dX6_init_28 rfl ?_
  exact pX.mk (_, _) ⟨rfl, rfl⟩ rfl rfl
theorem c_X6_add {l : Launch} {g : Gh} {q b0 al cc n num : Nat} {i f : Sc} {af : Nat → Option Nat} (hi : i 2 = nI num) (hn : num < 6) : Cn l g yX6_add (Cond.code yX6_add cX6_add 2 (some .int)) 3 2 42 [.ref q, .ref cc] [(q, ob 6 i (rQ b0 al)), (al, aR g 6 af), (cc, aI g n f)] (fun _ : Nat × Nat => some (.int (nI num))) (fun z : Nat × Nat => [(q, ob 6 (upd i 2 (nI (num + 1))) (rQ b0 al)), (al, aR g 6 (va_up af num (some z.1))), (cc, aI g n f), (z.1, ob 4 (fun _ => 0) [some cc, some z.2]), (z.2, aI g 40 (fun _ => 0))]) (fun _ k m => k = 2 ∧ m = 42) := by
  refine ct_of (M := mtX6_add) [some (.ref q), some (.ref cc)] rfl (by decide) (Nat.le_of_ble_eq_true rfl) (fun _ h => h) (fun a => ?_)
  have hlt : i 2 < 6 := by rw [hi]; exact nI_lt (b := 6) hn (by decide)
  refine q_aload_n 0 1 dX6_add_0 rfl rfl rfl ?_
  refine q_getI 0 4 f_X6_21 dX6_add_1 rfl rfl rfl ?_
  refine q_bipush 6 6 dX6_add_4 bc_6 rfl ?_
  refine q_icmp_lt 11 9 dX6_add_6 (by decide) rfl (fun h6 => ?_) (fun h6 => absurd hlt h6)
  refine q_aload_n 0 12 dX6_add_11 rfl rfl rfl ?_
  refine q_getR 0 15 f_X6_17 dX6_add_12 rfl rfl rfl rfl ?_
  refine q_aload_n 0 16 dX6_add_15 rfl rfl rfl ?_
  refine q_getI 0 19 f_X6_21 dX6_add_16 rfl rfl rfl ?_
  refine q_new (N := 2) 22 n_X6_15 rfl dX6_add_19 (by omega) (by omega) rfl (fun q19 => ?_)
  refine q_dup 23 dX6_add_22 rfl rfl ?_
  refine q_aload_n 1 24 dX6_add_23 rfl rfl rfl ?_
  refine q_yIv [3, 2] [0, 1] [0, 1, 3, 2, 4] 27 (wr := [_, _]) (w1 := _) (ws' := fun _ => [_, _, _, _, _]) (c_X4_init (n := n) (f := f)) m_X6_25 dX6_add_24 rfl rfl rfl rfl (fun _ => rfl) (by decide) (by decide) (by decide) (by decide) (Nat.le_of_ble_eq_true rfl) (by omega) (by omega) (by omega) rfl (fun pp24 k24 n24 hx24 => ?_)
  refine q_aast (c9 := 0) 1 3 num 28 (w' := [_, _, _, _, _]) dX6_add_27 rfl rfl ⟨hi, by omega, by decide⟩ rfl rfl ?_
  refine q_aload_n 0 29 dX6_add_28 rfl rfl rfl ?_
  refine q_dup 30 dX6_add_29 rfl rfl ?_
  refine q_getI 0 33 f_X6_21 dX6_add_30 rfl rfl rfl ?_
  refine q_dup_x1 34 dX6_add_33 rfl rfl rfl ?_
  refine q_iconst 1 35 dX6_add_34 ic_1 rfl ?_
  refine q_iadd 36 dX6_add_35 rfl ?_
  rw [hi, nI_1]
  refine q_putI 0 39 (w' := [_, _, _, _, _]) f_X6_21 ft_X6_2 dX6_add_36 rfl rfl rfl rfl ?_
  refine q_ireturn dX6_add_39 rfl ?_
  exact pX.mk (_, _) (by obtain ⟨h1, h2⟩ := hx24; exact ⟨by omega, by omega⟩) rfl rfl
/-- Stand's fields: laws, rules, score -/
abbrev rD (la ru so : Nat) : List (Option Nat) := [some la, some ru, some so]
def sv0 (sc : Sc) : Nat := (sc 2).toNatClampNeg
def paV (bf : Sc) (Rl : Nat → RLs) (sc : Sc) : Int32 := rsV bf Rl sc (sv0 sc) * 4 + rsV bf Rl sc (1 - sv0 sc)
theorem c_X10_pairOf {l : Launch} {g : Gh} {d0 la so q b0 al s num : Nat} {i bf sc : Sc} {af : Nat → Option Nat} {P : List RuR} {Rl : Nat → RLs} (hi : i 2 = nI num) (hO : RsO num bf af P Rl) (hs : sc 2 = 0 ∨ sc 2 = 1) : Ce l g yX10_pairOf (Cond.code yX10_pairOf cX10_pairOf 2 (some .int)) 5 [.ref d0, .ref s] ([(d0, ob 10 (fun _ => 0) (rD la q so)), (q, ob 6 i (rQ b0 al)), (b0, aI g 2 bf), (al, aR g 6 af), (s, ob 8 sc [])] ++ plW g P) (fun _ : List RuR => some (.int (paV bf Rl sc))) (fun Q : List RuR => [(d0, ob 10 (fun _ => 0) (rD la q so)), (q, ob 6 i (rQ b0 al)), (b0, aI g 2 bf), (al, aR g 6 af), (s, ob 8 sc [])] ++ plW g Q) (fun Q : List RuR => SaP P Q) := by
  refine ct_of (M := mtX10_pairOf) [some (.ref d0), some (.ref s)] rfl (by decide) (Nat.le_of_ble_eq_true rfl) (fun _ h => h) (fun a => ?_)
  obtain ⟨p, hp, e2⟩ : ∃ p : Nat, p ≤ 1 ∧ sc 2 = nI p := by
    rcases hs with h | h
    · exact ⟨0, by decide, h⟩
    · exact ⟨1, by decide, h⟩
  have e3 : (1 : Int32) - nI p = nI (1 - p) := pk_sub hp
  have ev : sv0 sc = p := by unfold sv0; rw [e2, nI_clamp (by omega)]
  unfold paV
  rw [ev]
  refine q_aload_n 0 1 dX10_pairOf_0 rfl rfl rfl ?_
  refine q_getR 0 4 f_X10_21 dX10_pairOf_1 rfl rfl rfl rfl ?_
  refine q_aload_n 1 5 dX10_pairOf_4 rfl rfl rfl ?_
  refine q_getI 4 8 f_X10_42 dX10_pairOf_5 rfl rfl rfl ?_
  rw [e2]
  refine q_aload_n 1 9 dX10_pairOf_8 rfl rfl rfl ?_
  refine q_uxVi 1 [1, 2, 3, 4] [0] [0, 1, 2, 3, 4] 12 (wr := [_]) (w1 := _) (ws' := fun _ => [_, _, _, _, _]) (c_X6_styleOf (num := num) (Rl := Rl) hi hO hp) m_X10_46 dX10_pairOf_9 rfl rfl rfl rfl rfl rfl rfl (fun _ => rfl) (by decide) (by decide) (by decide) (by decide) (Nat.le_of_ble_eq_true rfl) (by omega) (by omega) (by omega) rfl (fun Q9 hx9 => ?_)
  refine q_iconst 4 13 dX10_pairOf_12 ic_4 rfl ?_
  refine q_imul 14 dX10_pairOf_13 rfl ?_
  refine q_aload_n 0 15 dX10_pairOf_14 rfl rfl rfl ?_
  refine q_getR 0 18 f_X10_21 dX10_pairOf_15 rfl rfl rfl rfl ?_
  refine q_iconst 1 19 dX10_pairOf_18 ic_1 rfl ?_
  refine q_aload_n 1 20 dX10_pairOf_19 rfl rfl rfl ?_
  refine q_getI 4 23 f_X10_42 dX10_pairOf_20 rfl rfl rfl ?_
  refine q_isub 24 dX10_pairOf_23 rfl ?_
  rw [e2, e3]
  refine q_aload_n 1 25 dX10_pairOf_24 rfl rfl rfl ?_
  refine q_uxVi 1 [1, 2, 3, 4] [0] [0, 1, 2, 3, 4] 28 (wr := [_]) (w1 := _) (ws' := fun _ => [_, _, _, _, _]) (c_X6_styleOf (num := num) (Rl := Rl) hi (hO.sa hx9) (by omega)) m_X10_46 dX10_pairOf_25 rfl rfl rfl rfl rfl rfl rfl (fun _ => rfl) (by decide) (by decide) (by decide) (by decide) (Nat.le_of_ble_eq_true rfl) (by omega) (by omega) (by omega) rfl (fun Q25 hx25 => ?_)
  refine q_iadd 29 dX10_pairOf_28 rfl ?_
  refine q_ireturn dX10_pairOf_29 rfl ?_
  exact pE.mk Q25 (hx9.tr hx25) rfl rfl
theorem c_X10_takeFrom {l : Launch} {g : Gh} {sd sla sc sru sb sal sso ud ula uc uru ub ual uso num : Nat} {li ch ri bf x lj dh rj bg y : Sc} {af ag : Nat → Option Nat} {P : List RuR} {Rl : Nat → RLs} (hi : rj 2 = nI num) (hO : RsO num bg ag P Rl) (hz : y 6 = 0 ∨ y 6 = 1) : Cp l g yX10_takeFrom (Cond.code yX10_takeFrom cX10_takeFrom 2 none) 2 [.ref sd, .ref ud] ([(sd, ob 10 (fun _ => 0) (rD sla sru sso)), (sla, ob 0 li (rL sc)), (sc, aI g 192 ch), (sru, ob 6 ri (rQ sb sal)), (sb, aI g 2 bf), (sal, aR g 6 af), (sso, ob 8 x []), (ud, ob 10 (fun _ => 0) (rD ula uru uso)), (ula, ob 0 lj (rL uc)), (uc, aI g 192 dh), (uru, ob 6 rj (rQ ub ual)), (ub, aI g 2 bg), (ual, aR g 6 ag), (uso, ob 8 y [])] ++ plW g P) none ([(sd, ob 10 (fun _ => 0) (rD sla sru sso)), (sla, ob 0 (lTk li lj) (rL sc)), (sc, aI g 192 dh), (sru, ob 6 (upd ri 2 (nI num)) (rQ sb sal)), (sb, aI g 2 bg), (sal, aR g 6 (cpR af ag num)), (sso, ob 8 y []), (ud, ob 10 (fun _ => 0) (rD ula uru uso)), (ula, ob 0 lj (rL uc)), (uc, aI g 192 dh), (uru, ob 6 rj (rQ ub ual)), (ub, aI g 2 bg), (ual, aR g 6 ag), (uso, ob 8 y [])] ++ plW g P) := by
  refine ct_of (M := mtX10_takeFrom) [some (.ref sd), some (.ref ud)] rfl (by decide) (Nat.le_of_ble_eq_true rfl) (fun _ h => h) (fun a => ?_)
  refine q_aload_n 0 1 dX10_takeFrom_0 rfl rfl rfl ?_
  refine q_getR 0 4 f_X10_12 dX10_takeFrom_1 rfl rfl rfl rfl ?_
  refine q_aload_n 1 5 dX10_takeFrom_4 rfl rfl rfl ?_
  refine q_getR 7 8 f_X10_12 dX10_takeFrom_5 rfl rfl rfl rfl ?_
  refine q_tcVv 1 [1, 2, 8, 9] [0, 3, 4, 5, 6, 7, 10, 11, 12, 13] [0, 10, 11, 1, 2, 3, 4, 5, 12, 13, 6, 7, 8, 9] 11 (wr := [_, _, _, _, _, _, _, _, _, _]) (w1 := _) (ws' := [_, _, _, _, _, _, _, _, _, _, _, _, _, _]) c_X0_takeFrom m_X10_32 dX10_takeFrom_8 rfl rfl rfl rfl rfl rfl rfl rfl (by decide) (by decide) (by decide) (by decide) (Nat.le_of_ble_eq_true rfl) (by omega) (by omega) (by omega) rfl ?_
  refine q_aload_n 0 12 dX10_takeFrom_11 rfl rfl rfl ?_
  refine q_getR 0 15 f_X10_21 dX10_takeFrom_12 rfl rfl rfl rfl ?_
  refine q_aload_n 1 16 dX10_takeFrom_15 rfl rfl rfl ?_
  refine q_getR 7 19 f_X10_21 dX10_takeFrom_16 rfl rfl rfl rfl ?_
  refine q_ucVv 3 [3, 4, 5, 10, 11, 12] [0, 1, 2, 6, 7, 8, 9, 13] [0, 1, 2, 8, 9, 10, 3, 4, 5, 6, 11, 12, 13, 7] 22 (wr := [_, _, _, _, _, _, _, _]) (w1 := _) (ws' := [_, _, _, _, _, _, _, _, _, _, _, _, _, _]) (c_X6_takeFrom (num := num) (Rl := Rl) hi hO) m_X10_36 dX10_takeFrom_19 rfl rfl rfl rfl rfl rfl rfl rfl (by decide) (by decide) (by decide) (by decide) (Nat.le_of_ble_eq_true rfl) (by omega) (by omega) (by omega) rfl ?_
  refine q_aload_n 0 23 dX10_takeFrom_22 rfl rfl rfl ?_
  refine q_getR 0 26 f_X10_28 dX10_takeFrom_23 rfl rfl rfl rfl ?_
  refine q_aload_n 1 27 dX10_takeFrom_26 rfl rfl rfl ?_
  refine q_getR 7 30 f_X10_28 dX10_takeFrom_27 rfl rfl rfl rfl ?_
  refine q_tcVv 6 [6, 13] [0, 1, 2, 3, 4, 5, 7, 8, 9, 10, 11, 12] [0, 1, 2, 3, 4, 5, 12, 6, 7, 8, 9, 10, 11, 13] 33 (wr := [_, _, _, _, _, _, _, _, _, _, _, _]) (w1 := _) (ws' := [_, _, _, _, _, _, _, _, _, _, _, _, _, _]) (c_X8_takeFrom hz) m_X10_39 dX10_takeFrom_30 rfl rfl rfl rfl rfl rfl rfl rfl (by decide) (by decide) (by decide) (by decide) (Nat.le_of_ble_eq_true rfl) (by omega) (by omega) (by omega) rfl ?_
  refine q_return dX10_takeFrom_33 rfl ?_
  exact pR.rf
theorem c_X10_init {l : Launch} {g : Gh} {sd : Nat} : Cn l g yX10_init (Cond.code yX10_init cX10_init 1 none) 2 6 219 [.ref sd] [(sd, ob 10 (fun _ => 0) (List.replicate 3 none))] (fun _ : Nat × Nat × Nat × Nat × Nat × Nat => none) (fun z : Nat × Nat × Nat × Nat × Nat × Nat => [(sd, ob 10 (fun _ => 0) (rD z.1 z.2.2.1 z.2.2.2.2.2)), (z.1, ob 0 (upd (fun _ => 0) 1 1) (rL z.2.1)), (z.2.1, aI g 192 (mI 16)), (z.2.2.1, ob 6 (fun _ => 0) (rQ z.2.2.2.1 z.2.2.2.2.1)), (z.2.2.2.1, aI g 2 (fun _ => -1)), (z.2.2.2.2.1, aR g 6 (fun _ => none)), (z.2.2.2.2.2, ob 8 (fun _ => 0) [])]) (fun _ k m => k = 6 ∧ m = 219) := by
  refine ct_of (M := mtX10_init) [some (.ref sd)] rfl (by decide) (Nat.le_of_ble_eq_true rfl) (fun _ h => h) (fun a => ?_)
  generalize hM9 : mI 16 = M9
  have hc1 := fun q => c_X0_init (l := l) (g := g) (q := q)
  rw [hM9] at hc1
  refine q_aload_n 0 1 dX10_init_0 rfl rfl rfl ?_
  refine q_objInit 4 m_X10_3 dX10_init_1 (Nat.le_of_ble_eq_true rfl) (by decide) rfl ?_
  refine q_aload_n 0 5 dX10_init_4 rfl rfl rfl ?_
  refine q_new (N := 5) 8 n_X10_9 rfl dX10_init_5 (by omega) (by omega) rfl (fun q5 => ?_)
  refine q_dup 9 dX10_init_8 rfl rfl ?_
  refine q_yIv [1] [0] [0, 1, 2] 12 (wr := [_]) (w1 := _) (ws' := fun _ => [_, _, _]) (hc1 q5) m_X10_11 dX10_init_9 rfl rfl rfl rfl (fun _ => rfl) (by decide) (by decide) (by decide) (by decide) (Nat.le_of_ble_eq_true rfl) (by omega) (by omega) (by omega) rfl (fun c9 k9 n9 hx9 => ?_)
  refine q_putRF 0 15 (w' := [_, _, _]) (r' := [_, _, _]) f_X10_12 ft_X10_0 rfl rfl dX10_init_12 rfl rfl (Nat.le_of_ble_eq_true rfl) rfl rfl rfl rfl rfl ?_
  refine q_aload_n 0 16 dX10_init_15 rfl rfl rfl ?_
  refine q_new (N := 3) 19 n_X10_18 rfl dX10_init_16 (by omega) (by omega) rfl (fun q16 => ?_)
  refine q_dup 20 dX10_init_19 rfl rfl ?_
  refine q_yIv [3] [0, 1, 2] [0, 1, 2, 3, 4, 5] 23 (wr := [_, _, _]) (w1 := _) (ws' := fun _ => [_, _, _, _, _, _]) c_X6_init m_X10_20 dX10_init_20 rfl rfl rfl rfl (fun _ => rfl) (by decide) (by decide) (by decide) (by decide) (Nat.le_of_ble_eq_true rfl) (by omega) (by omega) (by omega) rfl (fun z20 k20 n20 hx20 => ?_)
  obtain ⟨b020, al20⟩ := z20
  dsimp only at hx20 ⊢
  refine q_putRF 0 26 (w' := [_, _, _, _, _, _]) (r' := [_, _, _]) f_X10_21 ft_X10_1 rfl rfl dX10_init_23 rfl rfl (Nat.le_of_ble_eq_true rfl) rfl rfl rfl rfl rfl ?_
  refine q_aload_n 0 27 dX10_init_26 rfl rfl rfl ?_
  refine q_new (N := 11) 30 n_X10_25 rfl dX10_init_27 (by omega) (by omega) rfl (fun q27 => ?_)
  refine q_dup 31 dX10_init_30 rfl rfl ?_
  refine q_axG 6 (ob 8 (fun _ => 0) []) rfl (fun _ h => h) rfl ?_
  refine q_cIv [6] [0, 1, 2, 3, 4, 5] [0, 1, 2, 3, 4, 5, 6] 34 (wr := [_, _, _, _, _, _]) (w1 := _) (ws' := [_, _, _, _, _, _, _]) c_X8_init m_X10_27 dX10_init_31 rfl rfl rfl rfl rfl (by decide) (by decide) (by decide) (by decide) (Nat.le_of_ble_eq_true rfl) (by omega) (by omega) (by omega) rfl ?_
  refine q_putRF 0 37 (w' := [_, _, _, _, _, _, _]) (r' := [_, _, _]) f_X10_28 ft_X10_2 rfl rfl dX10_init_34 rfl rfl (Nat.le_of_ble_eq_true rfl) rfl rfl rfl rfl rfl ?_
  refine q_return dX10_init_37 rfl ?_
  exact pX.mk (_, _, _, _, _, _) (by obtain ⟨h1, h2⟩ := hx9; obtain ⟨h3, h4⟩ := hx20; exact ⟨by omega, by omega⟩) rfl rfl

