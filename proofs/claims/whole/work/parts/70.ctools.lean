/-! ===== the class: arraycopy, copyOf, fill ===== -/
theorem ac_nat : Cond.native arraycopyName ∈ TT := TT_of (by decide +kernel) rfl
theorem ac_sta : Cond.static arraycopyName ∈ TT := TT_of (by decide +kernel) rfl
theorem ac_ini : Cond.initialized "java/lang/System" ∈ TT := TT_of (by decide +kernel) rfl
theorem ac_X0_19 : Cond.methodLink RX0 19 arraycopyName ∈ TT := TT_of (by decide +kernel) rfl
theorem ac_J7_150 : Cond.methodLink RJ7 150 arraycopyName ∈ TT := TT_of (by decide +kernel) rfl
theorem q_copyI {l : Launch} {g : Gh} {M : Mt} {d rc rs : Nat} {post : Pst} {px : Pxc} {a : Act} {pc : Nat} {L : List (Option Value)} {st : List Value} {ws ws' : va_W} {k n : Nat} {i b0 b1 n0 n1 s0 d0 N : Nat} {f f1 : Nat → Int32} {zs zd zn : Int32} (q0 q1 pc' : Nat) (hl0 : Cond.methodLink M.own i arraycopyName ∈ TT) (hd : decode M.cc pc = .ok (.invokestatic i, 3))
    (h0 : ws[q0]? = some (b0, aI g n0 f)) (h1 : ws[q1]? = some (b1, aI g n1 f1)) (hb : (zs = nI s0 ∧ zd = nI d0 ∧ zn = nI N) ∧ s0 + N ≤ n0 ∧ d0 + N ≤ n1 ∧ n0 < 2 ^ 31 ∧ n1 < 2 ^ 31) (hW : (st.map fun v => v.category).sum ≤ 8) (hd1 : 1 ≤ d) (hw : ws.set q1 (b1, aI g n1 (va_cpy f f1 s0 d0 N)) = ws') (hp : pc + 3 = pc') (kk : WPs l g M d rc rs post px a pc' L st ws' k n) : WPs l g M d rc rs post px a pc L (.int zn :: .int zd :: .ref b1 :: .int zs :: .ref b0 :: st) ws k n := by
  intro hE H locs ls hP hD hS hl
  obtain ⟨⟨hx, hbc, hml, hown, hts⟩, hlk, hret, htb, hnm, hA, hK, hO, hT⟩ := id hE
  obtain ⟨⟨rfl, rfl, rfl⟩, g1, g2, g3, g4⟩ := hb
  subst hp; subst hw
  have c1 : (nI s0).toNatClampNeg = s0 := nI_clamp (by omega)
  have c2 : (nI d0).toNatClampNeg = d0 := nI_clamp (by omega)
  have c3 : (nI N).toNatClampNeg = N := nI_clamp (by omega)
  refine va_copyi hx hbc (hml.trans hl.1.symm) hown (hts _ hl0) (hts _ ac_nat) (hts _ ac_sta) (hts _ ac_ini) (D := g.1) (cl := vwCl) (tys := tysG g) hK hP hD hS q0 q1 0 0 (ty := .int) h0 h1 rfl rfl rfl (nI_pos (by omega)) (nI_pos (by omega)) (nI_pos (by omega)) (by rw [c1, c3]; exact g1) (by rw [c2, c3]; exact g2) (fun _ _ => rfl) hd1 (by show _ + (5 + 2 + 11) ≤ 40 * d; omega) hd (fun H1 locs1 hP1 hD1 hS1 => ?_)
  rw [c1, c2, c3] at hP1 hD1
  exact kk hE H1 locs1 ls hP1 hD1 hS1 hl
theorem q_copyJ {l : Launch} {g : Gh} {M : Mt} {d rc rs : Nat} {post : Pst} {px : Pxc} {a : Act} {pc : Nat} {L : List (Option Value)} {st : List Value} {ws ws' : va_W} {k n : Nat} {i b0 b1 n0 n1 s0 d0 N : Nat} {f f1 : Nat → Int64} {zs zd zn : Int32} (q0 q1 pc' : Nat) (hl0 : Cond.methodLink M.own i arraycopyName ∈ TT) (hd : decode M.cc pc = .ok (.invokestatic i, 3))
    (h0 : ws[q0]? = some (b0, aJ g n0 f)) (h1 : ws[q1]? = some (b1, aJ g n1 f1)) (hb : (zs = nI s0 ∧ zd = nI d0 ∧ zn = nI N) ∧ s0 + N ≤ n0 ∧ d0 + N ≤ n1 ∧ n0 < 2 ^ 31 ∧ n1 < 2 ^ 31) (hW : (st.map fun v => v.category).sum ≤ 8) (hd1 : 1 ≤ d) (hw : ws.set q1 (b1, aJ g n1 (va_cpy f f1 s0 d0 N)) = ws') (hp : pc + 3 = pc') (kk : WPs l g M d rc rs post px a pc' L st ws' k n) : WPs l g M d rc rs post px a pc L (.int zn :: .int zd :: .ref b1 :: .int zs :: .ref b0 :: st) ws k n := by
  intro hE H locs ls hP hD hS hl
  obtain ⟨⟨hx, hbc, hml, hown, hts⟩, hlk, hret, htb, hnm, hA, hK, hO, hT⟩ := id hE
  obtain ⟨⟨rfl, rfl, rfl⟩, g1, g2, g3, g4⟩ := hb
  subst hp; subst hw
  have c1 : (nI s0).toNatClampNeg = s0 := nI_clamp (by omega)
  have c2 : (nI d0).toNatClampNeg = d0 := nI_clamp (by omega)
  have c3 : (nI N).toNatClampNeg = N := nI_clamp (by omega)
  refine va_copyl hx hbc (hml.trans hl.1.symm) hown (hts _ hl0) (hts _ ac_nat) (hts _ ac_sta) (hts _ ac_ini) (D := g.1) (cl := vwCl) (tys := tysG g) hK hP hD hS q0 q1 2 2 (ty := .long) h0 h1 rfl rfl rfl (nI_pos (by omega)) (nI_pos (by omega)) (nI_pos (by omega)) (by rw [c1, c3]; exact g1) (by rw [c2, c3]; exact g2) (fun _ _ => rfl) hd1 (by show _ + (5 + 2 + 11) ≤ 40 * d; omega) hd (fun H1 locs1 hP1 hD1 hS1 => ?_)
  rw [c1, c2, c3] at hP1 hD1
  exact kk hE H1 locs1 ls hP1 hD1 hS1 hl
theorem iMin_n {a b : Nat} (ha : a < 2 ^ 31) (hb : b < 2 ^ 31) : iMin (nI a) (nI b) = nI (min a b) := by
  unfold iMin
  by_cases h : nI b < nI a
  · rw [if_pos h]
    have := (nI_ltI hb ha).mp h
    rw [Nat.min_eq_right (by omega)]
  · rw [if_neg h]
    have : ¬ b < a := fun h2 => h ((nI_ltI hb ha).mpr h2)
    rw [Nat.min_eq_left (by omega)]
theorem iMax_n {a b : Nat} (ha : a < 2 ^ 31) (hb : b < 2 ^ 31) : iMax (nI a) (nI b) = nI (max a b) := by
  unfold iMax
  by_cases h : nI a < nI b
  · rw [if_pos h]
    have := (nI_ltI ha hb).mp h
    rw [Nat.max_eq_right (by omega)]
  · rw [if_neg h]
    have : ¬ a < b := fun h2 => h ((nI_ltI ha hb).mpr h2)
    rw [Nat.max_eq_left (by omega)]
/-- a row made longer, or cut -/
def ext (f : Sc) (n N : Nat) : Sc := va_cpy f (fun _ => 0) 0 0 (min n N)
theorem ext_lt (f : Sc) {n N k : Nat} (h : k < n) (h2 : k < N) : ext f n N k = f k := by
  unfold ext
  rw [pk_cpy_in (by omega) (by omega)]
  congr 1
  omega
theorem ext_ge (f : Sc) {n N k : Nat} (h : n ≤ k) : ext f n N k = 0 := by
  unfold ext
  rw [pk_cpy_out (by omega)]
def extJ (f : Nat → Int64) (n N : Nat) : Nat → Int64 := va_cpy f (fun _ => 0) 0 0 (min n N)
theorem extJ_lt (f : Nat → Int64) {n N k : Nat} (h : k < n) (h2 : k < N) : extJ f n N k = f k := by
  unfold extJ
  rw [pk_cpy_in (by omega) (by omega)]
  congr 1
  omega
theorem c_copyI {l : Launch} {g : Gh} {b n N : Nat} {f : Sc} (hn : n < 2 ^ 31) (hN : N ≤ 60000000) (hne : N ≠ n) : Cn l g yJ7_copyOf_59c91 (Cond.code yJ7_copyOf_59c91 cJ7_copyOf_59c91 3 (some (.array .int))) 2 1 N [.ref b, .int (nI N)] [(b, aI g n f)] (fun q : Nat => some (.ref q)) (fun q : Nat => [(b, aI g n f), (q, aI g N (ext f n N))]) (fun _ k m => k = 1 ∧ m = N) := by
  refine ct_of (M := mtJ7_copyOf_59c91) [some (.ref b), some (.int (nI N)), none] rfl (by decide) (Nat.le_of_ble_eq_true rfl) (fun _ h => h) (fun a => ?_)
  have hne2 : ¬ nI N = nI n := fun h => hne ((nI_eq (by omega) hn).mp h)
  unfold ext
  refine q_iload_n 1 1 dJ7_copyOf_59c91_0 rfl rfl rfl ?_
  refine q_aload_n 0 2 dJ7_copyOf_59c91_1 rfl rfl rfl ?_
  refine q_alenI 0 _ 3 dJ7_copyOf_59c91_2 rfl rfl rfl ?_
  refine q_icmp_ne 14 6 dJ7_copyOf_59c91_3 (by decide) rfl (fun h3 => ?_) (fun h3 => absurd h3 hne2)
  refine q_iload_n 1 15 dJ7_copyOf_59c91_14 rfl rfl rfl ?_
  refine q_newI 17 dJ7_copyOf_59c91_15 rfl hN (by omega) (by omega) rfl (fun q15 => ?_)
  refine q_astore_n 2 18 (L' := [_, _, _]) dJ7_copyOf_59c91_17 rfl (by decide) rfl rfl ?_
  refine q_aload_n 0 19 dJ7_copyOf_59c91_18 rfl rfl rfl ?_
  refine q_iconst 0 20 dJ7_copyOf_59c91_19 ic_0 rfl ?_
  refine q_aload_n 2 21 dJ7_copyOf_59c91_20 rfl rfl rfl ?_
  refine q_iconst 0 22 dJ7_copyOf_59c91_21 ic_0 rfl ?_
  refine q_aload_n 0 23 dJ7_copyOf_59c91_22 rfl rfl rfl ?_
  refine q_alenI 0 _ 24 dJ7_copyOf_59c91_23 rfl rfl rfl ?_
  refine q_iload_n 1 25 dJ7_copyOf_59c91_24 rfl rfl rfl ?_
  refine q_mmin 28 mm_J7_304 dJ7_copyOf_59c91_25 (Nat.le_of_ble_eq_true rfl) (by omega) (by omega) (by omega) rfl ?_
  rw [iMin_n hn (by omega)]
  refine q_copyI 0 1 31 (ws' := [_, _]) ac_J7_150 dJ7_copyOf_59c91_28 rfl rfl ⟨⟨(by decide : (0 : Int32) = nI 0), (by decide : (0 : Int32) = nI 0), rfl⟩, by omega, by omega, by omega, by omega⟩ (Nat.le_of_ble_eq_true rfl) (by omega) rfl rfl ?_
  refine q_aload_n 2 32 dJ7_copyOf_59c91_31 rfl rfl rfl ?_
  refine q_areturn dJ7_copyOf_59c91_32 rfl (Or.inr ⟨_, rfl⟩) ?_
  exact pX.mk q15 ⟨by omega, by omega⟩ rfl rfl
theorem c_copyJ {l : Launch} {g : Gh} {b n N : Nat} {f : Nat → Int64} (hn : n < 2 ^ 31) (hN : N ≤ 60000000) (hne : N ≠ n) : Cn l g yJ7_copyOf_c38d5 (Cond.code yJ7_copyOf_c38d5 cJ7_copyOf_c38d5 3 (some (.array .long))) 2 1 N [.ref b, .int (nI N)] [(b, aJ g n f)] (fun q : Nat => some (.ref q)) (fun q : Nat => [(b, aJ g n f), (q, aJ g N (extJ f n N))]) (fun _ k m => k = 1 ∧ m = N) := by
  refine ct_of (M := mtJ7_copyOf_c38d5) [some (.ref b), some (.int (nI N)), none] rfl (by decide) (Nat.le_of_ble_eq_true rfl) (fun _ h => h) (fun a => ?_)
  have hne2 : ¬ nI N = nI n := fun h => hne ((nI_eq (by omega) hn).mp h)
  unfold extJ
  refine q_iload_n 1 1 dJ7_copyOf_c38d5_0 rfl rfl rfl ?_
  refine q_aload_n 0 2 dJ7_copyOf_c38d5_1 rfl rfl rfl ?_
  refine q_alenJ 0 _ 3 dJ7_copyOf_c38d5_2 rfl rfl rfl ?_
  refine q_icmp_ne 14 6 dJ7_copyOf_c38d5_3 (by decide) rfl (fun h3 => ?_) (fun h3 => absurd h3 hne2)
  refine q_iload_n 1 15 dJ7_copyOf_c38d5_14 rfl rfl rfl ?_
  refine q_newJ 17 dJ7_copyOf_c38d5_15 rfl hN (by omega) (by omega) rfl (fun q15 => ?_)
  refine q_astore_n 2 18 (L' := [_, _, _]) dJ7_copyOf_c38d5_17 rfl (by decide) rfl rfl ?_
  refine q_aload_n 0 19 dJ7_copyOf_c38d5_18 rfl rfl rfl ?_
  refine q_iconst 0 20 dJ7_copyOf_c38d5_19 ic_0 rfl ?_
  refine q_aload_n 2 21 dJ7_copyOf_c38d5_20 rfl rfl rfl ?_
  refine q_iconst 0 22 dJ7_copyOf_c38d5_21 ic_0 rfl ?_
  refine q_aload_n 0 23 dJ7_copyOf_c38d5_22 rfl rfl rfl ?_
  refine q_alenJ 0 _ 24 dJ7_copyOf_c38d5_23 rfl rfl rfl ?_
  refine q_iload_n 1 25 dJ7_copyOf_c38d5_24 rfl rfl rfl ?_
  refine q_mmin 28 mm_J7_304 dJ7_copyOf_c38d5_25 (Nat.le_of_ble_eq_true rfl) (by omega) (by omega) (by omega) rfl ?_
  rw [iMin_n hn (by omega)]
  refine q_copyJ 0 1 31 (ws' := [_, _]) ac_J7_150 dJ7_copyOf_c38d5_28 rfl rfl ⟨⟨(by decide : (0 : Int32) = nI 0), (by decide : (0 : Int32) = nI 0), rfl⟩, by omega, by omega, by omega, by omega⟩ (Nat.le_of_ble_eq_true rfl) (by omega) rfl rfl ?_
  refine q_aload_n 2 32 dJ7_copyOf_c38d5_31 rfl rfl rfl ?_
  refine q_areturn dJ7_copyOf_c38d5_32 rfl (Or.inr ⟨_, rfl⟩) ?_
  exact pX.mk q15 ⟨by omega, by omega⟩ rfl rfl
theorem c_fill {l : Launch} {g : Gh} {b n : Nat} {f : Sc} {v : Int32} (hn : n < 2 ^ 31) : Cp l g yJ7_fill_53178 (Cond.code yJ7_fill_53178 cJ7_fill_53178 4 none) 1 [.ref b, .int v] [(b, aI g n f)] none [(b, aI g n (fun _ => v))] := by
  refine ct_of (M := mtJ7_fill_53178) [some (.ref b), some (.int v), none, none] rfl (by decide) (Nat.le_of_ble_eq_true rfl) (fun _ h => h) (fun a => ?_)
  have K : ∀ (c j : Nat), c + j = n → WPs l g mtJ7_fill_53178 1 0 0 (pR none [(b, aI g n (fun _ => v))]) noX a 5 [some (.ref b), some (.int v), some (.int (nI j)), some (.int (nI n))] [] [(b, aI g n (cp f (fun _ => v) j))] 0 0 := by
    intro c
    induction c with
    | zero =>
      intro j hj
      obtain rfl : j = n := by omega
      refine q_ax 0 (fun _ => v) rfl (cp_full f (fun _ => v) j) rfl ?_
      have hge : nI j ≤ nI j := Int32.le_refl _
      refine q_iload_n 2 6 dJ7_fill_53178_5 rfl rfl rfl ?_
      refine q_iload_n 3 7 dJ7_fill_53178_6 rfl rfl rfl ?_
      refine q_icmp_ge 20 10 dJ7_fill_53178_7 (by decide) rfl (fun h7 => ?_) (fun h7 => absurd hge h7)
      refine q_return dJ7_fill_53178_20 rfl ?_
      exact pR.rf
    | succ c ih =>
      intro j hj
      have hlt : ¬ nI n ≤ nI j := nI_ge (by omega) hn
      have K1 := ih (j + 1) (by omega)
      rw [← cp_s f (fun _ => v) j] at K1
      clear ih
      refine q_iload_n 2 6 dJ7_fill_53178_5 rfl rfl rfl ?_
      refine q_iload_n 3 7 dJ7_fill_53178_6 rfl rfl rfl ?_
      refine q_icmp_ge 20 10 dJ7_fill_53178_7 (by decide) rfl (fun h7 => absurd h7 hlt) (fun h7 => ?_)
      refine q_aload_n 0 11 dJ7_fill_53178_10 rfl rfl rfl ?_
      refine q_iload_n 2 12 dJ7_fill_53178_11 rfl rfl rfl ?_
      refine q_iload_n 1 13 dJ7_fill_53178_12 rfl rfl rfl ?_
      refine q_iast 0 j 14 (w' := [_]) dJ7_fill_53178_13 rfl ⟨rfl, by omega, by omega⟩ rfl rfl ?_
      refine q_iinc 2 (nI (j + 1)) 17 (L' := [_, _, _, _]) dJ7_fill_53178_14 rfl (inc1 (j)) (by decide) rfl rfl ?_
      refine q_goto 5 dJ7_fill_53178_17 (by decide) ?_
      exact K1
  have K0 := K n 0 rfl
  rw [cp_0] at K0
  refine q_iconst 0 1 dJ7_fill_53178_0 ic_0 rfl ?_
  refine q_istore_n 2 2 (L' := [_, _, _, _]) dJ7_fill_53178_1 rfl (by decide) rfl rfl ?_
  refine q_aload_n 0 3 dJ7_fill_53178_2 rfl rfl rfl ?_
  refine q_alenI 0 _ 4 dJ7_fill_53178_3 rfl rfl rfl ?_
  refine q_istore_n 3 5 (L' := [_, _, _, _]) dJ7_fill_53178_4 rfl (by decide) rfl rfl ?_
  exact K0

