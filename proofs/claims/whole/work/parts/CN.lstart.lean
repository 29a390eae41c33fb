/-! ===== what holds at the law's begin ===== -/
theorem arr_of {s : State} {args : Array Value} {ty : FieldType} (h : (Cond.arrayClass ty).before args s = true) : ∃ cA, ArrOfT s cA ty ∧ s.vm.findClass ("[" ++ ty.toString) = some cA := by
  obtain ⟨c, k, comp, h1, h2, h3⟩ := Cond.arrayClass_spec h
  exact ⟨c, fun n z => ⟨fun k h => (by cases h), k, h2, comp, h3⟩, h1⟩
theorem arrO_of {s : State} {args : Array Value} {C : String} (h : (Cond.arrayOver (.object C)).before args s = true) : ∃ cA, ArrOfT s cA (.object C) ∧ va_RA s cA (.object C) := by
  obtain ⟨comp, c, k, h1, h2, h3, h4, h5⟩ := Cond.arrayOver_spec h
  exact ⟨c, fun n z => ⟨fun k h => (by cases h), k, h3, comp, h4⟩, k, comp, h3, h4, h1, h5⟩
theorem kn_of {s : State} {args : Array Value} {own : String} {i ci : Nat} (hts : ∀ w ∈ TT, w.before args s = true) (h : NK own i ci) : ∃ p : ClassId × (Nat → Nat), ∀ q, vwCl[ci]? = some q → u_Kn s q.1 q.2.1 q.2.2 p.1 p.2 := by
  obtain ⟨C, T, N, ty, h1, h2, -, -, h5, -⟩ := h
  obtain ⟨cC, iS, hk⟩ := u_known hts h2 (hts _ h5)
  refine ⟨(cC, iS), fun q hq => ?_⟩
  cases Option.some.inj (h1.symm.trans hq)
  exact hk
theorem kn_all {s : State} {args : Array Value} (hts : ∀ w ∈ TT, w.before args s = true) : ∃ D : va_G, ∀ (c : Nat) (q : vw_C), vwCl[c]? = some q → u_Kn s q.1 q.2.1 q.2.2 (D.1 c) (D.2 c) := by
  have h : ∀ c : Nat, ∃ p : ClassId × (Nat → Nat), ∀ q, vwCl[c]? = some q → u_Kn s q.1 q.2.1 q.2.2 p.1 p.2 := by
    intro c
    match c with
    | 0 => exact kn_of hts n_X11_20
    | 1 => exact kn_of hts n_X11_276
    | 2 => exact kn_of hts n_X11_196
    | 3 => exact kn_of hts n_X1_21
    | 4 => exact kn_of hts n_X6_15
    | 5 => exact kn_of hts n_X11_90
    | 6 => exact kn_of hts n_X10_18
    | 7 => exact kn_of hts n_X11_13
    | 8 => exact kn_of hts n_X11_34
    | 9 => exact kn_of hts n_X11_234
    | 10 => exact kn_of hts n_X11_27
    | 11 => exact kn_of hts n_L_8
    | 12 => exact kn_of hts n_L_93
    | (n + 13) =>
      refine ⟨(0, fun _ => 0), fun q hq => ?_⟩
      have : vwCl.length = 13 := rfl
      have h9 := (List.getElem?_eq_some_iff.mp hq).1
      omega
  obtain ⟨D, hD⟩ := Classical.axiomOfChoice h
  exact ⟨(fun c => (D c).1, fun c => (D c).2), fun c q hq => hD c q hq⟩
/-- a literal's cell, its bytes' cell -/
def sK9 (args : Array Value) (s : State) (own : String) (k : Nat) : Nat := match (Term.string own k).eval args s none [] s with
  | some (.ref a) => a
  | _ => 0
def sV9 (args : Array Value) (s : State) (own : String) (k : Nat) : Nat := match (Term.field (Term.string own k) "java/lang/String" "value" "[B").eval args s none [] s with
  | some (.ref a) => a
  | _ => 0
def sCs (e : String × Nat × List Int32) : List Cond := [Cond.exactly (.string e.1 e.2.1) "java/lang/String", Cond.eq (.field (.string e.1 e.2.1) "java/lang/String" "coder" "B") (.int 0), Cond.arrayOf (.field (.string e.1 e.2.1) "java/lang/String" "value" "[B") .byte, Cond.eq (.length (.field (.string e.1 e.2.1) "java/lang/String" "value" "[B")) (.int (Int32.ofNat e.2.2.length))] ++ (List.range e.2.2.length).map (fun j => Cond.eq (.elem (.field (.string e.1 e.2.1) "java/lang/String" "value" "[B") (.int (Int32.ofNat j))) (.int (e.2.2.getD j 0)))
theorem sub_S : (sWords.flatMap sCs).isSublist (flatC (Jvm.Cond.and given_1 narrow_1)) = true := by decide +kernel
theorem sub_C : (cWords.map (fun e => Cond.not (.castable e.1 e.2))).isSublist (flatC (Jvm.Cond.and given_1 narrow_1)) = true := by decide +kernel
theorem mem_R : ∀ e ∈ sRefs, Cond.stringRef e.1 e.2.1 e.2.2 ∈ tables_1 ∧ (e.1, e.2.1) ∈ sWords.map (fun w => (w.1, w.2.1)) := by decide +kernel
theorem mem_N : ∀ e ∈ nWords, Cond.methodLinkNest e.1 e.2.1 e.2.2.1 e.2.2.2 ∈ tables_1 := by decide +kernel
theorem mem_D : ∀ e ∈ dWords, Cond.declares e ∈ tables_1 := by decide +kernel
theorem str_of {args : Array Value} {s : State} {e : String × Nat × List Int32} {A : Nat → Prop} (hl : e.2.2.length < 2 ^ 31) (h : ∀ w ∈ sCs e, w.before args s = true) (hA : ∀ a : Nat, a < s.heap.size → ¬ A a) : (Term.string e.1 e.2.1).eval args s none [] s = some (.ref (sK9 args s e.1 e.2.1)) ∧ va_O "java/lang/String" (sK9 args s e.1 e.2.1) A s s.heap ∧ va_OF "java/lang/String" "coder" "B" (.int 0) (sK9 args s e.1 e.2.1) A s s.heap ∧ va_OF "java/lang/String" "value" "[B" (.ref (sV9 args s e.1 e.2.1)) (sK9 args s e.1 e.2.1) A s s.heap ∧ va_T .byte (sV9 args s e.1 e.2.1) e.2.2.length (fun j => .int (e.2.2.getD j 0)) A s s.heap := by
  have hex := h (Cond.exactly (.string e.1 e.2.1) "java/lang/String") (by simp [sCs])
  have hco := h (Cond.eq (.field (.string e.1 e.2.1) "java/lang/String" "coder" "B") (.int 0)) (by simp [sCs])
  have har := h (Cond.arrayOf (.field (.string e.1 e.2.1) "java/lang/String" "value" "[B") .byte) (by simp [sCs])
  have hle := h (Cond.eq (.length (.field (.string e.1 e.2.1) "java/lang/String" "value" "[B")) (.int (Int32.ofNat e.2.2.length))) (by simp [sCs])
  have hel : ∀ j : Nat, j < e.2.2.length → (Term.elem (.field (.string e.1 e.2.1) "java/lang/String" "value" "[B") (.int (Int32.ofNat j))).eval args s none [] s = some (.int (e.2.2.getD j 0)) := fun j hj => va_eqt (h _ (List.mem_append_right _ (List.mem_map.mpr ⟨j, List.mem_range.mpr hj, rfl⟩)))
  obtain ⟨a, c, cA, kA, q1, q2, q3, q4, q5, q6, -⟩ := Cond.exactly_spec (args := args) (first := s) (o := none) (s := s) (idx := []) (t := .string e.1 e.2.1) (cls := "java/lang/String") hex
  obtain ⟨t, ht, hT⟩ := va_Tof (f := fun j => .int (e.2.2.getD j 0)) (A := A) hl har (va_eqt hle) hel hA
  have e1 : sK9 args s e.1 e.2.1 = a := by unfold sK9; rw [q1]
  have e2 : sV9 args s e.1 e.2.1 = t := by unfold sV9; rw [ht]
  rw [e1, e2]
  exact ⟨q1, ⟨cA, q3, q5, by rw [q6]; exact q2, hA a (Array.getElem?_eq_some_iff.mp q3).1⟩, vk_OFof q1 (va_eqt hco) hA, vk_OFof q1 ht hA, hT⟩
theorem len_S : ∀ e ∈ sWords, e.2.2.length < 2 ^ 31 := by decide +kernel
theorem start_g {args : Array Value} {s : State} (hts : ∀ w ∈ lw_tbl, w.before args s = true) (hgv : (Jvm.Cond.and given_1 narrow_1).before args s = true) : ∃ g : Gh, va_K g.1 vwCl (tysG g) s ∧ Ou g (fun q : Nat => s.heap.size ≤ q) s s.heap := by
  have hA : ∀ a : Nat, a < s.heap.size → ¬ (fun q : Nat => s.heap.size ≤ q) a := fun a h => Nat.not_le.mpr h
  have hTT : ∀ w ∈ TT, w.before args s = true := fun w hw => hts w (List.mem_filter.mp hw).1
  have htb : ∀ w ∈ tables_1, w.before args s = true := fun w hw => hts w (List.mem_append_right _ hw)
  have hF := flat_of_before _ hgv
  obtain ⟨D, hD⟩ := kn_all hTT
  obtain ⟨cI, aI1, aI2⟩ := arr_of (ty := .int) (htb _ (List.mem_of_getElem? (i := 67) (by decide +kernel)))
  obtain ⟨cB, aB1, aB2⟩ := arr_of (ty := .byte) (htb _ (List.mem_of_getElem? (i := 66) (by decide +kernel)))
  obtain ⟨cJ, aJ1, aJ2⟩ := arr_of (ty := .long) (htb _ (List.mem_of_getElem? (i := 1241) (by decide +kernel)))
  have hAO := htb (Cond.arrayOver (.object RX4)) (List.mem_of_getElem? (i := 114) (by decide +kernel))
  obtain ⟨cR, aR1, aR2⟩ := arrO_of hAO
  have hstr := fun (e : String × Nat × List Int32) (he : e ∈ sWords) => str_of (A := fun q : Nat => s.heap.size ≤ q) (len_S e he) (fun w hw => hF w ((List.isSublist_iff_sublist.mp sub_S).subset (List.mem_flatMap.mpr ⟨e, he, hw⟩))) hA
  refine ⟨(D, fun k => if k = 0 then cI else if k = 1 then cB else if k = 2 then cJ else cR, sK9 args s, sV9 args s), ⟨hD, fun k q hq => ?_⟩, ⟨?_, ?_⟩, fun e he => ?_, fun e he => (hstr e he).2, ?_, ?_, fun e he => va_Nw.of rfl (htb _ (mem_N e he)), fun e he => va_Nw.of rfl (htb _ (mem_D e he)), fun e he => va_Nc.of (hF _ ((List.isSublist_iff_sublist.mp sub_C).subset (List.mem_map.mpr ⟨e, he, rfl⟩))), va_AO.of hAO⟩
  · match k, hq with
    | 0, hq => cases hq; exact ⟨aI1, aI2⟩
    | 1, hq => cases hq; exact ⟨aB1, aB2⟩
    | 2, hq => cases hq; exact ⟨aJ1, aJ2⟩
    | 3, hq => cases hq; exact ⟨aR1, aR2⟩
    | (k + 4), hq => simp [tysG] at hq
  · exact vx_Zqof (htb _ (List.mem_of_getElem? (i := 477) (by decide +kernel))) (htb _ (List.mem_of_getElem? (i := 14) (by decide +kernel))) (hF _ (by decide +kernel)) hA
  · exact vx_Zqof (htb _ (List.mem_of_getElem? (i := 479) (by decide +kernel))) (htb _ (List.mem_of_getElem? (i := 14) (by decide +kernel))) (hF _ (by decide +kernel)) hA
  · obtain ⟨m1, m2⟩ := mem_R e he
    obtain ⟨w, hw, ew⟩ := List.mem_map.mp m2
    have h1 := (hstr w hw).1
    have e1 : w.1 = e.1 := congrArg (fun z => z.1) ew
    have e2 : w.2.1 = e.2.1 := congrArg (fun z => z.2) ew
    rw [e1, e2] at h1
    exact vk_R.of (htb _ m1) h1
  · exact va_Zof (htb _ (List.mem_of_getElem? (i := 347) (by decide +kernel))) (htb _ (List.mem_of_getElem? (i := 9) (by decide +kernel))) (va_eqt (hF _ (by decide +kernel))) hA
  · exact va_Zqof (htb _ (List.mem_of_getElem? (i := 363) (by decide +kernel))) (htb _ (List.mem_of_getElem? (i := 11) (by decide +kernel))) (hF _ (by decide +kernel)) hA

