/-! ===== throws that are caught ===== -/
/-- one row of a table that covers the place: its class is linked; it takes the throw, or the search goes on -/
theorem cx_row {e : Env} {s : State} {f : JFrame} {a : Addr} {Q : Handler → Pre} {E : CtlPost} {d : Bool} {acts : List Action} {x : ExceptionTableEntry} {t : List ExceptionTableEntry} {c : ClassId} {cell : Cell} (hx : covers x f.pc = true) (h0 : x.catchType ≠ 0) (hl : s.vm.ClassLinks e.platform f.method.cls x.catchType c) (hcell : s.heap[a]? = some cell) (hobj : ∀ k, cell.vm ≠ .statics k) (hk : ∃ k, s.vm.classes[cell.cls]? = some k) (hc : ∃ k, s.vm.classes[c]? = some k) :
    wp (findHandler.go f a (x :: t)) Q E e d acts s ↔ (if s.vm.assignable cell.cls c = true then Q (.found x.handlerPc) d acts (s.setVm (s.vm.noted f.method.cls x.catchType (.cls c))) else wp (findHandler.go f a t) Q E e d acts (s.setVm (s.vm.noted f.method.cls x.catchType (.cls c)))) := by
  have hr := (resolveClass_links e.toSetting hl).op (op := VmOp.resolveClass f.method.cls x.catchType) rfl
  have hal : s.vm.Alike (s.vm.noted f.method.cls x.catchType (.cls c)) := (Vm.Alike.refl s.vm).noted _ _ _
  obtain ⟨k1, hk1⟩ := hk
  obtain ⟨k2, hk2⟩ := hc
  obtain ⟨j1, hj1, -⟩ := hal.2.2 _ _ hk1
  obtain ⟨j2, hj2, -⟩ := hal.2.2 _ _ hk2
  have hA : (s.vm.noted f.method.cls x.catchType (.cls c)).assignable cell.cls c = s.vm.assignable cell.cls c := by rw [hal.assignable]
  simp only [covers] at hx
  cases hv : s.vm.assignable cell.cls c <;> rw [hv] at hA <;> simp [findHandler.go, hx, h0, hr.1, hr.2, hcell, hobj, hj1, hj2, hA, VmOp.dirties, VmOp.acts]
theorem as_refl (vm : Vm) (c : ClassId) : vm.assignable c c = true := by
  show vm.assignableAux (255 + 1) c c = true
  rw [Vm.assignableAux]
  simp
/-- the search: the rows ahead pass, the row x takes it -/
theorem cx_find {e : Env} {s0 : State} {f : JFrame} {a : Addr} {cell : Cell} {x : ExceptionTableEntry} {suf : List ExceptionTableEntry} {c : ClassId} (hobj : ∀ k, cell.vm ≠ .statics k) (hk0 : ∃ k, s0.vm.classes[cell.cls]? = some k) (hx : covers x f.pc = true) (h0 : x.catchType ≠ 0) (hl : s0.vm.ClassLinks e.platform f.method.cls x.catchType c) (hf : s0.vm.assignable cell.cls c = true) :
    ∀ (pre : List ExceptionTableEntry) (U : State), s0.WarmedH U.vm → U.heap[a]? = some cell → (∀ z ∈ pre, covers z f.pc = true ∧ z.catchType ≠ 0 ∧ ∃ b, s0.vm.ClassLinks e.platform f.method.cls z.catchType b ∧ s0.vm.assignable cell.cls b = false) →
      ∃ vm', s0.WarmedH vm' ∧ ∀ (Q : Handler → Pre) (E : CtlPost) (d : Bool) (acts : List Action), wp (findHandler.go f a (pre ++ x :: suf)) Q E e d acts U ↔ Q (.found x.handlerPc) d acts (U.setVm vm')
  | [], U, hW, hcell, _ => by
    obtain ⟨k0, hk0⟩ := hk0
    obtain ⟨j0, hj0, -⟩ := hW.alike.2.2 _ _ hk0
    obtain ⟨dk, _, _, kt, hd, _, _, _, _, hkt, _, hopn⟩ := hl.here
    obtain ⟨jt, hjt, -⟩ := hW.alike.2.2 _ _ hkt
    refine ⟨_, hW.noted hd hopn (State.rightAt_cls hl), fun Q E d acts => ?_⟩
    rw [List.nil_append, cx_row hx h0 (hW.classLinks hl) hcell hobj ⟨j0, hj0⟩ ⟨jt, hjt⟩, if_pos (by rw [hW.alike.assignable]; exact hf)]
  | y :: pre, U, hW, hcell, hp => by
    obtain ⟨k0, hk0'⟩ := hk0
    obtain ⟨j0, hj0, -⟩ := hW.alike.2.2 _ _ hk0'
    obtain ⟨hcov, hy0, b, hlb, hno⟩ := hp y (List.mem_cons_self ..)
    obtain ⟨dk, _, _, kt, hd, _, _, _, _, hkt, _, hopn⟩ := hlb.here
    obtain ⟨jt, hjt, -⟩ := hW.alike.2.2 _ _ hkt
    obtain ⟨vm', hW', hq⟩ := cx_find hobj ⟨k0, hk0'⟩ hx h0 hl hf pre (U.setVm (U.vm.noted f.method.cls y.catchType (.cls b))) (hW.noted hd hopn (State.rightAt_cls hlb)) hcell (fun z hz => hp z (List.mem_cons_of_mem _ hz))
    refine ⟨vm', hW', fun Q E d acts => ?_⟩
    rw [List.cons_append, cx_row hcov hy0 (hW.classLinks hlb) hcell hobj ⟨j0, hj0⟩ ⟨jt, hjt⟩, if_neg (by rw [hW.alike.assignable, hno]; decide)]
    exact hq Q E d acts
/-- from the throw over the frame g to the handler -/
theorem cx_steps {tb : Tables} {e : Env} {s t : State} {g : JFrame} {c : Code} {below : List Frame} {a : Addr} (h : At s g.method c below) {pc : Nat} {vm' : Vm} (hf : ∀ (Q : Handler → Pre) (E : CtlPost) (d : Bool) (acts : List Action), wp (findHandler g a) Q E e d acts ((s.setTop g).pushFrame (.throwing a)) ↔ Q (.found pc) d acts (((s.setTop g).pushFrame (.throwing a)).setVm vm')) (hk : Steps tb e below ((s.setVm vm').setTop { g with pc := pc, stack := [.ref a] }) t) : Steps tb e below ((s.setTop g).pushFrame (.throwing a)) t := by
  obtain ⟨h1, h2⟩ := h.throwing a
  refine Steps.head h1 h2 ?_
  have h3 : ∀ r : List Frame, (stepThrowing e ((s.setTop g).pushFrame (.throwing a)) a (.java g :: r)).1 = (((s.setTop g).pushFrame (.throwing a)).setVm vm').setFrames (.java { g with pc := pc, stack := [.ref a] } :: r) := by
    intro r
    simp only [stepThrowing, searchFrame, vmDo]
    generalize hr : Sem.go _ e false [] ((s.setTop g).pushFrame (.throwing a)) = res
    obtain ⟨as, rfl, ha⟩ := Sem.eq_ok_of hr (a := Handler.found pc) (s' := ((s.setTop g).pushFrame (.throwing a)).setVm vm') (acts' := []) (by simp [hf])
    rfl
  rw [stepThread_throwing (frames_entered h.top _), h3]
  obtain ⟨g9, hg⟩ := Option.isSome_iff_exists.mp h.top
  obtain ⟨r, hr⟩ := State.topJava?_eq_some.mp hg
  have hr9 : (s.setVm vm').frames = .java g9 :: r := hr
  rw [State.setTop_of_frames _ hr9] at hk
  have e1 : ∀ (u : State) (F G : List Frame), ((u.setFrames F).setVm vm').setFrames G = (u.setVm vm').setFrames G := fun u F G => by
    have h9 : (u.setFrames F).setVm vm' = (u.setVm vm').setFrames F := rfl
    rw [h9, State.setFrames_setFrames]
  rw [hr, List.tail_cons, State.pushFrame, State.setTop_of_frames _ hr, e1, e1]
  exact hk
/-- a throw that a row of this method's table takes -/
def CtK (own : String) (tb : List ExceptionTableEntry) (pc : Nat) (E : String) (hp : Nat) : Prop := ∃ (pre : List ExceptionTableEntry) (x : ExceptionTableEntry) (suf : List ExceptionTableEntry), tb = pre ++ x :: suf ∧ (∀ z ∈ pre, covers z pc = true ∧ z.catchType ≠ 0 ∧ ∃ nm : String, Cond.classLink own z.catchType nm ∈ TT ∧ (E, nm) ∈ cWords) ∧ covers x pc = true ∧ x.catchType ≠ 0 ∧ Cond.classLink own x.catchType E ∈ TT ∧ x.handlerPc = hp
theorem cx_catch {l : Launch} {g : Gh} {M : Mt} {a : Act} {d rc rs : Nat} {H : Heap} {locs : List Loc} {k n : Nat} {Q : State → Prop} {pc hp : Nat} {ls : Array Slot} {st : List Value} {E : String} {ce : Cell} {q : Addr} (hE : EnvOK l g M a) (hc : CtK M.own M.tb pc E hp) (hcell : H[q]? = some ce) (hv : ce.vm = .none) (hcl : a.s.vm.findClass E = some ce.cls)
    (kk : W a.p l a.e (rm d rc rs) a.s a.m a.args a.below a.meth a.c H locs k n Q (F0 a.m hp ls [.ref q])) : vx_W a.p l a.e (rm d rc rs) a.s a.m a.args a.below a.meth a.c H locs k n Q (F0 a.m pc ls st) q := by
  obtain ⟨⟨-, -, -, hown, hts⟩, -, -, htb, -, -, -, hO, -⟩ := hE
  obtain ⟨pre, x, suf, hsp, hpre, hx, h0, hlink, rfl⟩ := hc
  intro T hT X
  have hpl : a.e.platform.magicAccessors = ({} : Platform).magicAccessors := by rw [X.admits.platform]
  obtain ⟨c5, hc5, hl5⟩ := Cond.classLink_spec hown (hts _ hlink) a.e.platform hpl
  have e5 : c5 = ce.cls := Option.some.inj (hc5.symm.trans hcl)
  subst e5
  obtain ⟨k9, h9, -⟩ := Vm.findClass_spec hcl
  have hcT : ((T.setTop (F0 a.m pc ls st)).pushFrame (.throwing q)).heap[q]? = some ce := by
    show T.heap[q]? = some ce
    rw [hT]; exact hcell
  obtain ⟨vm', hW', hq⟩ := cx_find (e := a.e) (s0 := a.s) (f := F0 a.m pc ls st) (a := q) (cell := ce) (x := x) (suf := suf) (fun k9 h => by rw [hv] at h; cases h) ⟨k9, h9⟩ hx h0 hl5 (as_refl _ _) pre ((T.setTop (F0 a.m pc ls st)).pushFrame (.throwing q)) X.warmed hcT (fun z hz => by
    obtain ⟨y1, y2, nm, y3, y4⟩ := hpre z hz
    obtain ⟨c6, hc6, hl6⟩ := Cond.classLink_spec hown (hts _ y3) a.e.platform hpl
    obtain ⟨a8, b8, z1, z2, z3⟩ := hO.2.2.2.2.2.2.2.1 _ y4
    have e1 : a8 = ce.cls := Option.some.inj (z1.symm.trans hcl)
    have e2 : b8 = c6 := Option.some.inj (z2.symm.trans hc6)
    subst e1; subst e2
    exact ⟨y1, y2, _, hl6, z3⟩)
  obtain ⟨t, a1, b1⟩ := kk (T.setVm vm') hT (X.noted hW')
  refine ⟨t, cx_steps (g := F0 a.m pc ls st) X.here (vm' := vm') (pc := x.handlerPc) (fun Q E d acts => ?_) a1, b1⟩
  rw [W.findHandler_eq (meth := a.meth) (code := a.c) X.method' X.code, htb, hsp]
  exact hq Q E d acts
/-- behind a callee's throw that this method catches -/
theorem q_postC {l : Launch} {g : Gh} {M : Mt} {d rc rs : Nat} {post : Pst} {px : Pxc} {a : Act} {pc : Nat} {L : List (Option Value)} {st : List Value} {ws : va_W} {k n : Nat} {args' : List Value} {w wr : va_W} {px' : Pxc} {H : Heap} {locs : List Loc} {T U' : State} {vm₁ : Vm} {ls : Array Slot} {l2 : List Loc} {c2 s2 : Nat} {q : Addr} (hE : EnvOK l g M a) (hP : va_P g.1 vwCl ws H) (hD : va_D a.A ws) (hS : va_S a.A a.s.heap H locs) (hl : lv_has ls M.nL (lp 0 L)) (hTH : T.heap = H) (isC isR : List Nat) (hc : isC.map (fun i => ws[i]?) = w.map some) (hr : isR.map (fun i => ws[i]?) = wr.map some) (hn : va_nd isR = true) (hdis : ∀ i ∈ isR, i ∉ isC) (hW₁ : a.s.WarmedH vm₁)
    (hpo : ctPostX g px' w H.size ⟨T.setVm vm₁, locs, k, n⟩ args'.toArray q ⟨U', l2, c2, s2⟩) (X' : Stand a.p l a.e (rm d rc rs) a.s a.m a.args a.below a.meth a.c U' l2 c2 s2)
    (kx : ∀ (E : String) (w1 : va_W) (k' n' : Nat), px' E w1 k' n' → ∃ hp, CtK M.own M.tb pc E hp ∧ ∀ q : Nat, WPs l g M d rc rs post px a hp L [.ref q] (wr ++ w1) (k + k') (n + n')) :
    ∃ t, Steps a.p.tables a.e a.below ((U'.setTop (F0 a.m pc ls st)).pushFrame (.throwing q)) t ∧ qQ g post px a t := by
  obtain ⟨gf, mk, t, Lc, E, ce, k', n', e1, e2, ⟨w1, hq, hP1, hD1, hF1⟩, hce, hcv, hcl, h1, hL, h2, h3⟩ := hpo
  obtain ⟨-, hlk, -, htb', -, hA, hK, hO, -⟩ := id hE
  have hF := va_free hD hS hA isC hc
  dsimp only [Pt.U, Pt.locs, Pt.cells, Pt.slots] at e1 e2 h1 h2 h3 hcl
  subst h1; subst h2; subst h3
  have h0 : ((T.setVm vm₁).calling gf mk args'.toArray).heap = H := hTH
  obtain ⟨j1, j2, j3⟩ := vx_keep h0 e1 hS (fun q _ => hF q) hF hL hF1
  obtain ⟨hPj, hDj⟩ := va_join hP hD isC isR hc hr hn hdis (H1 := U'.heap) j2 hF (by rw [e1]; exact hP1) hD1
  obtain ⟨hp, hck, kk⟩ := kx E w1 k' n' hq
  exact cx_catch (st := st) hE hck (by rw [e1]; exact hce) hcv (vx_cls hW₁ hcl) (kk q hE U'.heap (locs ++ Lc) ls hPj hDj j3 hl) U' rfl X'
/-- a call whose throws are caught here -/
theorem q_callVC {l : Launch} {g : Gh} {M : Mt} {d rc rs : Nat} {post : Pst} {px : Pxc} {a : Act} {pc : Nat} {L : List (Option Value)} {st st0 : List Value} {ws : va_W} {k n : Nat} {i ci b maxL d' rc' rs' na : Nat} {y : MethodName} {hd : Cond} {As : List Value} {w wr : va_W} {post' : Pst} {px' : Pxc} {e9 : va_E} {fs : List Value} {C : String} {T9 : u_T} {N9 : Nat} (q0 : Nat) (isC isR : List Nat) (pc' : Nat)
    (hM : Ct l g y hd d' rc' rs' (.ref b :: As) w post' px') (hV : VK M.own i y hd maxL C na) (hdc : decode M.cc pc = .ok (.invokevirtual i, 3)) (hst : st0 = As.reverse ++ .ref b :: st) (hna : As.length = na)
    (hq : ws[q0]? = some (b, e9)) (he9 : e9 = .inr (ci, fs)) (hC : vwCl[ci]? = some (C, T9, N9))
    (hc : isC.map (fun i => ws[i]?) = w.map some) (hr : isR.map (fun i => ws[i]?) = wr.map some) (hnc : va_nd isC = true) (hnr : va_nd isR = true) (hdis : ∀ i ∈ isR, i ∉ isC)
    (hW : (st.map fun v => v.category).sum ≤ 8) (hd1 : d' + 1 ≤ d) (hrc : k + rc' ≤ rc) (hrs : n + rs' ≤ rs) (hp : pc + 3 = pc')
    (kx : ∀ (E : String) (w1 : va_W) (k' n' : Nat), px' E w1 k' n' → ∃ hp, CtK M.own M.tb pc E hp ∧ ∀ q : Nat, WPs l g M d rc rs post px a hp L [.ref q] (wr ++ w1) (k + k') (n + n'))
    (kk : ∀ (v : Option Value) (w1 : va_W) (k' n' : Nat), post' v w1 k' n' → WPs l g M d rc rs post px a pc' L (v.toList ++ st) (wr ++ w1) (k + k') (n + n')) : WPs l g M d rc rs post px a pc L st0 ws k n := by
  intro hE H locs ls hP hD hS hl
  obtain ⟨⟨hx, hb, hml, hown, hts⟩, hlk, hret, htb, hnm, hA, hK, hO, hT⟩ := id hE
  subst hp; subst hst; subst he9
  obtain ⟨bytes, ret, rfl, v1, v2, v3, v4, v5, v6, v7, v8⟩ := hV
  intro T hTH X
  obtain ⟨cellB, hcB, hoB, hclB⟩ := va_recv hK hP hC hq
  have hKb : vx_Back l (rm d rc rs) a.p a.e a.below a.s a.args y 3 8 (ctPre g (rm d rc rs) rc' rs' (.ref b :: As) w H.size) (ctPost g post' w H.size) (ctPostX g px' w H.size) := ct_back hM hT hd1 (by show 8 + (maxL + 11) + 40 * d' ≤ 40 * d; omega) hts v1 codeOf_code v5
  rcases vx_callV X hx (C := C) hown (hts _ v2) (hts _ v3) (hts _ v4) (hts _ v1) v6 hKb (by rw [hTH]; exact hcB) hoB hclB (g := F0 a.m pc ls (As.reverse ++ .ref b :: st)) rfl (hl.1.trans hml.symm) (argsL := As) (rest := st) (par_len v7 hna) rfl (by show 2 * 0 + _ ≤ 8; omega) (by rw [hb]; exact hdc)
    (q_pre (args' := .ref b :: As) hE hP hD hS hTH isC hnc hc hrc hrs) with ⟨v, vm₁, ⟨U', l2, c2, s2⟩, hW₁, X', hpo, hst⟩ | ⟨q, vm₁, ⟨U', l2, c2, s2⟩, hW₁, X', hpo, hst⟩
  · obtain ⟨t2, a1, b1⟩ := q_post (pc' := pc + 3) (st := st) hE hP hD hS hl hTH isC isR hc hr hnr hdis hpo X' kk
    exact ⟨t2, hst t2 a1, b1⟩
  · obtain ⟨t2, a1, b1⟩ := q_postC (pc := pc) (st := st) hE hP hD hS hl hTH isC isR hc hr hnr hdis hW₁ hpo X' kx
    exact ⟨t2, hst.trans a1, b1⟩
/-- a contract out of a walk, of a method with a table of catches -/
theorem ct_ofC {l : Launch} {g : Gh} {y : MethodName} {bytes : ByteArray} {maxL : Nat} {ret : Option FieldType} {hh : List (Nat × Nat × Nat × Nat)} {M : Mt} {d rc rs : Nat} {args : List Value} {w : va_W} {post : Pst} {px : Pxc} (L : List (Option Value))
    (hM : M = (y.cls, bytes, maxL, ret, tableOf hh, y.name)) (hy : plainName y.cls = true) (hlen : (lg_sl args).length ≤ maxL) (hL : ∀ q ∈ lp 0 L, q ∈ lv_args 0 args)
    (body : ∀ a : Act, WPs l g M d rc rs post px a 0 L [] w 0 0) : Ct l g y (Cond.codeWith y bytes maxL ret hh) d rc rs args w post px := by
  intro hst sz
  subst hM
  refine MetFree.of_bodyS (code := bytes) (maxLocals := maxL) (ret := ret) hy ?_ ?_
  · intro args s m h hn
    obtain ⟨m9, meth, c, hn9, h1, h2, h3, h4, -, h5, h6, -⟩ := Cond.codeWith_spec (atoms_spec (ws := Cond.codeWith y bytes maxL ret hh :: TT) h _ List.mem_cons_self)
    cases hn.symm.trans hn9
    exact ⟨meth, c, h1, h2, h3, h4, h5, h6⟩
  · intro p e s m args0 below meth c s₁ B hml hP _
    obtain ⟨rfl, hsz, hP0, hK, hD0, hO⟩ := hP
    have hh0 : s₁.heap = s.heap := by rw [B.state]; rfl
    have hts0 := atoms_spec (ws := Cond.codeWith y bytes maxL ret hh :: TT) B.pre
    have htb : c.exceptionTable.toList = tableOf hh := vx_table (x := y) B (hts0 _ List.mem_cons_self)
    subst hsz
    have hl := lv_entry args (n := maxL) hlen
    have hE : EnvOK l g (y.cls, bytes, maxL, ret, tableOf hh, y.name) (p, e, s, m, args.toArray, below, meth, c, va_A w s.heap.size) :=
      ⟨⟨B.exec, B.bytes, hml, findClass_of_methodNamed B.named, fun w hw => hts0 w (List.mem_cons_of_mem _ hw)⟩, B.notSynchronized, B.returns, htb, (name_of_methodNamed B.named B.method).1, fun q hq => Or.inr hq, hK, hO, hst⟩
    have K := body (p, e, s, m, args.toArray, below, meth, c, va_A w s.heap.size) hE s.heap [] _ hP0 (hD0.self (sz := s.heap.size)) va_S.rf (lv_less hl hL)
    rw [← lg_entry_eq] at K
    obtain ⟨t, a1, o, b1, b2, b3⟩ := K s₁ hh0 (Stand.of_body B)
    exact ⟨t, o, a1, b1, b2, b3⟩

