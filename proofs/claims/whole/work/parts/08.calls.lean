theorem obj_inst : Cond.instanceMethod Lib.objectInit ∈ TT := TT_of (by decide +kernel) rfl
theorem obj_code : Cond.code Lib.objectInit ⟨#[0xb1]⟩ 1 none ∈ TT := TT_of (by decide +kernel) rfl
/-! ===== calls ===== -/
theorem qPc_blind {g : Gh} {args : List Value} {w : va_W} {sz : Nat} : FrameBlind (qPc g args w sz) := by
  intro a U gf mk h
  obtain ⟨h1, h2, h3, h4, h5, h6⟩ := h
  exact ⟨h1, h2, h3, va_K.moved (u := U) (U := U.calling gf mk a) (Vm.Alike.refl U.vm) h4, h5, Ou.same rfl h6⟩
def ctPre (g : Gh) (R : Room) (rc rs : Nat) (args : List Value) (w : va_W) (sz : Nat) : Pt → Array Value → Prop := fun A a => A.cells + rc ≤ R.cells ∧ A.slots + rs ≤ R.slots ∧ qPc g args w sz a A.U
def ctPost (g : Gh) (post : Pst) (w : va_W) (sz : Nat) : Pt → Array Value → Option Value → Pt → Prop := fun A a v B =>
  ∃ (gf : JFrame) (mk : MethodId) (t : State) (Lc : List Loc) (k n : Nat), B.U.heap = t.heap ∧ B.U.vm = t.vm ∧ qR g post (va_A w sz) k n a (A.U.calling gf mk a) (.returned v) t ∧ B.locs = A.locs ++ Lc ∧ (∀ q ∈ Lc, va_A w sz q.base) ∧ B.cells = A.cells + k ∧ B.slots = A.slots + n
def ctPostX (g : Gh) (px : Pxc) (w : va_W) (sz : Nat) : Pt → Array Value → Addr → Pt → Prop := fun A a q B =>
  ∃ (gf : JFrame) (mk : MethodId) (t : State) (Lc : List Loc) (E : String) (ce : Cell) (k n : Nat), B.U.heap = t.heap ∧ B.U.vm = t.vm ∧ qX g px (va_A w sz) k n E (A.U.calling gf mk a) t ∧ t.heap[q]? = some ce ∧ ce.vm = .none ∧ A.U.vm.findClass E = some ce.cls ∧ B.locs = A.locs ++ Lc ∧ (∀ z ∈ Lc, va_A w sz z.base) ∧ B.cells = A.cells + k ∧ B.slots = A.slots + n
/-- what a method's own word says of its locals -/
def CodeOf (y : MethodName) (hd : Cond) (maxL : Nat) : Prop := ∀ (a' : Array Value) (U : State) (mk : MethodId), hd.before a' U = true → U.methodNamed? y = some mk → ∃ (methY : Method) (cY : Code), U.vm.method? mk = some methY ∧ methY.code = some cY ∧ cY.maxLocals = maxL
theorem codeOf_code {y : MethodName} {bytes : ByteArray} {maxL : Nat} {ret : Option FieldType} : CodeOf y (Cond.code y bytes maxL ret) maxL := by
  intro a' U mk h hn
  obtain ⟨methY, cY, hmY, hcY, -, hlY, -⟩ := Cond.code_spec hn h
  exact ⟨methY, cY, hmY, hcY, hlY⟩
theorem codeOf_with {y : MethodName} {bytes : ByteArray} {maxL : Nat} {ret : Option FieldType} {hh : List (Nat × Nat × Nat × Nat)} : CodeOf y (Cond.codeWith y bytes maxL ret hh) maxL := by
  intro a' U mk h hn
  obtain ⟨m9, methY, cY, hn9, hmY, hcY, -, hlY, -⟩ := Cond.codeWith_spec h
  cases hn.symm.trans hn9
  exact ⟨methY, cY, hmY, hcY, hlY⟩
section CallsA
variable {l : Launch} {R : Room} {p : Program} {e : Env} {below : List Frame} {s : State} {sargs : Array Value} {y : MethodName} {len W9 : Nat} {g : Gh} {hd : Cond} {d rc rs maxL sz : Nat} {args : List Value} {w : va_W} {post : Pst} {px : Pxc}
theorem ct_back (hM : Ct l g y hd d rc rs args w post px) (hst : l.stackTraces = false) (hframes : d + 1 ≤ R.frames) (hlocals : W9 + (maxL + 11) + 40 * d ≤ R.locals)
    (hts : ∀ w ∈ TT, w.before sargs s = true) (hdT : hd ∈ TT) (hco : CodeOf y hd maxL) (hini : Cond.initialized y.cls ∈ TT) :
    vx_Back l R p e below s sargs y len W9 (ctPre g R rc rs args w sz) (ctPost g post w sz) (ctPostX g px w sz) := by
  intro m meth c A gf ig mk a X hg hsize hdg hW hn hp
  have hM := hM hst sz
  have h1 : (headSpec (hd :: TT) (rm d rc rs)).pre.before a A.U = true := atoms_intro fun w hw => (List.mem_cons.mp hw).elim (fun e => by rw [e]; exact TT_pay hts hdT _ _ X.warmed) (fun hw => TT_pay hts hw _ _ X.warmed)
  have h2 : hd.before a A.U = true := TT_pay hts hdT _ _ X.warmed
  have h3 : (Cond.initialized y.cls).before a A.U = true := TT_pay hts hini _ _ X.warmed
  have h4 : A.cells + (headSpec (hd :: TT) (rm d rc rs)).room.cells ≤ R.cells := hp.1
  have h5 : A.slots + (headSpec (hd :: TT) (rm d rc rs)).room.slots ≤ R.slots := hp.2.1
  have hPc : qPc g args w sz a (A.U.calling gf mk a) := qPc_blind _ _ _ _ hp.2.2
  obtain ⟨U, Ls, c0, s0⟩ := A
  dsimp only [Pt.U, Pt.locs, Pt.cells, Pt.slots] at h1 h2 h3 h4 h5 X hn hPc ⊢
  obtain ⟨methY, cY, hmY, hcY, hlY⟩ := hco _ _ _ h2 hn
  obtain ⟨kY, hkY, -⟩ := className_of_methodNamed hn
  have hinitY : kY.init = .initialized := Cond.initialized_spec (findClass_of_methodNamed hn) hkY h3
  have h : At U gf.method c below := by rw [hg]; exact X.here
  have hlocals9 : W9 + (maxL + 11) + (headSpec (hd :: TT) (rm d rc rs)).room.locals ≤ R.locals := hlocals
  have happ : (headSpec (hd :: TT) (rm d rc rs)).appliesLoose y e.platform (U.calling gf mk a) = true :=
    Spec.appliesLoose_calling (g := gf) h hdg hn hkY hinitY
      (X.room_calling (g := gf) (R' := (headSpec (hd :: TT) (rm d rc rs)).room) hsize hmY hcY hframes (by rw [hlY]; omega) h4 h5) h1
  obtain ⟨mid, hmid⟩ := h.above
  have hfr : (U.setTop gf).frames = (.java gf :: mid) ++ below := by rw [State.frames_setTop' gf h.top, hmid]; rfl
  obtain ⟨o, s₂, hsteps, -, hend, k9, n9, hq'⟩ := Steps.callFree hM p X.admits X.cas X.clock (acts := []) hfr happ hPc trivial
  have hq' : vx_Q (qR g post (va_A w sz) k9 n9) (qX g px (va_A w sz) k9 n9) k9 n9 (va_A w sz) a (U.calling gf mk a) o s₂ := hq'
  rw [State.frames_setTop' gf h.top] at hend
  obtain ⟨g₀, hg0⟩ := Option.isSome_iff_exists.mp h.top
  obtain ⟨r, hr⟩ := State.topJava?_eq_some.mp hg0
  have hr' : (({ U with heap := s₂.heap, slotsUsed := s₂.slotsUsed } : State).setVm s₂.vm).frames = .java g₀ :: r := hr
  rcases hq' with ⟨hqc, L, hfe, hL⟩ | ⟨q, rfl, E, ce, L, hx, hce, hcv, hcl, hW₂, hsm, hL⟩
  · obtain ⟨⟨v, rfl⟩, hW₂, e2, q2, q3, q4, q5, q6⟩ := id hfe
    have e3 : s₂ = ({ (U.calling gf mk a).setFrames s₂.frames with heap := s₂.heap, slotsUsed := s₂.slotsUsed } : State).setVm s₂.vm := by
      have : s₂ = ({ s₂ with vm := (U.calling gf mk a).vm } : State).setVm s₂.vm := rfl
      rw [e2] at this
      exact this
    obtain ⟨c₂, i₂, len₂, hc₂, hd₂, hf₂⟩ := hend
    have hW' : U.WarmedH s₂.vm := hW₂
    have hcc : c₂ = c := by
      have h1 : s₂.code? gf.method = U.code? gf.method := by
        rw [State.code?_eq, State.code?_eq, hW'.alike.method?]
      exact Option.some.inj (hc₂.symm.trans (h1.trans h.code))
    subst hcc
    have hlen : len₂ = len := by rw [hdg] at hd₂; cases hd₂; rfl
    subst hlen
    have hs₂ : s₂ = (({ U with heap := s₂.heap, slotsUsed := s₂.slotsUsed } : State).setVm s₂.vm).setTop { gf with pc := gf.pc + len₂, stack := v.toList ++ gf.stack } := by
      refine e3.trans ?_
      rw [hf₂, State.calling_eq h.top, State.setFrames_setFrames, State.setTop_of_frames _ hr', hr]
      rfl
    have hsame : U.sameButNew ({ U with heap := s₂.heap, slotsUsed := s₂.slotsUsed } : State) L k9 n9 := by
      refine ⟨?_, q2, q3, q4, q5, q6⟩
      obtain ⟨t, ht, -⟩ := State.frames_cons hr
      show ({ U with heap := s₂.heap, slotsUsed := s₂.slotsUsed } : State) = { U.setFrames U.frames with heap := s₂.heap, slotsUsed := s₂.slotsUsed }
      rw [State.setFrames_self ht]
    subst hg
    refine Or.inl ⟨v, ⟨(({ U with heap := s₂.heap, slotsUsed := s₂.slotsUsed } : State).setVm s₂.vm), Ls ++ L, c0 + k9, s0 + n9⟩,
      ⟨X.admits, X.cas, X.clock, X.frames, X.room, X.hears, X.method, X.code, (X.here.setHeapUsed s₂.heap s₂.slotsUsed).setVm hW'.alike, X.tail, State.WarmedH.trans X.warmed hW', X.limits, X.bytes, X.same.trans (hsame.setVm s.vm)⟩,
      ⟨gf, mk, s₂, L, k9, n9, rfl, rfl, hqc, rfl, hL, rfl, rfl⟩, ?_⟩
    show Steps p.tables e below _ ((({ U with heap := s₂.heap, slotsUsed := s₂.slotsUsed } : State).setVm s₂.vm).setTop { gf with pc := gf.pc + len₂, stack := v.toList ++ gf.stack })
    rw [← hs₂]
    exact hsteps
  · obtain ⟨e2, q2, q3, q4, q5, q6⟩ := id hsm
    have e3 : s₂ = ({ (U.calling gf mk a).setFrames s₂.frames with heap := s₂.heap, slotsUsed := s₂.slotsUsed } : State).setVm s₂.vm := by
      have : s₂ = ({ s₂ with vm := (U.calling gf mk a).vm } : State).setVm s₂.vm := rfl
      rw [e2] at this
      exact this
    have hf₂ : s₂.frames = .throwing q :: .java gf :: U.frames.tail := hend
    have hW' : U.WarmedH s₂.vm := hW₂
    have hs₂ : s₂ = ((({ U with heap := s₂.heap, slotsUsed := s₂.slotsUsed } : State).setVm s₂.vm).setTop gf).pushFrame (.throwing q) := by
      refine e3.trans ?_
      rw [hf₂, State.calling_eq h.top, State.setFrames_setFrames, State.pushFrame, State.frames_setTop _ hr', State.setTop_of_frames _ hr', State.setFrames_setFrames, hr]
      rfl
    have hsame : U.sameButNew ({ U with heap := s₂.heap, slotsUsed := s₂.slotsUsed } : State) L k9 n9 := by
      refine ⟨?_, q2, q3, q4, q5, q6⟩
      obtain ⟨t, ht, -⟩ := State.frames_cons hr
      show ({ U with heap := s₂.heap, slotsUsed := s₂.slotsUsed } : State) = { U.setFrames U.frames with heap := s₂.heap, slotsUsed := s₂.slotsUsed }
      rw [State.setFrames_self ht]
    subst hg
    refine Or.inr ⟨q, ⟨(({ U with heap := s₂.heap, slotsUsed := s₂.slotsUsed } : State).setVm s₂.vm), Ls ++ L, c0 + k9, s0 + n9⟩,
      ⟨X.admits, X.cas, X.clock, X.frames, X.room, X.hears, X.method, X.code, (X.here.setHeapUsed s₂.heap s₂.slotsUsed).setVm hW'.alike, X.tail, State.WarmedH.trans X.warmed hW', X.limits, X.bytes, X.same.trans (hsame.setVm s.vm)⟩,
      ⟨gf, mk, s₂, L, E, ce, k9, n9, rfl, rfl, hx, hce, hcv, hcl, rfl, hL, rfl, rfl⟩, ?_⟩
    show Steps p.tables e below _ (((({ U with heap := s₂.heap, slotsUsed := s₂.slotsUsed } : State).setVm s₂.vm).setTop gf).pushFrame (.throwing q))
    rw [← hs₂]
    exact hsteps
/-- a callee that never throws -/
theorem ct_back0 (hM : Ct l g y hd d rc rs args w post noX) (hst : l.stackTraces = false) (hframes : d + 1 ≤ R.frames) (hlocals : W9 + (maxL + 11) + 40 * d ≤ R.locals)
    (hts : ∀ w ∈ TT, w.before sargs s = true) (hdT : hd ∈ TT) (hco : CodeOf y hd maxL) (hini : Cond.initialized y.cls ∈ TT) :
    Back l R p e below s sargs y len W9 (ctPre g R rc rs args w sz) (ctPost g post w sz) := by
  intro m meth c A gf ig mk a X hg hsize hdg hW hn hp
  rcases ct_back (p := p) (e := e) (below := below) (len := len) hM hst hframes hlocals hts hdT hco hini m meth c A gf ig mk a X hg hsize hdg hW hn hp with h | ⟨q, B, X', ⟨gf, mk, t, Lc, E, ce, k, n, -, -, ⟨ws, hx, -⟩, -⟩, -⟩
  · exact h
  · exact hx.elim
end CallsA
section CallsB
variable {l : Launch} {g : Gh} {M : Mt} {d rc rs : Nat} {post : Pst} {px : Pxc} {a : Act} {pc : Nat} {L : List (Option Value)} {st st0 : List Value} {ws : va_W} {k n : Nat}
/-- what a callee is given -/
theorem q_pre {args' : List Value} {w : va_W} {rc' rs' : Nat} {H : Heap} {locs : List Loc} {T : State} (hE : EnvOK l g M a) (hP : va_P g.1 vwCl ws H) (hD : va_D a.A ws) (hS : va_S a.A a.s.heap H locs) (hTH : T.heap = H) (isC : List Nat) (hn : va_nd isC = true) (hc : isC.map (fun i => ws[i]?) = w.map some) (hrc : k + rc' ≤ rc) (hrs : n + rs' ≤ rs) :
    ∀ vm₁, a.s.WarmedH vm₁ → ctPre g (rm d rc rs) rc' rs' args' w H.size ⟨T.setVm vm₁, locs, k, n⟩ args'.toArray := by
  intro vm₁ hW
  obtain ⟨-, -, -, -, -, hA, hK, hO, -⟩ := hE
  have hF := va_free hD hS hA isC hc
  have hOH : Ou g a.A a.s H := hO.kept (fun q h1 h2 => hS.2.1 q h1 h2)
  have hOw : Ou g (va_A w H.size) (T.setVm vm₁) H := (hOH.warm (U := T.setVm vm₁) hW).narrow hF
  subst hTH
  refine ⟨hrc, hrs, rfl, rfl, ?_, hK.moved hW.alike, (hD.sub isC hn hc).weaken (fun _ _ _ _ => trivial), hOw⟩
  intro q x hq
  have h1 : (isC.map (fun i => ws[i]?))[q]? = some (some x) := by rw [hc, List.getElem?_map, hq]; rfl
  rw [List.getElem?_map] at h1
  cases hi : isC[q]? with
  | none => rw [hi] at h1; cases h1
  | some i => rw [hi] at h1; exact hP i x (Option.some.inj h1)
/-- behind a callee that has returned -/
theorem q_post {args' : List Value} {w wr : va_W} {post' : Pst} {H : Heap} {locs : List Loc} {T U' : State} {vm₁ : Vm} {ls : Array Slot} {l2 : List Loc} {c2 s2 : Nat} {v : Option Value} {pc' : Nat} (hE : EnvOK l g M a) (hP : va_P g.1 vwCl ws H) (hD : va_D a.A ws) (hS : va_S a.A a.s.heap H locs) (hl : lv_has ls M.nL (lp 0 L)) (hTH : T.heap = H) (isC isR : List Nat) (hc : isC.map (fun i => ws[i]?) = w.map some) (hr : isR.map (fun i => ws[i]?) = wr.map some) (hn : va_nd isR = true) (hdis : ∀ i ∈ isR, i ∉ isC)
    (hpo : ctPost g post' w H.size ⟨T.setVm vm₁, locs, k, n⟩ args'.toArray v ⟨U', l2, c2, s2⟩) (X' : Stand a.p l a.e (rm d rc rs) a.s a.m a.args a.below a.meth a.c U' l2 c2 s2)
    (kk : ∀ (v : Option Value) (w1 : va_W) (k' n' : Nat), post' v w1 k' n' → WPs l g M d rc rs post px a pc' L (v.toList ++ st) (wr ++ w1) (k + k') (n + n')) :
    ∃ t, Steps a.p.tables a.e a.below (U'.setTop (F0 a.m pc' ls (v.toList ++ st))) t ∧ qQ g post px a t := by
  obtain ⟨gf, mk, t, Lc, k', n', e1, e2, ⟨v', w1, hv, hq, hP1, hD1, hF1⟩, h1, hL, h2, h3⟩ := hpo
  cases hv
  obtain ⟨-, -, -, -, -, hA, hK, hO, -⟩ := id hE
  have hF := va_free hD hS hA isC hc
  dsimp only [Pt.U, Pt.locs, Pt.cells, Pt.slots] at e1 e2 h1 h2 h3
  subst h1; subst h2; subst h3
  have h0 : ((T.setVm vm₁).calling gf mk args'.toArray).heap = H := hTH
  obtain ⟨j1, j2, j3⟩ := vx_keep h0 e1 hS (fun q _ => hF q) hF hL hF1
  obtain ⟨hPj, hDj⟩ := va_join hP hD isC isR hc hr hn hdis (H1 := U'.heap) j2 hF (by rw [e1]; exact hP1) hD1
  exact kk v w1 k' n' hq hE U'.heap (locs ++ Lc) ls hPj hDj j3 hl U' rfl X'
/-- a callee's throw goes on through this method, which catches nothing -/
theorem q_postX {args' : List Value} {w wr : va_W} {px' : Pxc} {H : Heap} {locs : List Loc} {T U' : State} {vm₁ : Vm} {ls : Array Slot} {l2 : List Loc} {c2 s2 : Nat} {q : Addr} (hE : EnvOK l g M a) (htb : M.tb = []) (hP : va_P g.1 vwCl ws H) (hD : va_D a.A ws) (hS : va_S a.A a.s.heap H locs) (hTH : T.heap = H) (isC isR : List Nat) (hc : isC.map (fun i => ws[i]?) = w.map some) (hr : isR.map (fun i => ws[i]?) = wr.map some) (hn : va_nd isR = true) (hdis : ∀ i ∈ isR, i ∉ isC) (hW₁ : a.s.WarmedH vm₁)
    (hpo : ctPostX g px' w H.size ⟨T.setVm vm₁, locs, k, n⟩ args'.toArray q ⟨U', l2, c2, s2⟩) (X' : Stand a.p l a.e (rm d rc rs) a.s a.m a.args a.below a.meth a.c U' l2 c2 s2)
    (kx : ∀ (E : String) (w1 : va_W) (k' n' : Nat), px' E w1 k' n' → px E (wr ++ w1) (k + k') (n + n')) :
    ∃ t, Steps a.p.tables a.e a.below ((U'.setTop (F0 a.m pc ls st)).pushFrame (.throwing q)) t ∧ qQ g post px a t := by
  obtain ⟨gf, mk, t, Lc, E, ce, k', n', e1, e2, ⟨w1, hq, hP1, hD1, hF1⟩, hce, hcv, hcl, h1, hL, h2, h3⟩ := hpo
  obtain ⟨-, hlk, -, htb', -, hA, hK, hO, -⟩ := id hE
  have hF := va_free hD hS hA isC hc
  dsimp only [Pt.U, Pt.locs, Pt.cells, Pt.slots] at e1 e2 h1 h2 h3 hcl
  subst h1; subst h2; subst h3
  have h0 : ((T.setVm vm₁).calling gf mk args'.toArray).heap = H := hTH
  obtain ⟨j1, j2, j3⟩ := vx_keep h0 e1 hS (fun q _ => hF q) hF hL hF1
  obtain ⟨hPj, hDj⟩ := va_join hP hD isC isR hc hr hn hdis (H1 := U'.heap) j2 hF (by rw [e1]; exact hP1) hD1
  obtain ⟨t9, a1, o, b1, b2, b3⟩ := vx_out (p := a.p) (l := l) (e := a.e) (R := rm d rc rs) (s := a.s) (m := a.m) (args := a.args) (below := a.below) (meth := a.meth) (c := a.c) (H := U'.heap) (locs := locs ++ Lc) (cells := k + k') (slots := n + n') (free := a.A) (ls := ls) (rest := st) (Qc := qR g post a.A (k + k') (n + n')) (XC := qX g px a.A (k + k') (n + n')) (pc := pc) (E := E) (ce := ce) (q := q) (mc := k + k') (ms := n + n')
    (by rw [htb', htb]; intro x hx; cases hx) hlk (by rw [e1]; exact hce) hcv (vx_cls hW₁ hcl) (fun t ht _ => ⟨wr ++ w1, kx E w1 k' n' hq, by rw [ht]; exact hPj, hDj, ⟨by rw [ht]; exact j3.1, fun q h1 h2 => by rw [ht]; exact j3.2.1 q h1 h2⟩⟩) j3.2.2 (Nat.le_refl _) (Nat.le_refl _) U' rfl X'
  exact ⟨t9, a1, o, b1, b2, k + k', n + n', b3⟩
/-- an instance method of the pool -/
def VK (own : String) (i : Nat) (y : MethodName) (hd : Cond) (maxL : Nat) (C : String) (na : Nat) : Prop := ∃ (bytes : ByteArray) (ret : Option FieldType), hd = Cond.code y bytes maxL ret ∧ hd ∈ TT ∧ Cond.methodLink own i y ∈ TT ∧ Cond.instanceMethod y ∈ TT ∧ Cond.selects C y y ∈ TT ∧ Cond.initialized y.cls ∈ TT ∧ (y.cls ≠ "java/lang/invoke/MethodHandle" ∧ y.cls ≠ "java/lang/invoke/VarHandle") ∧ (parseMethodDescriptor y.desc).map (fun d => d.parameters.length) = some na ∧ maxL ≤ 21
/-- a static method of the pool -/
def SK (own : String) (i : Nat) (y : MethodName) (hd : Cond) (maxL na : Nat) : Prop := ∃ (bytes : ByteArray) (ret : Option FieldType), hd = Cond.code y bytes maxL ret ∧ hd ∈ TT ∧ Cond.methodLink own i y ∈ TT ∧ Cond.static y ∈ TT ∧ Cond.initialized y.cls ∈ TT ∧ (y.cls ≠ "java/lang/invoke/MethodHandle" ∧ y.cls ≠ "java/lang/invoke/VarHandle") ∧ (parseMethodDescriptor y.desc).map (fun d => d.parameters.length) = some na ∧ maxL ≤ 21
/-- a static method with a table of catches -/
def SKW (own : String) (i : Nat) (y : MethodName) (hd : Cond) (maxL na : Nat) : Prop := ∃ (bytes : ByteArray) (ret : Option FieldType) (hh : List (Nat × Nat × Nat × Nat)), hd = Cond.codeWith y bytes maxL ret hh ∧ hd ∈ TT ∧ Cond.methodLink own i y ∈ TT ∧ Cond.static y ∈ TT ∧ Cond.initialized y.cls ∈ TT ∧ (y.cls ≠ "java/lang/invoke/MethodHandle" ∧ y.cls ≠ "java/lang/invoke/VarHandle") ∧ (parseMethodDescriptor y.desc).map (fun d => d.parameters.length) = some na ∧ maxL ≤ 21
/-- a constructor of the pool, nest (true) or not -/
def IK (own : String) (i : Nat) (y : MethodName) (hd : Cond) (maxL na : Nat) : Prop := ∃ (bytes : ByteArray), hd = Cond.code y bytes maxL none ∧ hd ∈ TT ∧ (Cond.methodLink own i y ∈ TT ∨ ∃ host, (own, i, y, host) ∈ nWords) ∧ Cond.instanceMethod y ∈ TT ∧ Cond.initialized y.cls ∈ TT ∧ y.name = "<init>" ∧ (y.cls ≠ "java/lang/invoke/MethodHandle" ∧ y.cls ≠ "java/lang/invoke/VarHandle") ∧ (parseMethodDescriptor y.desc).map (fun d => d.parameters.length) = some na ∧ maxL ≤ 21
theorem par_len {y : MethodName} {na : Nat} (h : (parseMethodDescriptor y.desc).map (fun d => d.parameters.length) = some na) {N : Nat} (hN : N = na) : ∀ sig, parseMethodDescriptor y.desc = some sig → N = sig.parameters.length := by
  intro sig hs
  rw [hs] at h
  rw [hN]
  exact (Option.some.inj h).symm
theorem q_callV {i ci b maxL d' rc' rs' na : Nat} {y : MethodName} {hd : Cond} {As : List Value} {w wr : va_W} {post' : Pst} {px' : Pxc} {e9 : va_E} {fs : List Value} {C : String} {T9 : u_T} {N9 : Nat} (q0 : Nat) (isC isR : List Nat) (pc' : Nat)
    (hM : Ct l g y hd d' rc' rs' (.ref b :: As) w post' px') (hV : VK M.own i y hd maxL C na) (hdc : decode M.cc pc = .ok (.invokevirtual i, 3)) (hst : st0 = As.reverse ++ .ref b :: st) (hna : As.length = na)
    (hq : ws[q0]? = some (b, e9)) (he9 : e9 = .inr (ci, fs)) (hC : vwCl[ci]? = some (C, T9, N9))
    (hc : isC.map (fun i => ws[i]?) = w.map some) (hr : isR.map (fun i => ws[i]?) = wr.map some) (hnc : va_nd isC = true) (hnr : va_nd isR = true) (hdis : ∀ i ∈ isR, i ∉ isC)
    (hW : (st.map fun v => v.category).sum ≤ 8) (hd1 : d' + 1 ≤ d) (hrc : k + rc' ≤ rc) (hrs : n + rs' ≤ rs) (hp : pc + 3 = pc')
    (kx : ∀ (E : String) (w1 : va_W) (k' n' : Nat), px' E w1 k' n' → M.tb = [] ∧ px E (wr ++ w1) (k + k') (n + n'))
    (kk : ∀ (v : Option Value) (w1 : va_W) (k' n' : Nat), post' v w1 k' n' → WPs l g M d rc rs post px a pc' L (v.toList ++ st) (wr ++ w1) (k + k') (n + n')) : WPs l g M d rc rs post px a pc L st0 ws k n := by
  intro hE H locs ls hP hD hS hl
  obtain ⟨⟨hx, hb, hml, hown, hts⟩, hlk, hret, htb, hnm, hA, hK, hO, hT⟩ := id hE
  subst hp; subst hst; subst he9
  obtain ⟨bytes, ret, rfl, v1, v2, v3, v4, v5, v6, v7, v8⟩ := hV
  intro T hTH X
  obtain ⟨cellB, hcB, hoB, hclB⟩ := va_recv hK hP hC hq
  have hKb : vx_Back l (rm d rc rs) a.p a.e a.below a.s a.args y 3 8 (ctPre g (rm d rc rs) rc' rs' (.ref b :: As) w H.size) (ctPost g post' w H.size) (ctPostX g px' w H.size) := ct_back hM hT hd1 (by show 8 + (maxL + 11) + 40 * d' ≤ 40 * d; omega) hts v1 codeOf_code v5
  rcases vx_callV X hx (C := C) hown (hts _ v2) (hts _ v3) (hts _ v4) (hts _ v1) v6 hKb (by rw [hTH]; exact hcB) hoB hclB (g := F0 a.m pc ls (As.reverse ++ .ref b :: st)) rfl (hl.1.trans hml.symm) (argsL := As) (rest := st) (par_len v7 hna) rfl (by show 2 * 0 + _ ≤ 8; omega) (by rw [hb]; exact hdc)
    (q_pre (args' := .ref b :: As) hE hP hD hS hTH isC hnc hc hrc hrs) with ⟨v, vm₁, ⟨U', l2, c2, s2⟩, hW₁, X', hpo, hst⟩ | ⟨q, vm₁, ⟨U', l2, c2, s2⟩, hW₁, X', hpo, hst⟩
  · obtain ⟨t2, a1, b1⟩ := q_post (pc' := pc + 3) (st := st) hE hP hD hS hl hTH isC isR hc hr hnr hdis hpo X' kk
    exact ⟨t2, hst t2 a1, b1⟩
  · have htb0 : M.tb = [] := by
      obtain ⟨gf, mk, t, Lc, E, ce, k', n', -, -, ⟨w1, hq9, -⟩, -⟩ := hpo
      exact (kx E w1 k' n' hq9).1
    obtain ⟨t2, a1, b1⟩ := q_postX (pc := pc) (st := st) hE htb0 hP hD hS hTH isC isR hc hr hnr hdis hW₁ hpo X' (fun E w1 k' n' h => (kx E w1 k' n' h).2)
    exact ⟨t2, hst.trans a1, b1⟩
theorem q_callS {i maxL d' rc' rs' na : Nat} {y : MethodName} {hd : Cond} {As : List Value} {w wr : va_W} {post' : Pst} {px' : Pxc} (isC isR : List Nat) (pc' : Nat)
    (hM : Ct l g y hd d' rc' rs' As w post' px') (hV : SK M.own i y hd maxL na) (hdc : decode M.cc pc = .ok (.invokestatic i, 3)) (hst : st0 = As.reverse ++ st) (hna : As.length = na)
    (hc : isC.map (fun i => ws[i]?) = w.map some) (hr : isR.map (fun i => ws[i]?) = wr.map some) (hnc : va_nd isC = true) (hnr : va_nd isR = true) (hdis : ∀ i ∈ isR, i ∉ isC)
    (hW : (st.map fun v => v.category).sum ≤ 8) (hd1 : d' + 1 ≤ d) (hrc : k + rc' ≤ rc) (hrs : n + rs' ≤ rs) (hp : pc + 3 = pc')
    (kx : ∀ (E : String) (w1 : va_W) (k' n' : Nat), px' E w1 k' n' → M.tb = [] ∧ px E (wr ++ w1) (k + k') (n + n'))
    (kk : ∀ (v : Option Value) (w1 : va_W) (k' n' : Nat), post' v w1 k' n' → WPs l g M d rc rs post px a pc' L (v.toList ++ st) (wr ++ w1) (k + k') (n + n')) : WPs l g M d rc rs post px a pc L st0 ws k n := by
  intro hE H locs ls hP hD hS hl
  obtain ⟨⟨hx, hb, hml, hown, hts⟩, hlk, hret, htb, hnm, hA, hK, hO, hT⟩ := id hE
  subst hp; subst hst
  obtain ⟨bytes, ret, rfl, v1, v2, v3, v5, v6, v7, v8⟩ := hV
  intro T hTH X
  have hKb : vx_Back l (rm d rc rs) a.p a.e a.below a.s a.args y 3 8 (ctPre g (rm d rc rs) rc' rs' As w H.size) (ctPost g post' w H.size) (ctPostX g px' w H.size) := ct_back hM hT hd1 (by show 8 + (maxL + 11) + 40 * d' ≤ 40 * d; omega) hts v1 codeOf_code v5
  rcases vx_callS X hx hown (hts _ v2) (hts _ v3) (hts _ v5) (hts _ v1) v6 hKb (g := F0 a.m pc ls (As.reverse ++ st)) rfl (hl.1.trans hml.symm) (argsL := As) (rest := st) (par_len v7 hna) rfl (by show 2 * 0 + _ ≤ 8; omega) (by rw [hb]; exact hdc)
    (q_pre (args' := As) hE hP hD hS hTH isC hnc hc hrc hrs) with ⟨v, vm₁, ⟨U', l2, c2, s2⟩, hW₁, X', hpo, hst⟩ | ⟨q, vm₁, ⟨U', l2, c2, s2⟩, hW₁, X', hpo, hst⟩
  · obtain ⟨t2, a1, b1⟩ := q_post (pc' := pc + 3) (st := st) hE hP hD hS hl hTH isC isR hc hr hnr hdis hpo X' kk
    exact ⟨t2, hst t2 a1, b1⟩
  · have htb0 : M.tb = [] := by
      obtain ⟨gf, mk, t, Lc, E, ce, k', n', -, -, ⟨w1, hq9, -⟩, -⟩ := hpo
      exact (kx E w1 k' n' hq9).1
    obtain ⟨t2, a1, b1⟩ := q_postX (pc := pc) (st := st) hE htb0 hP hD hS hTH isC isR hc hr hnr hdis hW₁ hpo X' (fun E w1 k' n' h => (kx E w1 k' n' h).2)
    exact ⟨t2, hst.trans a1, b1⟩
theorem q_callSW {i maxL d' rc' rs' na : Nat} {y : MethodName} {hd : Cond} {As : List Value} {w wr : va_W} {post' : Pst} (isC isR : List Nat) (pc' : Nat)
    (hM : Ct l g y hd d' rc' rs' As w post' noX) (hV : SKW M.own i y hd maxL na) (hdc : decode M.cc pc = .ok (.invokestatic i, 3)) (hst : st0 = As.reverse ++ st) (hna : As.length = na)
    (hc : isC.map (fun i => ws[i]?) = w.map some) (hr : isR.map (fun i => ws[i]?) = wr.map some) (hnc : va_nd isC = true) (hnr : va_nd isR = true) (hdis : ∀ i ∈ isR, i ∉ isC)
    (hW : (st.map fun v => v.category).sum ≤ 8) (hd1 : d' + 1 ≤ d) (hrc : k + rc' ≤ rc) (hrs : n + rs' ≤ rs) (hp : pc + 3 = pc')
    (kk : ∀ (v : Option Value) (w1 : va_W) (k' n' : Nat), post' v w1 k' n' → WPs l g M d rc rs post px a pc' L (v.toList ++ st) (wr ++ w1) (k + k') (n + n')) : WPs l g M d rc rs post px a pc L st0 ws k n := by
  intro hE H locs ls hP hD hS hl
  obtain ⟨⟨hx, hb, hml, hown, hts⟩, hlk, hret, htb, hnm, hA, hK, hO, hT⟩ := id hE
  subst hp; subst hst
  obtain ⟨bytes, ret, hh, rfl, v1, v2, v3, v5, v6, v7, v8⟩ := hV
  intro T hTH X
  have hKb : Back l (rm d rc rs) a.p a.e a.below a.s a.args y 3 8 (ctPre g (rm d rc rs) rc' rs' As w H.size) (ctPost g post' w H.size) := ct_back0 hM hT hd1 (by show 8 + (maxL + 11) + 40 * d' ≤ 40 * d; omega) hts v1 codeOf_with v5
  obtain ⟨v, vm₁, ⟨U', l2, c2, s2⟩, hW₁, X', hpo, hst⟩ := vx_callSW X hx hown (hts _ v2) (hts _ v3) (hts _ v5) (hts _ v1) v6 hKb (g := F0 a.m pc ls (As.reverse ++ st)) rfl (hl.1.trans hml.symm) (argsL := As) (rest := st) (par_len v7 hna) rfl (by show 2 * 0 + _ ≤ 8; omega) (by rw [hb]; exact hdc)
    (q_pre (args' := As) hE hP hD hS hTH isC hnc hc hrc hrs)
  obtain ⟨t2, a1, b1⟩ := q_post (pc' := pc + 3) (st := st) hE hP hD hS hl hTH isC isR hc hr hnr hdis hpo X' kk
  exact ⟨t2, hst t2 a1, b1⟩
theorem q_callI {i b maxL d' rc' rs' na : Nat} {y : MethodName} {hd : Cond} {As : List Value} {w wr : va_W} {post' : Pst} (isC isR : List Nat) (pc' : Nat)
    (hM : Ct l g y hd d' rc' rs' (.ref b :: As) w post' noX) (hV : IK M.own i y hd maxL na) (hdc : decode M.cc pc = .ok (.invokespecial i, 3)) (hst : st0 = As.reverse ++ .ref b :: st) (hna : As.length = na)
    (hc : isC.map (fun i => ws[i]?) = w.map some) (hr : isR.map (fun i => ws[i]?) = wr.map some) (hnc : va_nd isC = true) (hnr : va_nd isR = true) (hdis : ∀ i ∈ isR, i ∉ isC)
    (hW : (st.map fun v => v.category).sum ≤ 8) (hd1 : d' + 1 ≤ d) (hrc : k + rc' ≤ rc) (hrs : n + rs' ≤ rs) (hp : pc + 3 = pc')
    (kk : ∀ (v : Option Value) (w1 : va_W) (k' n' : Nat), post' v w1 k' n' → WPs l g M d rc rs post px a pc' L (v.toList ++ st) (wr ++ w1) (k + k') (n + n')) : WPs l g M d rc rs post px a pc L st0 ws k n := by
  intro hE H locs ls hP hD hS hl
  obtain ⟨⟨hx, hb, hml, hown, hts⟩, hlk, hret, htb, hnm, hA, hK, hO, hT⟩ := id hE
  subst hp; subst hst
  obtain ⟨bytes, rfl, v1, v2, v3, v5, v4, v6, v7, v8⟩ := hV
  intro T hTH X
  have hKb : Back l (rm d rc rs) a.p a.e a.below a.s a.args y 3 8 (ctPre g (rm d rc rs) rc' rs' (.ref b :: As) w H.size) (ctPost g post' w H.size) := ct_back0 hM hT hd1 (by show 8 + (maxL + 11) + 40 * d' ≤ 40 * d; omega) hts v1 codeOf_code v5
  have hpre := q_pre (d := d) (args' := .ref b :: As) hE hP hD hS hTH isC hnc hc hrc hrs
  rcases v2 with v2 | ⟨host, v2⟩
  · obtain ⟨v, vm₁, ⟨U', l2, c2, s2⟩, hW₁, X', hpo, hst⟩ := callI X hx hown v4 (hts _ v2) (hts _ v3) (hts _ v1) v6 hKb (g := F0 a.m pc ls (As.reverse ++ .ref b :: st)) rfl (hl.1.trans hml.symm) (a := b) (argsL := As) (rest := st) (par_len v7 hna) rfl (by show 2 * 0 + _ ≤ 8; omega) (by rw [hb]; exact hdc) hpre
    obtain ⟨t2, a1, b1⟩ := q_post (pc' := pc + 3) (st := st) hE hP hD hS hl hTH isC isR hc hr hnr hdis hpo X' kk
    exact ⟨t2, hst t2 a1, b1⟩
  · have hnw : (Cond.methodLinkNest M.own i y host).before a.args a.s = true := va_Nw.use rfl (hO.2.2.2.2.2.1 _ v2)
    obtain ⟨v, vm₁, ⟨U', l2, c2, s2⟩, hW₁, X', hpo, hst⟩ := va_callIN X hx hown v4 hnw (hts _ v3) (hts _ v1) v6 hKb (g := F0 a.m pc ls (As.reverse ++ .ref b :: st)) rfl (hl.1.trans hml.symm) (a := b) (argsL := As) (rest := st) (par_len v7 hna) rfl (by show 2 * 0 + _ ≤ 8; omega) (by rw [hb]; exact hdc) hpre
    obtain ⟨t2, a1, b1⟩ := q_post (pc' := pc + 3) (st := st) hE hP hD hS hl hTH isC isR hc hr hnr hdis hpo X' kk
    exact ⟨t2, hst t2 a1, b1⟩
theorem q_objInit {i b : Nat} (pc' : Nat) (h1 : Cond.methodLink M.own i Lib.objectInit ∈ TT) (hdc : decode M.cc pc = .ok (.invokespecial i, 3)) (hW : (st.map fun v => v.category).sum ≤ 8) (hd1 : 1 ≤ d) (hp : pc + 3 = pc') (kk : WPs l g M d rc rs post px a pc' L st ws k n) : WPs l g M d rc rs post px a pc L (.ref b :: st) ws k n := by
  intro hE H locs ls hP hD hS hl
  obtain ⟨⟨hx, hb, hml, hown, hts⟩, hlk, hret, htb, hnm, hA, hK, hO, hT⟩ := id hE
  subst hp
  exact W.objInit hx hb hown (hts _ h1) (hts _ obj_inst) (hts _ obj_code) rfl (hl.1.trans hml.symm) rfl hdc hd1 (by show 2 * 0 + _ + 12 ≤ 40 * d; omega) (kk hE H locs ls hP hD hS hl)
end CallsB
/-! ===== a contract out of a walk ===== -/
/-- the method of a word -/
def MtOf (y : MethodName) (bytes : ByteArray) (maxL : Nat) (ret : Option FieldType) : Mt := (y.cls, bytes, maxL, ret, [], y.name)
theorem ct_of {l : Launch} {g : Gh} {y : MethodName} {bytes : ByteArray} {maxL : Nat} {ret : Option FieldType} {M : Mt} {d rc rs : Nat} {args : List Value} {w : va_W} {post : Pst} {px : Pxc} (L : List (Option Value))
    (hM : M = (y.cls, bytes, maxL, ret, [], y.name)) (hy : plainName y.cls = true) (hlen : (lg_sl args).length ≤ maxL) (hL : ∀ q ∈ lp 0 L, q ∈ lv_args 0 args)
    (body : ∀ a : Act, WPs l g M d rc rs post px a 0 L [] w 0 0) : Ct l g y (Cond.code y bytes maxL ret) d rc rs args w post px := by
  intro hst sz
  subst hM
  refine MetFree.of_bodyS (code := bytes) (maxLocals := maxL) (ret := ret) hy ?_ ?_
  · intro args s m h hn
    obtain ⟨meth, c, h1, h2, h3, h4, h5, h6, -, -⟩ := Cond.code_spec hn (atoms_spec (ws := Cond.code y bytes maxL ret :: TT) h _ List.mem_cons_self)
    exact ⟨meth, c, h1, h2, h3, h4, h5, h6⟩
  · intro p e s m args0 below meth c s₁ B hml hP _
    obtain ⟨rfl, hsz, hP0, hK, hD0, hO⟩ := hP
    have hh0 : s₁.heap = s.heap := by rw [B.state]; rfl
    have hts0 := atoms_spec (ws := Cond.code y bytes maxL ret :: TT) B.pre
    have htb : c.exceptionTable.toList = [] := by
      have h := B.noHandlers (hts0 _ List.mem_cons_self)
      simpa using h
    subst hsz
    have hl := lv_entry args (n := maxL) hlen
    have hE : EnvOK l g (y.cls, bytes, maxL, ret, [], y.name) (p, e, s, m, args.toArray, below, meth, c, va_A w s.heap.size) :=
      ⟨⟨B.exec, B.bytes, hml, findClass_of_methodNamed B.named, fun w hw => hts0 w (List.mem_cons_of_mem _ hw)⟩, B.notSynchronized, B.returns, htb, (name_of_methodNamed B.named B.method).1, fun q hq => Or.inr hq, hK, hO, hst⟩
    have K := body (p, e, s, m, args.toArray, below, meth, c, va_A w s.heap.size) hE s.heap [] _ hP0 (hD0.self (sz := s.heap.size)) va_S.rf (lv_less hl hL)
    rw [← lg_entry_eq] at K
    obtain ⟨t, a1, o, b1, b2, b3⟩ := K s₁ hh0 (Stand.of_body B)
    exact ⟨t, o, a1, b1, b2, b3⟩
