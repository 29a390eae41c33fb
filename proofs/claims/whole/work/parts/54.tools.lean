/-- a post that knows its cells up to x, of which Φ holds; makes nothing -/
def pE {α : Type} (v : α → Option Value) (w : α → va_W) (Φ : α → Prop) : Pst := fun v' w' k n => k = 0 ∧ n = 0 ∧ ∃ x : α, Φ x ∧ v' = v x ∧ w' = w x
theorem pE.mk {α : Type} {v : α → Option Value} {w : α → va_W} {Φ : α → Prop} {v' : Option Value} {w' : va_W} (x : α) (h : Φ x) (h1 : v' = v x) (h2 : w' = w x) : pE v w Φ v' w' 0 0 := ⟨rfl, rfl, x, h, h1, h2⟩
/-- the same with counters -/
def pX {α : Type} (v : α → Option Value) (w : α → va_W) (Φ : α → Nat → Nat → Prop) : Pst := fun v' w' k n => ∃ x : α, Φ x k n ∧ v' = v x ∧ w' = w x
theorem pX.mk {α : Type} {v : α → Option Value} {w : α → va_W} {Φ : α → Nat → Nat → Prop} {v' : Option Value} {w' : va_W} {k n : Nat} (x : α) (h : Φ x k n) (h1 : v' = v x) (h2 : w' = w x) : pX v w Φ v' w' k n := ⟨x, h, h1, h2⟩
abbrev Ce {α : Type} (l : Launch) (g : Gh) (y : MethodName) (hd : Cond) (d : Nat) (args : List Value) (w : va_W) (v : α → Option Value) (w1 : α → va_W) (Φ : α → Prop) : Prop := Ct l g y hd d 0 0 args w (pE v w1 Φ) noX
abbrev Cn {α : Type} (l : Launch) (g : Gh) (y : MethodName) (hd : Cond) (d rc rs : Nat) (args : List Value) (w : va_W) (v : α → Option Value) (w1 : α → va_W) (Φ : α → Nat → Nat → Prop) : Prop := Ct l g y hd d rc rs args w (pX v w1 Φ) noX
section Tools
variable {l : Launch} {g : Gh} {M : Mt} {d rc rs : Nat} {post : Pst} {px : Pxc} {a : Act} {pc : Nat} {L : List (Option Value)} {st st0 : List Value} {ws : va_W} {k n : Nat}
theorem q_xVi {α : Type} {i ci b maxL d' na : Nat} {y : MethodName} {hd : Cond} {As : List Value} {w wr : va_W} {w1 ws' : α → va_W} {r : α → Int32} {Φ : α → Prop} {e9 : va_E} {fs : List Value} {C : String} {T9 : u_T} {N9 : Nat} (q0 : Nat) (isC isR sel : List Nat) (pc' : Nat) (hM : Ce l g y hd d' (.ref b :: As) w (fun x => some (.int (r x))) w1 Φ) (hV : VK M.own i y hd maxL C na) (hdc : decode M.cc pc = .ok (.invokevirtual i, 3)) (hst : st0 = As.reverse ++ .ref b :: st) (hna : As.length = na) (hq : ws[q0]? = some (b, e9)) (he9 : e9 = .inr (ci, fs)) (hC : vwCl[ci]? = some (C, T9, N9)) (hc : isC.map (fun i => ws[i]?) = w.map some) (hr : isR.map (fun i => ws[i]?) = wr.map some) (hsel : ∀ x, sel.map (fun i => (wr ++ w1 x)[i]?) = (ws' x).map some) (hnc : va_nd isC = true) (hnr : va_nd isR = true) (hns : va_nd sel = true) (hdis : ∀ i ∈ isR, i ∉ isC) (hW : (st.map fun v => v.category).sum ≤ 8) (hd1 : d' + 1 ≤ d) (hrc : k ≤ rc) (hrs : n ≤ rs) (hp : pc + 3 = pc') (kk : ∀ x : α, Φ x → WPs l g M d rc rs post px a pc' L (.int (r x) :: st) (ws' x) k n) : WPs l g M d rc rs post px a pc L st0 ws k n := by
  refine q_callV q0 isC isR pc' hM hV hdc hst hna hq he9 hC hc hr hnc hnr hdis hW hd1 (by omega) (by omega) hp (fun _ _ _ _ h => h.elim) (fun v0 w0 k' n' h => ?_)
  obtain ⟨rfl, rfl, x, hx, rfl, rfl⟩ := h
  exact q_sub sel hns (hsel x) (kk x hx)
theorem q_xSi {α : Type} {i maxL d' na : Nat} {y : MethodName} {hd : Cond} {As : List Value} {w wr : va_W} {w1 ws' : α → va_W} {r : α → Int32} {Φ : α → Prop} (isC isR sel : List Nat) (pc' : Nat) (hM : Ce l g y hd d' As w (fun x => some (.int (r x))) w1 Φ) (hV : SK M.own i y hd maxL na) (hdc : decode M.cc pc = .ok (.invokestatic i, 3)) (hst : st0 = As.reverse ++ st) (hna : As.length = na) (hc : isC.map (fun i => ws[i]?) = w.map some) (hr : isR.map (fun i => ws[i]?) = wr.map some) (hsel : ∀ x, sel.map (fun i => (wr ++ w1 x)[i]?) = (ws' x).map some) (hnc : va_nd isC = true) (hnr : va_nd isR = true) (hns : va_nd sel = true) (hdis : ∀ i ∈ isR, i ∉ isC) (hW : (st.map fun v => v.category).sum ≤ 8) (hd1 : d' + 1 ≤ d) (hrc : k ≤ rc) (hrs : n ≤ rs) (hp : pc + 3 = pc') (kk : ∀ x : α, Φ x → WPs l g M d rc rs post px a pc' L (.int (r x) :: st) (ws' x) k n) : WPs l g M d rc rs post px a pc L st0 ws k n := by
  refine q_callS isC isR pc' hM hV hdc hst hna hc hr hnc hnr hdis hW hd1 (by omega) (by omega) hp (fun _ _ _ _ h => h.elim) (fun v0 w0 k' n' h => ?_)
  obtain ⟨rfl, rfl, x, hx, rfl, rfl⟩ := h
  exact q_sub sel hns (hsel x) (kk x hx)
theorem q_xVl {α : Type} {i ci b maxL d' na : Nat} {y : MethodName} {hd : Cond} {As : List Value} {w wr : va_W} {w1 ws' : α → va_W} {r : α → Int64} {Φ : α → Prop} {e9 : va_E} {fs : List Value} {C : String} {T9 : u_T} {N9 : Nat} (q0 : Nat) (isC isR sel : List Nat) (pc' : Nat) (hM : Ce l g y hd d' (.ref b :: As) w (fun x => some (.long (r x))) w1 Φ) (hV : VK M.own i y hd maxL C na) (hdc : decode M.cc pc = .ok (.invokevirtual i, 3)) (hst : st0 = As.reverse ++ .ref b :: st) (hna : As.length = na) (hq : ws[q0]? = some (b, e9)) (he9 : e9 = .inr (ci, fs)) (hC : vwCl[ci]? = some (C, T9, N9)) (hc : isC.map (fun i => ws[i]?) = w.map some) (hr : isR.map (fun i => ws[i]?) = wr.map some) (hsel : ∀ x, sel.map (fun i => (wr ++ w1 x)[i]?) = (ws' x).map some) (hnc : va_nd isC = true) (hnr : va_nd isR = true) (hns : va_nd sel = true) (hdis : ∀ i ∈ isR, i ∉ isC) (hW : (st.map fun v => v.category).sum ≤ 8) (hd1 : d' + 1 ≤ d) (hrc : k ≤ rc) (hrs : n ≤ rs) (hp : pc + 3 = pc') (kk : ∀ x : α, Φ x → WPs l g M d rc rs post px a pc' L (.long (r x) :: st) (ws' x) k n) : WPs l g M d rc rs post px a pc L st0 ws k n := by
  refine q_callV q0 isC isR pc' hM hV hdc hst hna hq he9 hC hc hr hnc hnr hdis hW hd1 (by omega) (by omega) hp (fun _ _ _ _ h => h.elim) (fun v0 w0 k' n' h => ?_)
  obtain ⟨rfl, rfl, x, hx, rfl, rfl⟩ := h
  exact q_sub sel hns (hsel x) (kk x hx)
theorem q_xSl {α : Type} {i maxL d' na : Nat} {y : MethodName} {hd : Cond} {As : List Value} {w wr : va_W} {w1 ws' : α → va_W} {r : α → Int64} {Φ : α → Prop} (isC isR sel : List Nat) (pc' : Nat) (hM : Ce l g y hd d' As w (fun x => some (.long (r x))) w1 Φ) (hV : SK M.own i y hd maxL na) (hdc : decode M.cc pc = .ok (.invokestatic i, 3)) (hst : st0 = As.reverse ++ st) (hna : As.length = na) (hc : isC.map (fun i => ws[i]?) = w.map some) (hr : isR.map (fun i => ws[i]?) = wr.map some) (hsel : ∀ x, sel.map (fun i => (wr ++ w1 x)[i]?) = (ws' x).map some) (hnc : va_nd isC = true) (hnr : va_nd isR = true) (hns : va_nd sel = true) (hdis : ∀ i ∈ isR, i ∉ isC) (hW : (st.map fun v => v.category).sum ≤ 8) (hd1 : d' + 1 ≤ d) (hrc : k ≤ rc) (hrs : n ≤ rs) (hp : pc + 3 = pc') (kk : ∀ x : α, Φ x → WPs l g M d rc rs post px a pc' L (.long (r x) :: st) (ws' x) k n) : WPs l g M d rc rs post px a pc L st0 ws k n := by
  refine q_callS isC isR pc' hM hV hdc hst hna hc hr hnc hnr hdis hW hd1 (by omega) (by omega) hp (fun _ _ _ _ h => h.elim) (fun v0 w0 k' n' h => ?_)
  obtain ⟨rfl, rfl, x, hx, rfl, rfl⟩ := h
  exact q_sub sel hns (hsel x) (kk x hx)
theorem q_xVr {α : Type} {i ci b maxL d' na : Nat} {y : MethodName} {hd : Cond} {As : List Value} {w wr : va_W} {w1 ws' : α → va_W} {r : α → Nat} {Φ : α → Prop} {e9 : va_E} {fs : List Value} {C : String} {T9 : u_T} {N9 : Nat} (q0 : Nat) (isC isR sel : List Nat) (pc' : Nat) (hM : Ce l g y hd d' (.ref b :: As) w (fun x => some (.ref (r x))) w1 Φ) (hV : VK M.own i y hd maxL C na) (hdc : decode M.cc pc = .ok (.invokevirtual i, 3)) (hst : st0 = As.reverse ++ .ref b :: st) (hna : As.length = na) (hq : ws[q0]? = some (b, e9)) (he9 : e9 = .inr (ci, fs)) (hC : vwCl[ci]? = some (C, T9, N9)) (hc : isC.map (fun i => ws[i]?) = w.map some) (hr : isR.map (fun i => ws[i]?) = wr.map some) (hsel : ∀ x, sel.map (fun i => (wr ++ w1 x)[i]?) = (ws' x).map some) (hnc : va_nd isC = true) (hnr : va_nd isR = true) (hns : va_nd sel = true) (hdis : ∀ i ∈ isR, i ∉ isC) (hW : (st.map fun v => v.category).sum ≤ 8) (hd1 : d' + 1 ≤ d) (hrc : k ≤ rc) (hrs : n ≤ rs) (hp : pc + 3 = pc') (kk : ∀ x : α, Φ x → WPs l g M d rc rs post px a pc' L (.ref (r x) :: st) (ws' x) k n) : WPs l g M d rc rs post px a pc L st0 ws k n := by
  refine q_callV q0 isC isR pc' hM hV hdc hst hna hq he9 hC hc hr hnc hnr hdis hW hd1 (by omega) (by omega) hp (fun _ _ _ _ h => h.elim) (fun v0 w0 k' n' h => ?_)
  obtain ⟨rfl, rfl, x, hx, rfl, rfl⟩ := h
  exact q_sub sel hns (hsel x) (kk x hx)
theorem q_xSr {α : Type} {i maxL d' na : Nat} {y : MethodName} {hd : Cond} {As : List Value} {w wr : va_W} {w1 ws' : α → va_W} {r : α → Nat} {Φ : α → Prop} (isC isR sel : List Nat) (pc' : Nat) (hM : Ce l g y hd d' As w (fun x => some (.ref (r x))) w1 Φ) (hV : SK M.own i y hd maxL na) (hdc : decode M.cc pc = .ok (.invokestatic i, 3)) (hst : st0 = As.reverse ++ st) (hna : As.length = na) (hc : isC.map (fun i => ws[i]?) = w.map some) (hr : isR.map (fun i => ws[i]?) = wr.map some) (hsel : ∀ x, sel.map (fun i => (wr ++ w1 x)[i]?) = (ws' x).map some) (hnc : va_nd isC = true) (hnr : va_nd isR = true) (hns : va_nd sel = true) (hdis : ∀ i ∈ isR, i ∉ isC) (hW : (st.map fun v => v.category).sum ≤ 8) (hd1 : d' + 1 ≤ d) (hrc : k ≤ rc) (hrs : n ≤ rs) (hp : pc + 3 = pc') (kk : ∀ x : α, Φ x → WPs l g M d rc rs post px a pc' L (.ref (r x) :: st) (ws' x) k n) : WPs l g M d rc rs post px a pc L st0 ws k n := by
  refine q_callS isC isR pc' hM hV hdc hst hna hc hr hnc hnr hdis hW hd1 (by omega) (by omega) hp (fun _ _ _ _ h => h.elim) (fun v0 w0 k' n' h => ?_)
  obtain ⟨rfl, rfl, x, hx, rfl, rfl⟩ := h
  exact q_sub sel hns (hsel x) (kk x hx)
theorem q_xVv {α : Type} {i ci b maxL d' na : Nat} {y : MethodName} {hd : Cond} {As : List Value} {w wr : va_W} {w1 ws' : α → va_W}  {Φ : α → Prop} {e9 : va_E} {fs : List Value} {C : String} {T9 : u_T} {N9 : Nat} (q0 : Nat) (isC isR sel : List Nat) (pc' : Nat) (hM : Ce l g y hd d' (.ref b :: As) w (fun _ => none) w1 Φ) (hV : VK M.own i y hd maxL C na) (hdc : decode M.cc pc = .ok (.invokevirtual i, 3)) (hst : st0 = As.reverse ++ .ref b :: st) (hna : As.length = na) (hq : ws[q0]? = some (b, e9)) (he9 : e9 = .inr (ci, fs)) (hC : vwCl[ci]? = some (C, T9, N9)) (hc : isC.map (fun i => ws[i]?) = w.map some) (hr : isR.map (fun i => ws[i]?) = wr.map some) (hsel : ∀ x, sel.map (fun i => (wr ++ w1 x)[i]?) = (ws' x).map some) (hnc : va_nd isC = true) (hnr : va_nd isR = true) (hns : va_nd sel = true) (hdis : ∀ i ∈ isR, i ∉ isC) (hW : (st.map fun v => v.category).sum ≤ 8) (hd1 : d' + 1 ≤ d) (hrc : k ≤ rc) (hrs : n ≤ rs) (hp : pc + 3 = pc') (kk : ∀ x : α, Φ x → WPs l g M d rc rs post px a pc' L st (ws' x) k n) : WPs l g M d rc rs post px a pc L st0 ws k n := by
  refine q_callV q0 isC isR pc' hM hV hdc hst hna hq he9 hC hc hr hnc hnr hdis hW hd1 (by omega) (by omega) hp (fun _ _ _ _ h => h.elim) (fun v0 w0 k' n' h => ?_)
  obtain ⟨rfl, rfl, x, hx, rfl, rfl⟩ := h
  exact q_sub sel hns (hsel x) (kk x hx)
theorem q_xSv {α : Type} {i maxL d' na : Nat} {y : MethodName} {hd : Cond} {As : List Value} {w wr : va_W} {w1 ws' : α → va_W}  {Φ : α → Prop} (isC isR sel : List Nat) (pc' : Nat) (hM : Ce l g y hd d' As w (fun _ => none) w1 Φ) (hV : SK M.own i y hd maxL na) (hdc : decode M.cc pc = .ok (.invokestatic i, 3)) (hst : st0 = As.reverse ++ st) (hna : As.length = na) (hc : isC.map (fun i => ws[i]?) = w.map some) (hr : isR.map (fun i => ws[i]?) = wr.map some) (hsel : ∀ x, sel.map (fun i => (wr ++ w1 x)[i]?) = (ws' x).map some) (hnc : va_nd isC = true) (hnr : va_nd isR = true) (hns : va_nd sel = true) (hdis : ∀ i ∈ isR, i ∉ isC) (hW : (st.map fun v => v.category).sum ≤ 8) (hd1 : d' + 1 ≤ d) (hrc : k ≤ rc) (hrs : n ≤ rs) (hp : pc + 3 = pc') (kk : ∀ x : α, Φ x → WPs l g M d rc rs post px a pc' L st (ws' x) k n) : WPs l g M d rc rs post px a pc L st0 ws k n := by
  refine q_callS isC isR pc' hM hV hdc hst hna hc hr hnc hnr hdis hW hd1 (by omega) (by omega) hp (fun _ _ _ _ h => h.elim) (fun v0 w0 k' n' h => ?_)
  obtain ⟨rfl, rfl, x, hx, rfl, rfl⟩ := h
  exact q_sub sel hns (hsel x) (kk x hx)
theorem q_xIv {α : Type} {i b maxL d' na : Nat} {y : MethodName} {hd : Cond} {As : List Value} {w wr : va_W} {w1 ws' : α → va_W}  {Φ : α → Prop} (isC isR sel : List Nat) (pc' : Nat) (hM : Ce l g y hd d' (.ref b :: As) w (fun _ => none) w1 Φ) (hV : IK M.own i y hd maxL na) (hdc : decode M.cc pc = .ok (.invokespecial i, 3)) (hst : st0 = As.reverse ++ .ref b :: st) (hna : As.length = na) (hc : isC.map (fun i => ws[i]?) = w.map some) (hr : isR.map (fun i => ws[i]?) = wr.map some) (hsel : ∀ x, sel.map (fun i => (wr ++ w1 x)[i]?) = (ws' x).map some) (hnc : va_nd isC = true) (hnr : va_nd isR = true) (hns : va_nd sel = true) (hdis : ∀ i ∈ isR, i ∉ isC) (hW : (st.map fun v => v.category).sum ≤ 8) (hd1 : d' + 1 ≤ d) (hrc : k ≤ rc) (hrs : n ≤ rs) (hp : pc + 3 = pc') (kk : ∀ x : α, Φ x → WPs l g M d rc rs post px a pc' L st (ws' x) k n) : WPs l g M d rc rs post px a pc L st0 ws k n := by
  refine q_callI isC isR pc' hM hV hdc hst hna hc hr hnc hnr hdis hW hd1 (by omega) (by omega) hp (fun v0 w0 k' n' h => ?_)
  obtain ⟨rfl, rfl, x, hx, rfl, rfl⟩ := h
  exact q_sub sel hns (hsel x) (kk x hx)
theorem q_yVi {α : Type} {i ci b maxL d' na : Nat} {y : MethodName} {hd : Cond} {As : List Value} {w wr : va_W} {w1 ws' : α → va_W} {r : α → Int32} {Φ : α → Nat → Nat → Prop} {rc' rs' : Nat} {e9 : va_E} {fs : List Value} {C : String} {T9 : u_T} {N9 : Nat} (q0 : Nat) (isC isR sel : List Nat) (pc' : Nat) (hM : Cn l g y hd d' rc' rs' (.ref b :: As) w (fun x => some (.int (r x))) w1 Φ) (hV : VK M.own i y hd maxL C na) (hdc : decode M.cc pc = .ok (.invokevirtual i, 3)) (hst : st0 = As.reverse ++ .ref b :: st) (hna : As.length = na) (hq : ws[q0]? = some (b, e9)) (he9 : e9 = .inr (ci, fs)) (hC : vwCl[ci]? = some (C, T9, N9)) (hc : isC.map (fun i => ws[i]?) = w.map some) (hr : isR.map (fun i => ws[i]?) = wr.map some) (hsel : ∀ x, sel.map (fun i => (wr ++ w1 x)[i]?) = (ws' x).map some) (hnc : va_nd isC = true) (hnr : va_nd isR = true) (hns : va_nd sel = true) (hdis : ∀ i ∈ isR, i ∉ isC) (hW : (st.map fun v => v.category).sum ≤ 8) (hd1 : d' + 1 ≤ d) (hrc : k + rc' ≤ rc) (hrs : n + rs' ≤ rs) (hp : pc + 3 = pc') (kk : ∀ (x : α) (k' n' : Nat), Φ x k' n' → WPs l g M d rc rs post px a pc' L (.int (r x) :: st) (ws' x) (k + k') (n + n')) : WPs l g M d rc rs post px a pc L st0 ws k n := by
  refine q_callV q0 isC isR pc' hM hV hdc hst hna hq he9 hC hc hr hnc hnr hdis hW hd1 hrc hrs hp (fun _ _ _ _ h => h.elim) (fun v0 w0 k' n' h => ?_)
  obtain ⟨x, hx, rfl, rfl⟩ := h
  exact q_sub sel hns (hsel x) (kk x k' n' hx)
theorem q_ySi {α : Type} {i maxL d' na : Nat} {y : MethodName} {hd : Cond} {As : List Value} {w wr : va_W} {w1 ws' : α → va_W} {r : α → Int32} {Φ : α → Nat → Nat → Prop} {rc' rs' : Nat} (isC isR sel : List Nat) (pc' : Nat) (hM : Cn l g y hd d' rc' rs' As w (fun x => some (.int (r x))) w1 Φ) (hV : SK M.own i y hd maxL na) (hdc : decode M.cc pc = .ok (.invokestatic i, 3)) (hst : st0 = As.reverse ++ st) (hna : As.length = na) (hc : isC.map (fun i => ws[i]?) = w.map some) (hr : isR.map (fun i => ws[i]?) = wr.map some) (hsel : ∀ x, sel.map (fun i => (wr ++ w1 x)[i]?) = (ws' x).map some) (hnc : va_nd isC = true) (hnr : va_nd isR = true) (hns : va_nd sel = true) (hdis : ∀ i ∈ isR, i ∉ isC) (hW : (st.map fun v => v.category).sum ≤ 8) (hd1 : d' + 1 ≤ d) (hrc : k + rc' ≤ rc) (hrs : n + rs' ≤ rs) (hp : pc + 3 = pc') (kk : ∀ (x : α) (k' n' : Nat), Φ x k' n' → WPs l g M d rc rs post px a pc' L (.int (r x) :: st) (ws' x) (k + k') (n + n')) : WPs l g M d rc rs post px a pc L st0 ws k n := by
  refine q_callS isC isR pc' hM hV hdc hst hna hc hr hnc hnr hdis hW hd1 hrc hrs hp (fun _ _ _ _ h => h.elim) (fun v0 w0 k' n' h => ?_)
  obtain ⟨x, hx, rfl, rfl⟩ := h
  exact q_sub sel hns (hsel x) (kk x k' n' hx)
theorem q_yVl {α : Type} {i ci b maxL d' na : Nat} {y : MethodName} {hd : Cond} {As : List Value} {w wr : va_W} {w1 ws' : α → va_W} {r : α → Int64} {Φ : α → Nat → Nat → Prop} {rc' rs' : Nat} {e9 : va_E} {fs : List Value} {C : String} {T9 : u_T} {N9 : Nat} (q0 : Nat) (isC isR sel : List Nat) (pc' : Nat) (hM : Cn l g y hd d' rc' rs' (.ref b :: As) w (fun x => some (.long (r x))) w1 Φ) (hV : VK M.own i y hd maxL C na) (hdc : decode M.cc pc = .ok (.invokevirtual i, 3)) (hst : st0 = As.reverse ++ .ref b :: st) (hna : As.length = na) (hq : ws[q0]? = some (b, e9)) (he9 : e9 = .inr (ci, fs)) (hC : vwCl[ci]? = some (C, T9, N9)) (hc : isC.map (fun i => ws[i]?) = w.map some) (hr : isR.map (fun i => ws[i]?) = wr.map some) (hsel : ∀ x, sel.map (fun i => (wr ++ w1 x)[i]?) = (ws' x).map some) (hnc : va_nd isC = true) (hnr : va_nd isR = true) (hns : va_nd sel = true) (hdis : ∀ i ∈ isR, i ∉ isC) (hW : (st.map fun v => v.category).sum ≤ 8) (hd1 : d' + 1 ≤ d) (hrc : k + rc' ≤ rc) (hrs : n + rs' ≤ rs) (hp : pc + 3 = pc') (kk : ∀ (x : α) (k' n' : Nat), Φ x k' n' → WPs l g M d rc rs post px a pc' L (.long (r x) :: st) (ws' x) (k + k') (n + n')) : WPs l g M d rc rs post px a pc L st0 ws k n := by
  refine q_callV q0 isC isR pc' hM hV hdc hst hna hq he9 hC hc hr hnc hnr hdis hW hd1 hrc hrs hp (fun _ _ _ _ h => h.elim) (fun v0 w0 k' n' h => ?_)
  obtain ⟨x, hx, rfl, rfl⟩ := h
  exact q_sub sel hns (hsel x) (kk x k' n' hx)
theorem q_ySl {α : Type} {i maxL d' na : Nat} {y : MethodName} {hd : Cond} {As : List Value} {w wr : va_W} {w1 ws' : α → va_W} {r : α → Int64} {Φ : α → Nat → Nat → Prop} {rc' rs' : Nat} (isC isR sel : List Nat) (pc' : Nat) (hM : Cn l g y hd d' rc' rs' As w (fun x => some (.long (r x))) w1 Φ) (hV : SK M.own i y hd maxL na) (hdc : decode M.cc pc = .ok (.invokestatic i, 3)) (hst : st0 = As.reverse ++ st) (hna : As.length = na) (hc : isC.map (fun i => ws[i]?) = w.map some) (hr : isR.map (fun i => ws[i]?) = wr.map some) (hsel : ∀ x, sel.map (fun i => (wr ++ w1 x)[i]?) = (ws' x).map some) (hnc : va_nd isC = true) (hnr : va_nd isR = true) (hns : va_nd sel = true) (hdis : ∀ i ∈ isR, i ∉ isC) (hW : (st.map fun v => v.category).sum ≤ 8) (hd1 : d' + 1 ≤ d) (hrc : k + rc' ≤ rc) (hrs : n + rs' ≤ rs) (hp : pc + 3 = pc') (kk : ∀ (x : α) (k' n' : Nat), Φ x k' n' → WPs l g M d rc rs post px a pc' L (.long (r x) :: st) (ws' x) (k + k') (n + n')) : WPs l g M d rc rs post px a pc L st0 ws k n := by
  refine q_callS isC isR pc' hM hV hdc hst hna hc hr hnc hnr hdis hW hd1 hrc hrs hp (fun _ _ _ _ h => h.elim) (fun v0 w0 k' n' h => ?_)
  obtain ⟨x, hx, rfl, rfl⟩ := h
  exact q_sub sel hns (hsel x) (kk x k' n' hx)
theorem q_yVr {α : Type} {i ci b maxL d' na : Nat} {y : MethodName} {hd : Cond} {As : List Value} {w wr : va_W} {w1 ws' : α → va_W} {r : α → Nat} {Φ : α → Nat → Nat → Prop} {rc' rs' : Nat} {e9 : va_E} {fs : List Value} {C : String} {T9 : u_T} {N9 : Nat} (q0 : Nat) (isC isR sel : List Nat) (pc' : Nat) (hM : Cn l g y hd d' rc' rs' (.ref b :: As) w (fun x => some (.ref (r x))) w1 Φ) (hV : VK M.own i y hd maxL C na) (hdc : decode M.cc pc = .ok (.invokevirtual i, 3)) (hst : st0 = As.reverse ++ .ref b :: st) (hna : As.length = na) (hq : ws[q0]? = some (b, e9)) (he9 : e9 = .inr (ci, fs)) (hC : vwCl[ci]? = some (C, T9, N9)) (hc : isC.map (fun i => ws[i]?) = w.map some) (hr : isR.map (fun i => ws[i]?) = wr.map some) (hsel : ∀ x, sel.map (fun i => (wr ++ w1 x)[i]?) = (ws' x).map some) (hnc : va_nd isC = true) (hnr : va_nd isR = true) (hns : va_nd sel = true) (hdis : ∀ i ∈ isR, i ∉ isC) (hW : (st.map fun v => v.category).sum ≤ 8) (hd1 : d' + 1 ≤ d) (hrc : k + rc' ≤ rc) (hrs : n + rs' ≤ rs) (hp : pc + 3 = pc') (kk : ∀ (x : α) (k' n' : Nat), Φ x k' n' → WPs l g M d rc rs post px a pc' L (.ref (r x) :: st) (ws' x) (k + k') (n + n')) : WPs l g M d rc rs post px a pc L st0 ws k n := by
  refine q_callV q0 isC isR pc' hM hV hdc hst hna hq he9 hC hc hr hnc hnr hdis hW hd1 hrc hrs hp (fun _ _ _ _ h => h.elim) (fun v0 w0 k' n' h => ?_)
  obtain ⟨x, hx, rfl, rfl⟩ := h
  exact q_sub sel hns (hsel x) (kk x k' n' hx)
theorem q_ySr {α : Type} {i maxL d' na : Nat} {y : MethodName} {hd : Cond} {As : List Value} {w wr : va_W} {w1 ws' : α → va_W} {r : α → Nat} {Φ : α → Nat → Nat → Prop} {rc' rs' : Nat} (isC isR sel : List Nat) (pc' : Nat) (hM : Cn l g y hd d' rc' rs' As w (fun x => some (.ref (r x))) w1 Φ) (hV : SK M.own i y hd maxL na) (hdc : decode M.cc pc = .ok (.invokestatic i, 3)) (hst : st0 = As.reverse ++ st) (hna : As.length = na) (hc : isC.map (fun i => ws[i]?) = w.map some) (hr : isR.map (fun i => ws[i]?) = wr.map some) (hsel : ∀ x, sel.map (fun i => (wr ++ w1 x)[i]?) = (ws' x).map some) (hnc : va_nd isC = true) (hnr : va_nd isR = true) (hns : va_nd sel = true) (hdis : ∀ i ∈ isR, i ∉ isC) (hW : (st.map fun v => v.category).sum ≤ 8) (hd1 : d' + 1 ≤ d) (hrc : k + rc' ≤ rc) (hrs : n + rs' ≤ rs) (hp : pc + 3 = pc') (kk : ∀ (x : α) (k' n' : Nat), Φ x k' n' → WPs l g M d rc rs post px a pc' L (.ref (r x) :: st) (ws' x) (k + k') (n + n')) : WPs l g M d rc rs post px a pc L st0 ws k n := by
  refine q_callS isC isR pc' hM hV hdc hst hna hc hr hnc hnr hdis hW hd1 hrc hrs hp (fun _ _ _ _ h => h.elim) (fun v0 w0 k' n' h => ?_)
  obtain ⟨x, hx, rfl, rfl⟩ := h
  exact q_sub sel hns (hsel x) (kk x k' n' hx)
theorem q_yVv {α : Type} {i ci b maxL d' na : Nat} {y : MethodName} {hd : Cond} {As : List Value} {w wr : va_W} {w1 ws' : α → va_W}  {Φ : α → Nat → Nat → Prop} {rc' rs' : Nat} {e9 : va_E} {fs : List Value} {C : String} {T9 : u_T} {N9 : Nat} (q0 : Nat) (isC isR sel : List Nat) (pc' : Nat) (hM : Cn l g y hd d' rc' rs' (.ref b :: As) w (fun _ => none) w1 Φ) (hV : VK M.own i y hd maxL C na) (hdc : decode M.cc pc = .ok (.invokevirtual i, 3)) (hst : st0 = As.reverse ++ .ref b :: st) (hna : As.length = na) (hq : ws[q0]? = some (b, e9)) (he9 : e9 = .inr (ci, fs)) (hC : vwCl[ci]? = some (C, T9, N9)) (hc : isC.map (fun i => ws[i]?) = w.map some) (hr : isR.map (fun i => ws[i]?) = wr.map some) (hsel : ∀ x, sel.map (fun i => (wr ++ w1 x)[i]?) = (ws' x).map some) (hnc : va_nd isC = true) (hnr : va_nd isR = true) (hns : va_nd sel = true) (hdis : ∀ i ∈ isR, i ∉ isC) (hW : (st.map fun v => v.category).sum ≤ 8) (hd1 : d' + 1 ≤ d) (hrc : k + rc' ≤ rc) (hrs : n + rs' ≤ rs) (hp : pc + 3 = pc') (kk : ∀ (x : α) (k' n' : Nat), Φ x k' n' → WPs l g M d rc rs post px a pc' L st (ws' x) (k + k') (n + n')) : WPs l g M d rc rs post px a pc L st0 ws k n := by
  refine q_callV q0 isC isR pc' hM hV hdc hst hna hq he9 hC hc hr hnc hnr hdis hW hd1 hrc hrs hp (fun _ _ _ _ h => h.elim) (fun v0 w0 k' n' h => ?_)
  obtain ⟨x, hx, rfl, rfl⟩ := h
  exact q_sub sel hns (hsel x) (kk x k' n' hx)
theorem q_ySv {α : Type} {i maxL d' na : Nat} {y : MethodName} {hd : Cond} {As : List Value} {w wr : va_W} {w1 ws' : α → va_W}  {Φ : α → Nat → Nat → Prop} {rc' rs' : Nat} (isC isR sel : List Nat) (pc' : Nat) (hM : Cn l g y hd d' rc' rs' As w (fun _ => none) w1 Φ) (hV : SK M.own i y hd maxL na) (hdc : decode M.cc pc = .ok (.invokestatic i, 3)) (hst : st0 = As.reverse ++ st) (hna : As.length = na) (hc : isC.map (fun i => ws[i]?) = w.map some) (hr : isR.map (fun i => ws[i]?) = wr.map some) (hsel : ∀ x, sel.map (fun i => (wr ++ w1 x)[i]?) = (ws' x).map some) (hnc : va_nd isC = true) (hnr : va_nd isR = true) (hns : va_nd sel = true) (hdis : ∀ i ∈ isR, i ∉ isC) (hW : (st.map fun v => v.category).sum ≤ 8) (hd1 : d' + 1 ≤ d) (hrc : k + rc' ≤ rc) (hrs : n + rs' ≤ rs) (hp : pc + 3 = pc') (kk : ∀ (x : α) (k' n' : Nat), Φ x k' n' → WPs l g M d rc rs post px a pc' L st (ws' x) (k + k') (n + n')) : WPs l g M d rc rs post px a pc L st0 ws k n := by
  refine q_callS isC isR pc' hM hV hdc hst hna hc hr hnc hnr hdis hW hd1 hrc hrs hp (fun _ _ _ _ h => h.elim) (fun v0 w0 k' n' h => ?_)
  obtain ⟨x, hx, rfl, rfl⟩ := h
  exact q_sub sel hns (hsel x) (kk x k' n' hx)
theorem q_yIv {α : Type} {i b maxL d' na : Nat} {y : MethodName} {hd : Cond} {As : List Value} {w wr : va_W} {w1 ws' : α → va_W}  {Φ : α → Nat → Nat → Prop} {rc' rs' : Nat} (isC isR sel : List Nat) (pc' : Nat) (hM : Cn l g y hd d' rc' rs' (.ref b :: As) w (fun _ => none) w1 Φ) (hV : IK M.own i y hd maxL na) (hdc : decode M.cc pc = .ok (.invokespecial i, 3)) (hst : st0 = As.reverse ++ .ref b :: st) (hna : As.length = na) (hc : isC.map (fun i => ws[i]?) = w.map some) (hr : isR.map (fun i => ws[i]?) = wr.map some) (hsel : ∀ x, sel.map (fun i => (wr ++ w1 x)[i]?) = (ws' x).map some) (hnc : va_nd isC = true) (hnr : va_nd isR = true) (hns : va_nd sel = true) (hdis : ∀ i ∈ isR, i ∉ isC) (hW : (st.map fun v => v.category).sum ≤ 8) (hd1 : d' + 1 ≤ d) (hrc : k + rc' ≤ rc) (hrs : n + rs' ≤ rs) (hp : pc + 3 = pc') (kk : ∀ (x : α) (k' n' : Nat), Φ x k' n' → WPs l g M d rc rs post px a pc' L st (ws' x) (k + k') (n + n')) : WPs l g M d rc rs post px a pc L st0 ws k n := by
  refine q_callI isC isR pc' hM hV hdc hst hna hc hr hnc hnr hdis hW hd1 hrc hrs hp (fun v0 w0 k' n' h => ?_)
  obtain ⟨x, hx, rfl, rfl⟩ := h
  exact q_sub sel hns (hsel x) (kk x k' n' hx)
theorem va_at_ext {D : va_G} {cl : List vw_C} {b n : Nat} {c : ClassId} {f f' : Nat → Int32} {H : Heap} (h : ∀ j, j < n → f j = f' j) (hh : va_at D cl (b, .inl (c, n, .inl f)) H) : va_at D cl (b, .inl (c, n, .inl f')) H := by
  have e : arrV c n (fun j => Value.int (f j)) = arrV c n (fun j => Value.int (f' j)) := by
    unfold arrV
    congr 1
    apply Array.ext
    · simp
    · intro i h1 h2
      simp only [Array.getElem_ofFn]
      rw [h i (by simpa using h1)]
  show H[b]? = some (arrV c n (fun j => Value.int (f' j)))
  rw [← e]
  exact hh
theorem q_ax {b n9 : Nat} {c : ClassId} {f : Nat → Int32} {ws' : va_W} (j : Nat) (f' : Nat → Int32) (h0 : ws[j]? = some (b, .inl (c, n9, .inl f))) (h : ∀ j, j < n9 → f j = f' j) (hs : ws.set j (b, .inl (c, n9, .inl f')) = ws') (kk : WPs l g M d rc rs post px a pc L st ws' k n) : WPs l g M d rc rs post px a pc L st ws k n := by
  intro hE H locs ls hP hD hS hl
  subst hs
  have hj : j < ws.length := (List.getElem?_eq_some_iff.mp h0).1
  refine kk hE H locs ls (fun q x hq => ?_) ⟨fun i1 j1 p q h1 h2 h3 => ?_, fun k1 q h1 => ?_⟩ hS hl
  · by_cases e : q = j
    · subst e
      rw [List.getElem?_set_self hj] at hq
      cases hq
      exact va_at_ext h (hP q _ h0)
    · rw [List.getElem?_set_ne (Ne.symm e)] at hq
      exact hP q x hq
  · have g1 : ∀ (i1 : Nat) (p : Nat × va_E), (ws.set j (b, .inl (c, n9, .inl f')))[i1]? = some p → ∃ p', ws[i1]? = some p' ∧ p'.1 = p.1 := by
      intro i1 p h1
      by_cases e : i1 = j
      · subst e
        rw [List.getElem?_set_self hj] at h1
        cases h1
        exact ⟨_, h0, rfl⟩
      · rw [List.getElem?_set_ne (Ne.symm e)] at h1
        exact ⟨p, h1, rfl⟩
    obtain ⟨p', a1, a2⟩ := g1 i1 p h1
    obtain ⟨q', b1, b2⟩ := g1 j1 q h2
    exact hD.1 i1 j1 p' q' a1 b1 (by rw [a2, b2]; exact h3)
  · by_cases e : k1 = j
    · subst e
      rw [List.getElem?_set_self hj] at h1
      cases h1
      exact (hD.2 _ _ h0 : a.A b)
    · rw [List.getElem?_set_ne (Ne.symm e)] at h1
      exact hD.2 k1 q h1
/-- worlds are as good in any order -/
theorem q_perm {ws' : va_W} (h : ws.Perm ws') (kk : WPs l g M d rc rs post px a pc L st ws' k n) : WPs l g M d rc rs post px a pc L st ws k n := by
  intro hE H locs ls hP hD hS hl
  have hm : ∀ x, x ∈ ws' → x ∈ ws := fun x hx => h.mem_iff.mpr hx
  have hnd : (ws.map Prod.fst).Nodup := by
    refine List.pairwise_iff_getElem.mpr fun i j hi hj hij e => ?_
    rw [List.length_map] at hi hj
    rw [List.getElem_map, List.getElem_map] at e
    have := hD.1 i j ws[i] ws[j] (List.getElem?_eq_getElem hi) (List.getElem?_eq_getElem hj) e
    omega
  have hnd' : (ws'.map Prod.fst).Nodup := (h.map Prod.fst).nodup_iff.mp hnd
  refine kk hE H locs ls (fun q x hq => ?_) ⟨fun i j p q h1 h2 h3 => ?_, fun q x hq => ?_⟩ hS hl
  · obtain ⟨k, hk⟩ := List.getElem?_of_mem (hm x (List.mem_of_getElem? hq))
    exact hP k x hk
  · have hi : i < (ws'.map Prod.fst).length := by rw [List.length_map]; exact (List.getElem?_eq_some_iff.mp h1).1
    refine (List.getElem?_inj hi hnd').mp ?_
    rw [List.getElem?_map, List.getElem?_map, h1, h2]
    exact congrArg some h3
  · obtain ⟨k, hk⟩ := List.getElem?_of_mem (hm x (List.mem_of_getElem? hq))
    exact hD.2 k x hk
end Tools
