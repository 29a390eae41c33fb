def pR (v : Option Value) (w : va_W) : Pst := fun v' w' k n => v' = v ∧ w' = w ∧ k = 0 ∧ n = 0
theorem pR.mk {v v' : Option Value} {w w' : va_W} (h1 : v' = v) (h2 : w' = w) : pR v w v' w' 0 0 := ⟨h1, h2, rfl, rfl⟩
theorem i_lt (a b : Int32) : a < b ↔ a.toInt < b.toInt := Int32.lt_iff_toInt_lt
theorem i_le (a b : Int32) : a ≤ b ↔ a.toInt ≤ b.toInt := Int32.le_iff_toInt_le
theorem i_eq (a b : Int32) : a = b ↔ a.toInt = b.toInt := Int32.toInt_inj.symm
theorem pR.rf {v : Option Value} {w : va_W} : pR v w v w 0 0 := ⟨rfl, rfl, rfl, rfl⟩
/-- a contract of a method that makes nothing, throws nothing, and answers by its cells -/
abbrev Cp (l : Launch) (g : Gh) (y : MethodName) (hd : Cond) (d : Nat) (args : List Value) (w : va_W) (v : Option Value) (w1 : va_W) : Prop := Ct l g y hd d 0 0 args w (pR v w1) noX
theorem mm_ini : Cond.initialized "java/lang/Math" ∈ TT := TT_of (by decide +kernel) rfl
theorem inc1 (j : Nat) : nI j + Int32.ofInt 1 = nI (j + 1) := by rw [show Int32.ofInt 1 = nI 1 from by decide]; exact nI_add j 1
theorem inc2 (j : Nat) : nI j + Int32.ofInt 2 = nI (j + 2) := by rw [show Int32.ofInt 2 = nI 2 from by decide]; exact nI_add j 2
theorem inc6 (j : Nat) : nI j + Int32.ofInt 6 = nI (j + 6) := by rw [show Int32.ofInt 6 = nI 6 from by decide]; exact nI_add j 6
section Calls2
variable {l : Launch} {g : Gh} {M : Mt} {d rc rs : Nat} {post : Pst} {px : Pxc} {a : Act} {pc : Nat} {L : List (Option Value)} {st st0 : List Value} {ws : va_W} {k n : Nat}
theorem q_cVi {i ci b maxL d' na : Nat} {y : MethodName} {hd : Cond} {As : List Value} {w wr w1 ws' : va_W} {r : Int32} {e9 : va_E} {fs : List Value} {C : String} {T9 : u_T} {N9 : Nat} (q0 : Nat) (isC isR sel : List Nat) (pc' : Nat) (hM : Cp l g y hd d' (.ref b :: As) w (some (.int r)) w1) (hV : VK M.own i y hd maxL C na) (hdc : decode M.cc pc = .ok (.invokevirtual i, 3)) (hst : st0 = As.reverse ++ .ref b :: st) (hna : As.length = na) (hq : ws[q0]? = some (b, e9)) (he9 : e9 = .inr (ci, fs)) (hC : vwCl[ci]? = some (C, T9, N9)) (hc : isC.map (fun i => ws[i]?) = w.map some) (hr : isR.map (fun i => ws[i]?) = wr.map some) (hsel : sel.map (fun i => (wr ++ w1)[i]?) = ws'.map some) (hnc : va_nd isC = true) (hnr : va_nd isR = true) (hns : va_nd sel = true) (hdis : ∀ i ∈ isR, i ∉ isC) (hW : (st.map fun v => v.category).sum ≤ 8) (hd1 : d' + 1 ≤ d) (hrc : k ≤ rc) (hrs : n ≤ rs) (hp : pc + 3 = pc') (kk : WPs l g M d rc rs post px a pc' L (.int r :: st) ws' k n) : WPs l g M d rc rs post px a pc L st0 ws k n := by
  refine q_callV q0 isC isR pc' hM hV hdc hst hna hq he9 hC hc hr hnc hnr hdis hW hd1 (by omega) (by omega) hp (fun _ _ _ _ h => h.elim) (fun v0 w0 k' n' h => ?_)
  obtain ⟨rfl, rfl, rfl, rfl⟩ := h
  exact q_sub sel hns hsel kk
theorem q_cSi {i maxL d' na : Nat} {y : MethodName} {hd : Cond} {As : List Value} {w wr w1 ws' : va_W} {r : Int32} (isC isR sel : List Nat) (pc' : Nat) (hM : Cp l g y hd d' As w (some (.int r)) w1) (hV : SK M.own i y hd maxL na) (hdc : decode M.cc pc = .ok (.invokestatic i, 3)) (hst : st0 = As.reverse ++ st) (hna : As.length = na) (hc : isC.map (fun i => ws[i]?) = w.map some) (hr : isR.map (fun i => ws[i]?) = wr.map some) (hsel : sel.map (fun i => (wr ++ w1)[i]?) = ws'.map some) (hnc : va_nd isC = true) (hnr : va_nd isR = true) (hns : va_nd sel = true) (hdis : ∀ i ∈ isR, i ∉ isC) (hW : (st.map fun v => v.category).sum ≤ 8) (hd1 : d' + 1 ≤ d) (hrc : k ≤ rc) (hrs : n ≤ rs) (hp : pc + 3 = pc') (kk : WPs l g M d rc rs post px a pc' L (.int r :: st) ws' k n) : WPs l g M d rc rs post px a pc L st0 ws k n := by
  refine q_callS isC isR pc' hM hV hdc hst hna hc hr hnc hnr hdis hW hd1 (by omega) (by omega) hp (fun _ _ _ _ h => h.elim) (fun v0 w0 k' n' h => ?_)
  obtain ⟨rfl, rfl, rfl, rfl⟩ := h
  exact q_sub sel hns hsel kk
theorem q_cVl {i ci b maxL d' na : Nat} {y : MethodName} {hd : Cond} {As : List Value} {w wr w1 ws' : va_W} {r : Int64} {e9 : va_E} {fs : List Value} {C : String} {T9 : u_T} {N9 : Nat} (q0 : Nat) (isC isR sel : List Nat) (pc' : Nat) (hM : Cp l g y hd d' (.ref b :: As) w (some (.long r)) w1) (hV : VK M.own i y hd maxL C na) (hdc : decode M.cc pc = .ok (.invokevirtual i, 3)) (hst : st0 = As.reverse ++ .ref b :: st) (hna : As.length = na) (hq : ws[q0]? = some (b, e9)) (he9 : e9 = .inr (ci, fs)) (hC : vwCl[ci]? = some (C, T9, N9)) (hc : isC.map (fun i => ws[i]?) = w.map some) (hr : isR.map (fun i => ws[i]?) = wr.map some) (hsel : sel.map (fun i => (wr ++ w1)[i]?) = ws'.map some) (hnc : va_nd isC = true) (hnr : va_nd isR = true) (hns : va_nd sel = true) (hdis : ∀ i ∈ isR, i ∉ isC) (hW : (st.map fun v => v.category).sum ≤ 8) (hd1 : d' + 1 ≤ d) (hrc : k ≤ rc) (hrs : n ≤ rs) (hp : pc + 3 = pc') (kk : WPs l g M d rc rs post px a pc' L (.long r :: st) ws' k n) : WPs l g M d rc rs post px a pc L st0 ws k n := by
  refine q_callV q0 isC isR pc' hM hV hdc hst hna hq he9 hC hc hr hnc hnr hdis hW hd1 (by omega) (by omega) hp (fun _ _ _ _ h => h.elim) (fun v0 w0 k' n' h => ?_)
  obtain ⟨rfl, rfl, rfl, rfl⟩ := h
  exact q_sub sel hns hsel kk
theorem q_cSl {i maxL d' na : Nat} {y : MethodName} {hd : Cond} {As : List Value} {w wr w1 ws' : va_W} {r : Int64} (isC isR sel : List Nat) (pc' : Nat) (hM : Cp l g y hd d' As w (some (.long r)) w1) (hV : SK M.own i y hd maxL na) (hdc : decode M.cc pc = .ok (.invokestatic i, 3)) (hst : st0 = As.reverse ++ st) (hna : As.length = na) (hc : isC.map (fun i => ws[i]?) = w.map some) (hr : isR.map (fun i => ws[i]?) = wr.map some) (hsel : sel.map (fun i => (wr ++ w1)[i]?) = ws'.map some) (hnc : va_nd isC = true) (hnr : va_nd isR = true) (hns : va_nd sel = true) (hdis : ∀ i ∈ isR, i ∉ isC) (hW : (st.map fun v => v.category).sum ≤ 8) (hd1 : d' + 1 ≤ d) (hrc : k ≤ rc) (hrs : n ≤ rs) (hp : pc + 3 = pc') (kk : WPs l g M d rc rs post px a pc' L (.long r :: st) ws' k n) : WPs l g M d rc rs post px a pc L st0 ws k n := by
  refine q_callS isC isR pc' hM hV hdc hst hna hc hr hnc hnr hdis hW hd1 (by omega) (by omega) hp (fun _ _ _ _ h => h.elim) (fun v0 w0 k' n' h => ?_)
  obtain ⟨rfl, rfl, rfl, rfl⟩ := h
  exact q_sub sel hns hsel kk
theorem q_cVr {i ci b maxL d' na : Nat} {y : MethodName} {hd : Cond} {As : List Value} {w wr w1 ws' : va_W} {r : Nat} {e9 : va_E} {fs : List Value} {C : String} {T9 : u_T} {N9 : Nat} (q0 : Nat) (isC isR sel : List Nat) (pc' : Nat) (hM : Cp l g y hd d' (.ref b :: As) w (some (.ref r)) w1) (hV : VK M.own i y hd maxL C na) (hdc : decode M.cc pc = .ok (.invokevirtual i, 3)) (hst : st0 = As.reverse ++ .ref b :: st) (hna : As.length = na) (hq : ws[q0]? = some (b, e9)) (he9 : e9 = .inr (ci, fs)) (hC : vwCl[ci]? = some (C, T9, N9)) (hc : isC.map (fun i => ws[i]?) = w.map some) (hr : isR.map (fun i => ws[i]?) = wr.map some) (hsel : sel.map (fun i => (wr ++ w1)[i]?) = ws'.map some) (hnc : va_nd isC = true) (hnr : va_nd isR = true) (hns : va_nd sel = true) (hdis : ∀ i ∈ isR, i ∉ isC) (hW : (st.map fun v => v.category).sum ≤ 8) (hd1 : d' + 1 ≤ d) (hrc : k ≤ rc) (hrs : n ≤ rs) (hp : pc + 3 = pc') (kk : WPs l g M d rc rs post px a pc' L (.ref r :: st) ws' k n) : WPs l g M d rc rs post px a pc L st0 ws k n := by
  refine q_callV q0 isC isR pc' hM hV hdc hst hna hq he9 hC hc hr hnc hnr hdis hW hd1 (by omega) (by omega) hp (fun _ _ _ _ h => h.elim) (fun v0 w0 k' n' h => ?_)
  obtain ⟨rfl, rfl, rfl, rfl⟩ := h
  exact q_sub sel hns hsel kk
theorem q_cSr {i maxL d' na : Nat} {y : MethodName} {hd : Cond} {As : List Value} {w wr w1 ws' : va_W} {r : Nat} (isC isR sel : List Nat) (pc' : Nat) (hM : Cp l g y hd d' As w (some (.ref r)) w1) (hV : SK M.own i y hd maxL na) (hdc : decode M.cc pc = .ok (.invokestatic i, 3)) (hst : st0 = As.reverse ++ st) (hna : As.length = na) (hc : isC.map (fun i => ws[i]?) = w.map some) (hr : isR.map (fun i => ws[i]?) = wr.map some) (hsel : sel.map (fun i => (wr ++ w1)[i]?) = ws'.map some) (hnc : va_nd isC = true) (hnr : va_nd isR = true) (hns : va_nd sel = true) (hdis : ∀ i ∈ isR, i ∉ isC) (hW : (st.map fun v => v.category).sum ≤ 8) (hd1 : d' + 1 ≤ d) (hrc : k ≤ rc) (hrs : n ≤ rs) (hp : pc + 3 = pc') (kk : WPs l g M d rc rs post px a pc' L (.ref r :: st) ws' k n) : WPs l g M d rc rs post px a pc L st0 ws k n := by
  refine q_callS isC isR pc' hM hV hdc hst hna hc hr hnc hnr hdis hW hd1 (by omega) (by omega) hp (fun _ _ _ _ h => h.elim) (fun v0 w0 k' n' h => ?_)
  obtain ⟨rfl, rfl, rfl, rfl⟩ := h
  exact q_sub sel hns hsel kk
theorem q_cVv {i ci b maxL d' na : Nat} {y : MethodName} {hd : Cond} {As : List Value} {w wr w1 ws' : va_W}  {e9 : va_E} {fs : List Value} {C : String} {T9 : u_T} {N9 : Nat} (q0 : Nat) (isC isR sel : List Nat) (pc' : Nat) (hM : Cp l g y hd d' (.ref b :: As) w none w1) (hV : VK M.own i y hd maxL C na) (hdc : decode M.cc pc = .ok (.invokevirtual i, 3)) (hst : st0 = As.reverse ++ .ref b :: st) (hna : As.length = na) (hq : ws[q0]? = some (b, e9)) (he9 : e9 = .inr (ci, fs)) (hC : vwCl[ci]? = some (C, T9, N9)) (hc : isC.map (fun i => ws[i]?) = w.map some) (hr : isR.map (fun i => ws[i]?) = wr.map some) (hsel : sel.map (fun i => (wr ++ w1)[i]?) = ws'.map some) (hnc : va_nd isC = true) (hnr : va_nd isR = true) (hns : va_nd sel = true) (hdis : ∀ i ∈ isR, i ∉ isC) (hW : (st.map fun v => v.category).sum ≤ 8) (hd1 : d' + 1 ≤ d) (hrc : k ≤ rc) (hrs : n ≤ rs) (hp : pc + 3 = pc') (kk : WPs l g M d rc rs post px a pc' L st ws' k n) : WPs l g M d rc rs post px a pc L st0 ws k n := by
  refine q_callV q0 isC isR pc' hM hV hdc hst hna hq he9 hC hc hr hnc hnr hdis hW hd1 (by omega) (by omega) hp (fun _ _ _ _ h => h.elim) (fun v0 w0 k' n' h => ?_)
  obtain ⟨rfl, rfl, rfl, rfl⟩ := h
  exact q_sub sel hns hsel kk
theorem q_cSv {i maxL d' na : Nat} {y : MethodName} {hd : Cond} {As : List Value} {w wr w1 ws' : va_W}  (isC isR sel : List Nat) (pc' : Nat) (hM : Cp l g y hd d' As w none w1) (hV : SK M.own i y hd maxL na) (hdc : decode M.cc pc = .ok (.invokestatic i, 3)) (hst : st0 = As.reverse ++ st) (hna : As.length = na) (hc : isC.map (fun i => ws[i]?) = w.map some) (hr : isR.map (fun i => ws[i]?) = wr.map some) (hsel : sel.map (fun i => (wr ++ w1)[i]?) = ws'.map some) (hnc : va_nd isC = true) (hnr : va_nd isR = true) (hns : va_nd sel = true) (hdis : ∀ i ∈ isR, i ∉ isC) (hW : (st.map fun v => v.category).sum ≤ 8) (hd1 : d' + 1 ≤ d) (hrc : k ≤ rc) (hrs : n ≤ rs) (hp : pc + 3 = pc') (kk : WPs l g M d rc rs post px a pc' L st ws' k n) : WPs l g M d rc rs post px a pc L st0 ws k n := by
  refine q_callS isC isR pc' hM hV hdc hst hna hc hr hnc hnr hdis hW hd1 (by omega) (by omega) hp (fun _ _ _ _ h => h.elim) (fun v0 w0 k' n' h => ?_)
  obtain ⟨rfl, rfl, rfl, rfl⟩ := h
  exact q_sub sel hns hsel kk
theorem q_cIv {i b maxL d' na : Nat} {y : MethodName} {hd : Cond} {As : List Value} {w wr w1 ws' : va_W}  (isC isR sel : List Nat) (pc' : Nat) (hM : Cp l g y hd d' (.ref b :: As) w none w1) (hV : IK M.own i y hd maxL na) (hdc : decode M.cc pc = .ok (.invokespecial i, 3)) (hst : st0 = As.reverse ++ .ref b :: st) (hna : As.length = na) (hc : isC.map (fun i => ws[i]?) = w.map some) (hr : isR.map (fun i => ws[i]?) = wr.map some) (hsel : sel.map (fun i => (wr ++ w1)[i]?) = ws'.map some) (hnc : va_nd isC = true) (hnr : va_nd isR = true) (hns : va_nd sel = true) (hdis : ∀ i ∈ isR, i ∉ isC) (hW : (st.map fun v => v.category).sum ≤ 8) (hd1 : d' + 1 ≤ d) (hrc : k ≤ rc) (hrs : n ≤ rs) (hp : pc + 3 = pc') (kk : WPs l g M d rc rs post px a pc' L st ws' k n) : WPs l g M d rc rs post px a pc L st0 ws k n := by
  refine q_callI isC isR pc' hM hV hdc hst hna hc hr hnc hnr hdis hW hd1 (by omega) (by omega) hp (fun v0 w0 k' n' h => ?_)
  obtain ⟨rfl, rfl, rfl, rfl⟩ := h
  exact q_sub sel hns hsel kk
def iMax (x y : Int32) : Int32 := if x < y then y else x
theorem mm_max : Cond.code Lib.Math.max.name Lib.Math.max.code 2 (some .int) ∈ TT := TT_of (by decide +kernel) rfl
theorem ms_max : Cond.static Lib.Math.max.name ∈ TT := TT_of (by decide +kernel) rfl
theorem q_mmax {i : Nat} {x y : Int32} (pc' : Nat) (hl0 : Cond.methodLink M.own i Lib.Math.max.name ∈ TT) (hd : decode M.cc pc = .ok (.invokestatic i, 3)) (hW : (st.map fun v => v.category).sum ≤ 8) (hd1 : 1 ≤ d) (hrc : k ≤ rc) (hrs : n ≤ rs) (hp : pc + 3 = pc') (kk : WPs l g M d rc rs post px a pc' L (.int (iMax x y) :: st) ws k n) : WPs l g M d rc rs post px a pc L (.int y :: .int x :: st) ws k n := by
  intro hE H locs ls hP hD hS hl
  obtain ⟨⟨hx, hb, hml, hown, hts⟩, hlk, hret, htb, hnm, hA, hK, hO, hT⟩ := id hE
  subst hp
  exact va_mmax hx hb (hml.trans hl.1.symm) hown (hts _ hl0) (hts _ ms_max) (hts _ mm_ini) (hts _ mm_max) hd1 (by show _ + 13 ≤ 40 * d; omega) hrc hrs hd (kk hE H locs ls hP hD hS hl)
def iMin (x y : Int32) : Int32 := if y < x then y else x
theorem mm_min : Cond.code Lib.Math.min.name Lib.Math.min.code 2 (some .int) ∈ TT := TT_of (by decide +kernel) rfl
theorem ms_min : Cond.static Lib.Math.min.name ∈ TT := TT_of (by decide +kernel) rfl
theorem q_mmin {i : Nat} {x y : Int32} (pc' : Nat) (hl0 : Cond.methodLink M.own i Lib.Math.min.name ∈ TT) (hd : decode M.cc pc = .ok (.invokestatic i, 3)) (hW : (st.map fun v => v.category).sum ≤ 8) (hd1 : 1 ≤ d) (hrc : k ≤ rc) (hrs : n ≤ rs) (hp : pc + 3 = pc') (kk : WPs l g M d rc rs post px a pc' L (.int (iMin x y) :: st) ws k n) : WPs l g M d rc rs post px a pc L (.int y :: .int x :: st) ws k n := by
  intro hE H locs ls hP hD hS hl
  obtain ⟨⟨hx, hb, hml, hown, hts⟩, hlk, hret, htb, hnm, hA, hK, hO, hT⟩ := id hE
  subst hp
  exact va_mmin hx hb (hml.trans hl.1.symm) hown (hts _ hl0) (hts _ ms_min) (hts _ mm_ini) (hts _ mm_min) hd1 (by show _ + 13 ≤ 40 * d; omega) hrc hrs hd (kk hE H locs ls hP hD hS hl)
def iAbs (x : Int32) : Int32 := if 0 ≤ x then x else 0 - x
theorem mm_abs : Cond.code Lib.Math.abs.name Lib.Math.abs.code 1 (some .int) ∈ TT := TT_of (by decide +kernel) rfl
theorem ms_abs : Cond.static Lib.Math.abs.name ∈ TT := TT_of (by decide +kernel) rfl
theorem q_mabs {i : Nat} {x : Int32} (pc' : Nat) (hl0 : Cond.methodLink M.own i Lib.Math.abs.name ∈ TT) (hd : decode M.cc pc = .ok (.invokestatic i, 3)) (hW : (st.map fun v => v.category).sum ≤ 8) (hd1 : 1 ≤ d) (hrc : k ≤ rc) (hrs : n ≤ rs) (hp : pc + 3 = pc') (kk : WPs l g M d rc rs post px a pc' L (.int (iAbs x) :: st) ws k n) : WPs l g M d rc rs post px a pc L (.int x :: st) ws k n := by
  intro hE H locs ls hP hD hS hl
  obtain ⟨⟨hx, hb, hml, hown, hts⟩, hlk, hret, htb, hnm, hA, hK, hO, hT⟩ := id hE
  subst hp
  exact va_mabs hx hb (hml.trans hl.1.symm) hown (hts _ hl0) (hts _ ms_abs) (hts _ mm_ini) (hts _ mm_abs) hd1 (by show _ + 13 ≤ 40 * d; omega) hrc hrs hd (kk hE H locs ls hP hD hS hl)
end Calls2
theorem mm_X11_253 : Cond.methodLink RX11 253 Lib.Math.max.name ∈ TT := TT_5 207 rfl rfl
theorem mm_X11_259 : Cond.methodLink RX11 259 Lib.Math.min.name ∈ TT := TT_5 208 rfl rfl
theorem mm_X11_263 : Cond.methodLink RX11 263 Lib.Math.abs.name ∈ TT := TT_5 210 rfl rfl
theorem mm_X2_141 : Cond.methodLink RX2 141 Lib.Math.min.name ∈ TT := TT_5 72 rfl rfl
theorem mm_X2_209 : Cond.methodLink RX2 209 Lib.Math.max.name ∈ TT := TT_5 107 rfl rfl
theorem mm_X4_18 : Cond.methodLink RX4 18 Lib.Math.min.name ∈ TT := TT_3 233 rfl rfl
theorem mm_X7_25 : Cond.methodLink RX7 25 Lib.Math.min.name ∈ TT := TT_2 75 rfl rfl
theorem mm_J7_304 : Cond.methodLink RJ7 304 Lib.Math.min.name ∈ TT := TT_3 144 rfl rfl
theorem ic_m1 : Int32.ofInt (-1) = -1 := by decide
theorem ic_0 : Int32.ofInt (0) = 0 := by decide
theorem ic_1 : Int32.ofInt (1) = 1 := by decide
theorem ic_2 : Int32.ofInt (2) = 2 := by decide
theorem ic_3 : Int32.ofInt (3) = 3 := by decide
theorem ic_4 : Int32.ofInt (4) = 4 := by decide
theorem ic_5 : Int32.ofInt (5) = 5 := by decide
theorem bc_m3 : (Int8.ofInt (-3)).toInt32 = -3 := by decide
theorem bc_6 : (Int8.ofInt (6)).toInt32 = 6 := by decide
theorem bc_7 : (Int8.ofInt (7)).toInt32 = 7 := by decide
theorem bc_8 : (Int8.ofInt (8)).toInt32 = 8 := by decide
theorem bc_9 : (Int8.ofInt (9)).toInt32 = 9 := by decide
theorem bc_10 : (Int8.ofInt (10)).toInt32 = 10 := by decide
theorem bc_11 : (Int8.ofInt (11)).toInt32 = 11 := by decide
theorem bc_12 : (Int8.ofInt (12)).toInt32 = 12 := by decide
theorem bc_13 : (Int8.ofInt (13)).toInt32 = 13 := by decide
theorem bc_14 : (Int8.ofInt (14)).toInt32 = 14 := by decide
theorem bc_15 : (Int8.ofInt (15)).toInt32 = 15 := by decide
theorem bc_16 : (Int8.ofInt (16)).toInt32 = 16 := by decide
theorem bc_17 : (Int8.ofInt (17)).toInt32 = 17 := by decide
theorem bc_18 : (Int8.ofInt (18)).toInt32 = 18 := by decide
theorem bc_19 : (Int8.ofInt (19)).toInt32 = 19 := by decide
theorem bc_20 : (Int8.ofInt (20)).toInt32 = 20 := by decide
theorem bc_21 : (Int8.ofInt (21)).toInt32 = 21 := by decide
theorem bc_24 : (Int8.ofInt (24)).toInt32 = 24 := by decide
theorem bc_30 : (Int8.ofInt (30)).toInt32 = 30 := by decide
theorem bc_31 : (Int8.ofInt (31)).toInt32 = 31 := by decide
theorem bc_32 : (Int8.ofInt (32)).toInt32 = 32 := by decide
theorem bc_40 : (Int8.ofInt (40)).toInt32 = 40 := by decide
theorem bc_41 : (Int8.ofInt (41)).toInt32 = 41 := by decide
theorem bc_43 : (Int8.ofInt (43)).toInt32 = 43 := by decide
theorem bc_48 : (Int8.ofInt (48)).toInt32 = 48 := by decide
theorem bc_49 : (Int8.ofInt (49)).toInt32 = 49 := by decide
theorem bc_50 : (Int8.ofInt (50)).toInt32 = 50 := by decide
theorem bc_57 : (Int8.ofInt (57)).toInt32 = 57 := by decide
theorem bc_59 : (Int8.ofInt (59)).toInt32 = 59 := by decide
theorem bc_60 : (Int8.ofInt (60)).toInt32 = 60 := by decide
theorem bc_62 : (Int8.ofInt (62)).toInt32 = 62 := by decide
theorem bc_64 : (Int8.ofInt (64)).toInt32 = 64 := by decide
theorem bc_97 : (Int8.ofInt (97)).toInt32 = 97 := by decide
theorem bc_98 : (Int8.ofInt (98)).toInt32 = 98 := by decide
theorem bc_100 : (Int8.ofInt (100)).toInt32 = 100 := by decide
theorem bc_108 : (Int8.ofInt (108)).toInt32 = 108 := by decide
theorem bc_119 : (Int8.ofInt (119)).toInt32 = 119 := by decide
theorem bc_121 : (Int8.ofInt (121)).toInt32 = 121 := by decide
theorem bc_122 : (Int8.ofInt (122)).toInt32 = 122 := by decide
theorem sc_128 : (Int16.ofInt (128)).toInt32 = 128 := by decide
theorem sc_140 : (Int16.ofInt (140)).toInt32 = 140 := by decide
theorem sc_141 : (Int16.ofInt (141)).toInt32 = 141 := by decide
theorem sc_143 : (Int16.ofInt (143)).toInt32 = 143 := by decide
theorem sc_159 : (Int16.ofInt (159)).toInt32 = 159 := by decide
theorem sc_160 : (Int16.ofInt (160)).toInt32 = 160 := by decide
theorem sc_162 : (Int16.ofInt (162)).toInt32 = 162 := by decide
theorem sc_192 : (Int16.ofInt (192)).toInt32 = 192 := by decide
theorem sc_193 : (Int16.ofInt (193)).toInt32 = 193 := by decide
theorem sc_194 : (Int16.ofInt (194)).toInt32 = 194 := by decide
theorem sc_195 : (Int16.ofInt (195)).toInt32 = 195 := by decide
theorem sc_196 : (Int16.ofInt (196)).toInt32 = 196 := by decide
theorem sc_197 : (Int16.ofInt (197)).toInt32 = 197 := by decide
theorem sc_198 : (Int16.ofInt (198)).toInt32 = 198 := by decide
theorem sc_199 : (Int16.ofInt (199)).toInt32 = 199 := by decide
theorem sc_200 : (Int16.ofInt (200)).toInt32 = 200 := by decide
theorem sc_201 : (Int16.ofInt (201)).toInt32 = 201 := by decide
theorem sc_202 : (Int16.ofInt (202)).toInt32 = 202 := by decide
theorem sc_203 : (Int16.ofInt (203)).toInt32 = 203 := by decide
theorem sc_204 : (Int16.ofInt (204)).toInt32 = 204 := by decide
theorem sc_207 : (Int16.ofInt (207)).toInt32 = 207 := by decide
theorem sc_208 : (Int16.ofInt (208)).toInt32 = 208 := by decide
theorem sc_209 : (Int16.ofInt (209)).toInt32 = 209 := by decide
theorem sc_210 : (Int16.ofInt (210)).toInt32 = 210 := by decide
theorem sc_242 : (Int16.ofInt (242)).toInt32 = 242 := by decide
theorem sc_255 : (Int16.ofInt (255)).toInt32 = 255 := by decide
theorem sc_400 : (Int16.ofInt (400)).toInt32 = 400 := by decide
theorem sc_401 : (Int16.ofInt (401)).toInt32 = 401 := by decide
theorem sc_999 : (Int16.ofInt (999)).toInt32 = 999 := by decide
theorem sc_1000 : (Int16.ofInt (1000)).toInt32 = 1000 := by decide
theorem sc_1936 : (Int16.ofInt (1936)).toInt32 = 1936 := by decide
theorem sc_2616 : (Int16.ofInt (2616)).toInt32 = 2616 := by decide
theorem sc_4000 : (Int16.ofInt (4000)).toInt32 = 4000 := by decide
theorem sc_12345 : (Int16.ofInt (12345)).toInt32 = 12345 := by decide
theorem sc_15488 : (Int16.ofInt (15488)).toInt32 = 15488 := by decide
theorem sc_15492 : (Int16.ofInt (15492)).toInt32 = 15492 := by decide
theorem sc_30976 : (Int16.ofInt (30976)).toInt32 = 30976 := by decide
theorem sc_32767 : (Int16.ofInt (32767)).toInt32 = 32767 := by decide
