/-! ===== calls of what throws; needs that aren't met ===== -/
def pF : Pst := fun _ _ _ _ => False
def pT (cls : String) (w1 : va_W) : Pxc := fun E w k n => E = cls ∧ w = w1 ∧ k = 1 ∧ n = 6
theorem pT.rf {cls : String} {w : va_W} : pT cls w cls w 1 6 := ⟨rfl, rfl, rfl, rfl⟩
/-- a contract of a method that throws -/
abbrev Cx (l : Launch) (g : Gh) (y : MethodName) (hd : Cond) (d : Nat) (args : List Value) (w : va_W) (cls : String) (w1 : va_W) : Prop := Ct l g y hd d 1 6 args w pF (pT cls w1)
section CallsX
variable {l : Launch} {g : Gh} {M : Mt} {d rc rs : Nat} {post : Pst} {px : Pxc} {a : Act} {pc : Nat} {L : List (Option Value)} {st st0 : List Value} {ws : va_W} {k n : Nat}
theorem q_xS {i maxL d' na : Nat} {y : MethodName} {hd : Cond} {As : List Value} {w wr w1 : va_W} {cls : String} (isC isR : List Nat) (hM : Cx l g y hd d' As w cls w1) (hV : SK M.own i y hd maxL na) (hdc : decode M.cc pc = .ok (.invokestatic i, 3)) (hst : st0 = As.reverse ++ st) (hna : As.length = na) (hc : isC.map (fun i => ws[i]?) = w.map some) (hr : isR.map (fun i => ws[i]?) = wr.map some) (hnc : va_nd isC = true) (hnr : va_nd isR = true) (hdis : ∀ i ∈ isR, i ∉ isC) (hW : (st.map fun v => v.category).sum ≤ 8) (hd1 : d' + 1 ≤ d) (hrc : k + 1 ≤ rc) (hrs : n + 6 ≤ rs) (htb : M.tb = []) (hp : px cls (wr ++ w1) (k + 1) (n + 6)) : WPs l g M d rc rs post px a pc L st0 ws k n := by
  refine q_callS isC isR (pc + 3) hM hV hdc hst hna hc hr hnc hnr hdis hW hd1 hrc hrs rfl (fun E w9 k' n' h => ?_) (fun _ _ _ _ h => h.elim)
  obtain ⟨rfl, rfl, rfl, rfl⟩ := h
  exact ⟨htb, hp⟩
theorem q_xV {i ci b maxL d' na : Nat} {y : MethodName} {hd : Cond} {As : List Value} {w wr w1 : va_W} {e9 : va_E} {fs : List Value} {C : String} {T9 : u_T} {N9 : Nat} {cls : String} (q0 : Nat) (isC isR : List Nat) (hM : Cx l g y hd d' (.ref b :: As) w cls w1) (hV : VK M.own i y hd maxL C na) (hdc : decode M.cc pc = .ok (.invokevirtual i, 3)) (hst : st0 = As.reverse ++ .ref b :: st) (hna : As.length = na) (hq : ws[q0]? = some (b, e9)) (he9 : e9 = .inr (ci, fs)) (hC : vwCl[ci]? = some (C, T9, N9)) (hc : isC.map (fun i => ws[i]?) = w.map some) (hr : isR.map (fun i => ws[i]?) = wr.map some) (hnc : va_nd isC = true) (hnr : va_nd isR = true) (hdis : ∀ i ∈ isR, i ∉ isC) (hW : (st.map fun v => v.category).sum ≤ 8) (hd1 : d' + 1 ≤ d) (hrc : k + 1 ≤ rc) (hrs : n + 6 ≤ rs) (htb : M.tb = []) (hp : px cls (wr ++ w1) (k + 1) (n + 6)) : WPs l g M d rc rs post px a pc L st0 ws k n := by
  refine q_callV q0 isC isR (pc + 3) hM hV hdc hst hna hq he9 hC hc hr hnc hnr hdis hW hd1 hrc hrs rfl (fun E w9 k' n' h => ?_) (fun _ _ _ _ h => h.elim)
  obtain ⟨rfl, rfl, rfl, rfl⟩ := h
  exact ⟨htb, hp⟩
end CallsX
theorem x_X11_needPlayer {l : Launch} {g : Gh} {x : Int32} (hc : ¬ x = 0) (ha : ¬ x = 1) : Cx l g yX11_needPlayer (Cond.code yX11_needPlayer cX11_needPlayer 1 none) 6 [.int x] [] "java/lang/IndexOutOfBoundsException" [] := by
  refine ct_of (M := mtX11_needPlayer) [some (.int x)] rfl (by decide) (Nat.le_of_ble_eq_true rfl) (fun _ h => h) (fun a => ?_)
  refine q_iload_n 0 1 dX11_needPlayer_0 rfl rfl rfl ?_
  refine q_if_eq 20 4 dX11_needPlayer_1 (by decide) rfl (fun h1 => absurd h1 hc) (fun h1 => ?_)
  refine q_iload_n 0 5 dX11_needPlayer_4 rfl rfl rfl ?_
  refine q_iconst 1 6 dX11_needPlayer_5 ic_1 rfl ?_
  refine q_icmp_eq 20 9 dX11_needPlayer_6 (by decide) rfl (fun h6 => absurd h6 ha) (fun h6 => ?_)
  refine q_throwW ex_IOB sr_X11_323 rfl rfl dX11_needPlayer_9 dX11_needPlayer_12 dX11_needPlayer_13 dX11_needPlayer_16 dX11_needPlayer_19 (by omega) (by omega) (by omega) ?_
  exact pT.rf
theorem x_X11_needLine {l : Launch} {g : Gh} {x : Int32} (h : x < 0 ∨ ¬ x < 10) : Cx l g yX11_needLine (Cond.code yX11_needLine cX11_needLine 1 none) 6 [.int x] [] "java/lang/IndexOutOfBoundsException" [] := by
  refine ct_of (M := mtX11_needLine) [some (.int x)] rfl (by decide) (Nat.le_of_ble_eq_true rfl) (fun _ h => h) (fun a => ?_)
  by_cases ha : x < 0
  · skip
    refine q_iload_n 0 1 dX11_needLine_0 rfl rfl rfl ?_
    refine q_if_lt 10 4 dX11_needLine_1 (by decide) rfl (fun h1 => ?_) (fun h1 => absurd ha h1)
    refine q_throwW ex_IOB sr_X11_325 rfl rfl dX11_needLine_10 dX11_needLine_13 dX11_needLine_14 dX11_needLine_17 dX11_needLine_20 (by omega) (by omega) (by omega) ?_
    exact pT.rf
  · have hb := h.resolve_left ha
    refine q_iload_n 0 1 dX11_needLine_0 rfl rfl rfl ?_
    refine q_if_lt 10 4 dX11_needLine_1 (by decide) rfl (fun h1 => absurd h1 ha) (fun h1 => ?_)
    refine q_iload_n 0 5 dX11_needLine_4 rfl rfl rfl ?_
    refine q_bipush 10 7 dX11_needLine_5 bc_10 rfl ?_
    refine q_icmp_lt 21 10 dX11_needLine_7 (by decide) rfl (fun h7 => absurd h7 hb) (fun h7 => ?_)
    refine q_throwW ex_IOB sr_X11_325 rfl rfl dX11_needLine_10 dX11_needLine_13 dX11_needLine_14 dX11_needLine_17 dX11_needLine_20 (by omega) (by omega) (by omega) ?_
    exact pT.rf
theorem x_X11_needRallies {l : Launch} {g : Gh} {x : Int32} (h : x < 0 ∨ ¬ x ≤ 30) : Cx l g yX11_needRallies (Cond.code yX11_needRallies cX11_needRallies 1 none) 6 [.int x] [] "java/lang/IllegalArgumentException" [] := by
  refine ct_of (M := mtX11_needRallies) [some (.int x)] rfl (by decide) (Nat.le_of_ble_eq_true rfl) (fun _ h => h) (fun a => ?_)
  by_cases ha : x < 0
  · skip
    refine q_iload_n 0 1 dX11_needRallies_0 rfl rfl rfl ?_
    refine q_if_lt 10 4 dX11_needRallies_1 (by decide) rfl (fun h1 => ?_) (fun h1 => absurd ha h1)
    refine q_throwW ex_IAE sr_X11_327 rfl rfl dX11_needRallies_10 dX11_needRallies_13 dX11_needRallies_14 dX11_needRallies_17 dX11_needRallies_20 (by omega) (by omega) (by omega) ?_
    exact pT.rf
  · have hb := h.resolve_left ha
    refine q_iload_n 0 1 dX11_needRallies_0 rfl rfl rfl ?_
    refine q_if_lt 10 4 dX11_needRallies_1 (by decide) rfl (fun h1 => absurd h1 ha) (fun h1 => ?_)
    refine q_iload_n 0 5 dX11_needRallies_4 rfl rfl rfl ?_
    refine q_bipush 30 7 dX11_needRallies_5 bc_30 rfl ?_
    refine q_icmp_le 21 10 dX11_needRallies_7 (by decide) rfl (fun h7 => absurd h7 hb) (fun h7 => ?_)
    refine q_throwW ex_IAE sr_X11_327 rfl rfl dX11_needRallies_10 dX11_needRallies_13 dX11_needRallies_14 dX11_needRallies_17 dX11_needRallies_20 (by omega) (by omega) (by omega) ?_
    exact pT.rf
theorem x_X11_needWhat {l : Launch} {g : Gh} {x y : Int32} (h : x < 0 ∨ ¬ x < y) : Cx l g yX11_needWhat (Cond.code yX11_needWhat cX11_needWhat 2 none) 6 [.int x, .int y] [] "java/util/NoSuchElementException" [] := by
  refine ct_of (M := mtX11_needWhat) [some (.int x), some (.int y)] rfl (by decide) (Nat.le_of_ble_eq_true rfl) (fun _ h => h) (fun a => ?_)
  by_cases ha : x < 0
  · skip
    refine q_iload_n 0 1 dX11_needWhat_0 rfl rfl rfl ?_
    refine q_if_lt 9 4 dX11_needWhat_1 (by decide) rfl (fun h1 => ?_) (fun h1 => absurd ha h1)
    refine q_throwN sr_X11_331 rfl rfl dX11_needWhat_9 dX11_needWhat_12 dX11_needWhat_13 dX11_needWhat_16 dX11_needWhat_19 (by omega) (by omega) (by omega) ?_
    exact pT.rf
  · have hb := h.resolve_left ha
    refine q_iload_n 0 1 dX11_needWhat_0 rfl rfl rfl ?_
    refine q_if_lt 9 4 dX11_needWhat_1 (by decide) rfl (fun h1 => absurd h1 ha) (fun h1 => ?_)
    refine q_iload_n 0 5 dX11_needWhat_4 rfl rfl rfl ?_
    refine q_iload_n 1 6 dX11_needWhat_5 rfl rfl rfl ?_
    refine q_icmp_lt 20 9 dX11_needWhat_6 (by decide) rfl (fun h6 => absurd h6 hb) (fun h6 => ?_)
    refine q_throwN sr_X11_331 rfl rfl dX11_needWhat_9 dX11_needWhat_12 dX11_needWhat_13 dX11_needWhat_16 dX11_needWhat_19 (by omega) (by omega) (by omega) ?_
    exact pT.rf
theorem x_X11_needGoingOn {l : Launch} {g : Gh} {q sd la ru so sc : Nat} {i li s : Sc} {R : List (Option Nat)} {t0 t1 t2 t4 t5 t6 t7 t8 : Option Nat} (h : ¬ sOver s li = 0) : Cx l g yX11_needGoingOn (Cond.code yX11_needGoingOn cX11_needGoingOn 2 none) 6 [.ref q, .ref sc] [(q, ob 11 i [t0, t1, t2, some sd, t4, t5, t6, t7, t8, none, none]), (sd, ob 10 (fun _ => 0) (rD la ru so)), (la, ob 0 li R), (sc, ob 8 s [])] "java/lang/IllegalStateException" [(q, ob 11 i [t0, t1, t2, some sd, t4, t5, t6, t7, t8, none, none]), (sd, ob 10 (fun _ => 0) (rD la ru so)), (la, ob 0 li R), (sc, ob 8 s [])] := by
  refine ct_of (M := mtX11_needGoingOn) [some (.ref q), some (.ref sc)] rfl (by decide) (Nat.le_of_ble_eq_true rfl) (fun _ h => h) (fun a => ?_)
  refine q_aload_n 1 1 dX11_needGoingOn_0 rfl rfl rfl ?_
  refine q_aload_n 0 2 dX11_needGoingOn_1 rfl rfl rfl ?_
  refine q_getR 0 5 f_X11_30 dX11_needGoingOn_2 rfl rfl rfl rfl ?_
  refine q_getR 1 8 f_X11_60 dX11_needGoingOn_5 rfl rfl rfl rfl ?_
  refine q_cVi 3 [3, 2] [0, 1] [0, 1, 3, 2] 11 (wr := [_, _]) (w1 := _) (ws' := [_, _, _, _]) c_X8_isOver m_X11_298 dX11_needGoingOn_8 rfl rfl rfl rfl rfl rfl rfl rfl (by decide) (by decide) (by decide) (by decide) (Nat.le_of_ble_eq_true rfl) (by omega) (by omega) (by omega) rfl ?_
  refine q_if_eq 25 14 dX11_needGoingOn_11 (by decide) rfl (fun h11 => absurd h11 h) (fun h11 => ?_)
  refine q_throwW ex_ISE sr_X11_336 rfl rfl dX11_needGoingOn_14 dX11_needGoingOn_17 dX11_needGoingOn_18 dX11_needGoingOn_21 dX11_needGoingOn_24 (by omega) (by omega) (by omega) ?_
  exact pT.rf

