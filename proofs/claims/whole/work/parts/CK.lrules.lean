/-! ===== the law, rules of its own ===== -/
section LR
variable {l : Launch} {g : Gh} {M : Mt} {d rc rs : Nat} {post : Pst} {px : Pxc} {a : Act} {pc : Nat} {L : List (Option Value)} {st st0 : List Value} {ws : va_W} {k n : Nat}
theorem q_sld {b L9 : Nat} {xs : Nat → Int32} {z : Int32} (j pc' : Nat) (hX : va_X b L9 xs a.s a.s.heap) (hbl : b < a.s.heap.size) (hbA : ¬ a.A b) (hd : decode M.cc pc = .ok (.iaload, 1)) (hi : ix z j L9) (hp : pc + 1 = pc') (kk : WPs l g M d rc rs post px a pc' L (.int (xs j) :: st) ws k n) : WPs l g M d rc rs post px a pc L (.int z :: .ref b :: st) ws k n := by
  intro hE H locs ls hP hD hS hl
  obtain ⟨⟨hx, hb, hml, hown, hts⟩, hlk, hret, htb, hnm, hA, hK, hO, hT⟩ := id hE
  subst hp
  refine va_sld (A := a.A) hx hb hX hbl hbA hS hi.in hd ?_
  rw [hi.cl]
  exact kk hE H locs ls hP hD hS hl
theorem q_slen {b L9 : Nat} {xs : Nat → Int32} (pc' : Nat) (hX : va_X b L9 xs a.s a.s.heap) (hbl : b < a.s.heap.size) (hbA : ¬ a.A b) (hd : decode M.cc pc = .ok (.arraylength, 1)) (hp : pc + 1 = pc') (kk : WPs l g M d rc rs post px a pc' L (.int (nI L9) :: st) ws k n) : WPs l g M d rc rs post px a pc L (.ref b :: st) ws k n := by
  intro hE H locs ls hP hD hS hl
  obtain ⟨⟨hx, hb, hml, hown, hts⟩, hlk, hret, htb, hnm, hA, hK, hO, hT⟩ := id hE
  subst hp
  exact va_slen (A := a.A) hx hb hX hbl hbA hS hd (kk hE H locs ls hP hD hS hl)
theorem tl_lt {n m i : Nat} (h : i ∈ tl n m) : i < n + m := by
  obtain ⟨j, hj, rfl⟩ := List.mem_map.mp h
  have := List.mem_range.mp hj
  omega
/-- one of the law's methods that catch -/
theorem q_lc {R T : va_W} {o : Nat} {of : Nat → Int64} {i maxL d' rc' rs' na : Nat} {y : MethodName} {hd : Cond} {As : List Value} {th : Int32} {ans : Int64} {RP : va_W → Nat → Nat → Prop} (pc' : Nat)
    (hM : Ct l g y hd d' rc' rs' As ([(o, aJ g 1 of)] ++ T) (wPc g o th ans RP) noX) (hV : SKW M.own i y hd maxL na) (hdc : decode M.cc pc = .ok (.invokestatic i, 3)) (hst : st0 = As.reverse ++ st) (hna : As.length = na)
    (hW : (st.map fun v => v.category).sum ≤ 8) (hd1 : d' + 1 ≤ d) (hrc : k + rc' ≤ rc) (hrs : n + rs' ≤ rs) (hp : pc + 3 = pc')
    (kk : ∀ (of' : Nat → Int64) (T' : va_W) (k' n' : Nat), (th = 0 → of' 0 = ans) → RP T' k' n' → WPs l g M d rc rs post px a pc' L (.int th :: st) (((o, aJ g 1 of') :: R) ++ T') (k + k') (n + n')) : WPs l g M d rc rs post px a pc L st0 (((o, aJ g 1 of) :: R) ++ T) k n := by
  refine q_callSW (0 :: tl ((o, aJ g 1 of) :: R).length T.length) (tl 1 R.length) pc' hM hV hdc hst hna ?_ (pos_app T (tl_get [(o, aJ g 1 of)] R)) ?_ ((nd_iff _).mpr (tl_nd _ _)) (fun z hz hj => ?_) hW hd1 hrc hrs hp (fun v w1 k' n' h => ?_)
  · rw [List.map_cons, tl_get]; rfl
  · refine (nd_iff _).mpr (List.nodup_cons.mpr ⟨fun h => ?_, tl_nd _ _⟩)
    have := tl_ge h
    rw [List.length_cons] at this
    omega
  · have h1 := tl_ge hz
    have h2 := tl_lt hz
    rcases List.mem_cons.mp hj with h3 | h3
    · omega
    · have h4 := tl_ge h3
      rw [List.length_cons] at h4
      omega
  · obtain ⟨of', T', rfl, rfl, h3, h4⟩ := h
    refine q_perm ?_ (kk of' T' k' n' h3 h4)
    show (R ++ ((o, aJ g 1 of') :: T')).Perm ((o, aJ g 1 of') :: (R ++ T'))
    exact List.perm_middle
/-- one of the class's methods that don't throw -/
theorem q_lv {W0 T : va_W} {i ci b maxL d' rc' rs' na : Nat} {y : MethodName} {hd : Cond} {As : List Value} {C : Option Value → Prop} {RP RX : va_W → Nat → Nat → Prop} {e9 : va_E} {fs : List Value} {Cn9 : String} {T9 : u_T} {N9 : Nat} (pc' : Nat)
    (hM : Ct l g y hd d' rc' rs' (.ref b :: As) T (wPo C RP) (wPx (fun _ => False) RX)) (hV : VK M.own i y hd maxL Cn9 na) (hdc : decode M.cc pc = .ok (.invokevirtual i, 3)) (hst : st0 = As.reverse ++ .ref b :: st) (hna : As.length = na)
    (hq : T[0]? = some (b, e9)) (he9 : e9 = .inr (ci, fs)) (hC : vwCl[ci]? = some (Cn9, T9, N9))
    (hW : (st.map fun v => v.category).sum ≤ 8) (hd1 : d' + 1 ≤ d) (hrc : k + rc' ≤ rc) (hrs : n + rs' ≤ rs) (hp : pc + 3 = pc')
    (kk : ∀ (v : Option Value) (T' : va_W) (k' n' : Nat), C v → RP T' k' n' → WPs l g M d rc rs post px a pc' L (v.toList ++ st) (W0 ++ T') (k + k') (n + n')) : WPs l g M d rc rs post px a pc L st0 (W0 ++ T) k n := by
  refine q_callV W0.length (tl W0.length T.length) (tl 0 W0.length) pc' hM hV hdc hst hna (by rw [List.getElem?_append_right (Nat.le_refl _), Nat.sub_self]; exact hq) he9 hC (tl_get W0 T) (pos_app T (tl_get [] W0)) ((nd_iff _).mpr (tl_nd _ _)) ((nd_iff _).mpr (tl_nd _ _)) (fun z hz hj => ?_) hW hd1 hrc hrs hp (fun _ _ _ _ h => h.1.elim) (fun v w1 k' n' h => kk v w1 k' n' h.1 h.2)
  have h1 := tl_lt hz
  have h2 := tl_ge hj
  omega
/-- one of the reference's methods -/
theorem q_lm {α : Type} {x : Nat × va_E} {Mw T : va_W} {vf : α → Option Value} {w1 : α → va_W} {Φ : α → Prop} {i ci b maxL d' na : Nat} {y : MethodName} {hd : Cond} {As : List Value} {e9 : va_E} {fs : List Value} {Cn9 : String} {T9 : u_T} {N9 : Nat} (pc' : Nat)
    (hM : Ce l g y hd d' (.ref b :: As) Mw vf w1 Φ) (hV : VK M.own i y hd maxL Cn9 na) (hdc : decode M.cc pc = .ok (.invokevirtual i, 3)) (hst : st0 = As.reverse ++ .ref b :: st) (hna : As.length = na)
    (hq : Mw[0]? = some (b, e9)) (he9 : e9 = .inr (ci, fs)) (hC : vwCl[ci]? = some (Cn9, T9, N9))
    (hW : (st.map fun v => v.category).sum ≤ 8) (hd1 : d' + 1 ≤ d) (hrc : k ≤ rc) (hrs : n ≤ rs) (hp : pc + 3 = pc')
    (kk : ∀ z : α, Φ z → WPs l g M d rc rs post px a pc' L ((vf z).toList ++ st) ((x :: w1 z) ++ T) k n) : WPs l g M d rc rs post px a pc L st0 ((x :: Mw) ++ T) k n := by
  have hq1 : ((x :: Mw) ++ T)[1]? = some (b, e9) := by
    show (Mw ++ T)[0]? = some (b, e9)
    exact get_tl hq
  refine q_callV 1 (tl 1 Mw.length) (0 :: tl (x :: Mw).length T.length) pc' hM hV hdc hst hna hq1 he9 hC (pos_app T (tl_get [x] Mw)) (wr := x :: T) ?_ ((nd_iff _).mpr (tl_nd _ _)) ?_ (fun z hz hj => ?_) hW hd1 (by omega) (by omega) hp (fun _ _ _ _ h => h.elim) (fun v w9 k' n' h => ?_)
  · rw [List.map_cons, tl_get]; rfl
  · refine (nd_iff _).mpr (List.nodup_cons.mpr ⟨fun h => ?_, tl_nd _ _⟩)
    have := tl_ge h
    rw [List.length_cons] at this
    omega
  · have h1 := tl_ge hj
    have h2 := tl_lt hj
    rcases List.mem_cons.mp hz with h3 | h3
    · omega
    · have h4 := tl_ge h3
      rw [List.length_cons] at h4
      omega
  · obtain ⟨rfl, rfl, z, hz, rfl, rfl⟩ := h
    refine q_perm ?_ (kk z hz)
    show (x :: (T ++ w1 z)).Perm (x :: (w1 z ++ T))
    exact List.Perm.cons _ List.perm_append_comm
end LR
theorem mm_thrown {l : Launch} {g : Gh} {q : Nat} {A : Nat → Nat} {i m kp tp : Sc} {f : Nat → Sc} {h : Nat → Nat → Int64} : Ce l g yX12_thrown (Cond.code yX12_thrown cX12_thrown 1 (some .int)) 40 [.ref q] (mW g q A i m kp tp f h) (fun _ : Unit => some (.int (i 0))) (fun _ : Unit => mW g q A i m kp tp f h) (fun _ => True) := by
  refine ct_u p_thrown (mW g q A i m kp tp f h).tail (List.Perm.refl _) (by decide) (by omega) (by omega) (fun v w1 k9 n9 h9 => ?_) (fun _ _ _ _ h9 => h9.elim)
  obtain ⟨rfl, rfl, rfl, rfl⟩ := h9
  exact ⟨_, List.Perm.refl _, rfl, rfl, (), trivial, rfl, rfl⟩
abbrev mtL_law (tb : List ExceptionTableEntry) (nm : String) : Mt := (RL, cL_law, 8, some .boolean, tb, nm)
/-- how the law goes on behind a call of the script -/
def lwK (l : Launch) (g : Gh) (tb : List ExceptionTableEntry) (nm : String) (rc rs : Nat) (post : Pst) (px : Pxc) (a : Act) (ad A : Nat → Nat) (q o b j K N k n : Nat) : Prop :=
  ∀ (of' : Nat → Int64) (i' m' kp' tp' : Sc) (f' : Nat → Sc) (h' : Nat → Nat → Int64) (e' : Nat) (T' : va_W) (K' N' k' n' : Nat) (z5 z6 z7 : Option Value), Rel g ad m' kp' tp' (i' 3) e' (i' 10) T' K' N' → i' 6 = nI e' → f01 i' → k' + K ≤ k + K' + 32 → n' + N ≤ n + N' + 2000 →
    WPs l g (mtL_law tb nm) 2048 rc rs post px a 1766 [some (.ref b), some (.ref (ad 0)), some (.ref q), some (.ref o), some (.int (nI (6 * j))), z5, z6, z7] [] (((o, aJ g 1 of') :: mW g q A i' m' kp' tp' f' h') ++ T') k' n'
theorem sx_ (c : Nat) {j L9 : Nat} {z : Int32} (hz : z = nI c) (hc : c ≤ 5) (hj : 6 * j + 5 < L9) (hL : L9 ≤ 384) : ix (nI (6 * j) + z) (6 * j + c) L9 := ⟨by rw [hz, nI_add], by omega, by omega⟩
theorem lg_rf (x : Int64) : lg_cmp x x = 0 := by
  unfold lg_cmp
  simp

