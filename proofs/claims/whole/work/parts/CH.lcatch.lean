/-! ===== the law's own methods that catch ===== -/
theorem Rel.head {g : Gh} {a : Nat → Nat} {m kp tp : Sc} {h3 : Int32} {e : Nat} {ft : Int32} {T : va_W} {K N : Nat} (hR : Rel g a m kp tp h3 e ft T K N) : ∃ (i : Sc) (r : List (Option Nat)), T[0]? = some (a 0, ob 11 i r) := by
  obtain ⟨ic, Tc, si, th, be, nu, di, dh, li, cf, ri, yf, s, tr, af, y, KK, OO, MM, RR, PL, Rl, num, rfl, hT, hS, hK, hO, hKn, hNn⟩ := hR
  exact ⟨ic, _, rfl⟩
def wPc (g : Gh) (o : Nat) (th : Int32) (ans : Int64) (R : va_W → Nat → Nat → Prop) : Pst := fun v W k n => ∃ (of' : Nat → Int64) (T' : va_W), W = [(o, aJ g 1 of')] ++ T' ∧ v = some (.int th) ∧ (th = 0 → of' 0 = ans) ∧ R T' k n
theorem q_cw {l : Launch} {g : Gh} {M : Mt} {d rc rs : Nat} {post : Pst} {px : Pxc} {a : Act} {pc : Nat} {L : List (Option Value)} {st st0 : List Value} {T : va_W} {o9 : Nat × va_E} {k n : Nat} {i ci b maxL d' rc' rs' na : Nat} {y : MethodName} {hd : Cond} {As : List Value} {post' : Pst} {px' : Pxc} {e9 : va_E} {fs : List Value} {C : String} {T9 : u_T} {N9 : Nat} (pc' : Nat)
    (hM : Ct l g y hd d' rc' rs' (.ref b :: As) T post' px') (hV : VK M.own i y hd maxL C na) (hdc : decode M.cc pc = .ok (.invokevirtual i, 3)) (hst : st0 = As.reverse ++ .ref b :: st) (hna : As.length = na)
    (hq : T[0]? = some (b, e9)) (he9 : e9 = .inr (ci, fs)) (hC : vwCl[ci]? = some (C, T9, N9))
    (hW : (st.map fun v => v.category).sum ≤ 8) (hd1 : d' + 1 ≤ d) (hrc : k + rc' ≤ rc) (hrs : n + rs' ≤ rs) (hp : pc + 3 = pc')
    (kx : ∀ (E : String) (w1 : va_W) (k' n' : Nat), px' E w1 k' n' → ∃ hp, CtK M.own M.tb pc E hp ∧ ∀ q : Nat, WPs l g M d rc rs post px a hp L [.ref q] ([o9] ++ w1) (k + k') (n + n'))
    (kk : ∀ (v : Option Value) (w1 : va_W) (k' n' : Nat), post' v w1 k' n' → WPs l g M d rc rs post px a pc' L (v.toList ++ st) ([o9] ++ w1) (k + k') (n + n')) : WPs l g M d rc rs post px a pc L st0 ([o9] ++ T) k n := by
  refine q_callVC 1 (tl 1 T.length) [0] pc' hM hV hdc hst hna (by rw [List.getElem?_append_right (by simp)]; exact hq) he9 hC (tl_get [o9] T) rfl ((nd_iff _).mpr (tl_nd _ _)) (by decide) (fun i hi hj => ?_) hW hd1 hrc hrs hp kx kk
  have h1 := tl_ge hj
  rw [List.mem_singleton] at hi
  omega

theorem lk_L13 : Cond.classLink RL 13 "java/lang/IllegalArgumentException" ∈ TT := TT_2 61 rfl rfl
theorem lk_L15 : Cond.classLink RL 15 "java/lang/UnsupportedOperationException" ∈ TT := TT_2 62 rfl rfl
theorem lk_L24 : Cond.classLink RL 24 "java/lang/IndexOutOfBoundsException" ∈ TT := TT_3 165 rfl rfl
theorem lk_L26 : Cond.classLink RL 26 "java/util/NoSuchElementException" ∈ TT := TT_3 166 rfl rfl
theorem lk_L53 : Cond.classLink RL 53 "java/lang/IllegalStateException" ∈ TT := TT_4 53 rfl rfl
abbrev mtL_court : Mt := (RL, cL_court, 3, some .int, tableOf [(0, 8, 11, 13), (0, 8, 14, 15)], "court")
abbrev mtL_rule : Mt := (RL, cL_rule, 3, some .int, tableOf [(0, 8, 11, 13), (0, 8, 14, 15)], "rule")
abbrev mtL_look : Mt := (RL, cL_look, 6, some .int, tableOf [(0, 12, 15, 24), (0, 12, 19, 26)], "look")
abbrev mtL_plays : Mt := (RL, cL_plays, 5, some .int, tableOf [(0, 10, 13, 24)], "plays")
abbrev mtL_style : Mt := (RL, cL_style, 4, some .int, tableOf [(0, 9, 12, 24)], "style")
abbrev mtL_score : Mt := (RL, cL_score, 5, some .int, tableOf [(0, 7, 10, 24), (0, 7, 14, 13)], "score")
abbrev mtL_games : Mt := (RL, cL_games, 4, some .int, tableOf [(0, 6, 9, 13)], "games")
abbrev mtL_begin : Mt := (RL, cL_begin, 4, some .int, tableOf [(0, 6, 9, 13)], "begin")
abbrev mtL_stands : Mt := (RL, cL_stands, 4, some .int, tableOf [(0, 9, 12, 26)], "stands")
abbrev mtL_rally : Mt := (RL, cL_rally, 5, some .int, tableOf [(0, 10, 13, 24), (0, 10, 17, 13), (0, 10, 21, 53)], "rally")
abbrev mtL_bisque : Mt := (RL, cL_bisque, 4, some .int, tableOf [(0, 16, 19, 24), (0, 16, 22, 53)], "bisque")
abbrev mtL_chance : Mt := (RL, cL_chance, 5, some .int, tableOf [(0, 10, 13, 24), (0, 10, 17, 13), (0, 10, 21, 53)], "chance")
abbrev mtL_best : Mt := (RL, cL_best, 6, some .int, tableOf [(0, 12, 15, 24), (0, 12, 19, 13), (0, 12, 23, 53)], "best")
abbrev mtL_saves : Mt := (RL, cL_saves, 6, some .int, tableOf [(0, 12, 15, 24), (0, 12, 19, 13), (0, 12, 23, 53), (0, 12, 27, 26)], "saves")
abbrev mtL_worth : Mt := (RL, cL_worth, 6, some .int, tableOf [(0, 12, 15, 24), (0, 12, 19, 13), (0, 12, 23, 53)], "worth")
abbrev mtL_set : Mt := (RL, cL_set, 5, some .int, tableOf [(0, 10, 13, 24), (0, 10, 17, 13), (0, 10, 21, 53)], "set")
abbrev mtL_ways : Mt := (RL, cL_ways, 7, some .int, tableOf [(0, 14, 17, 24), (0, 14, 21, 13)], "ways")
abbrev mtL_even : Mt := (RL, cL_even, 5, some .int, tableOf [(0, 10, 13, 13)], "even")
abbrev mtL_log : Mt := (RL, cL_log, 4, some .int, tableOf [(0, 9, 12, 13), (0, 9, 15, 53), (0, 9, 18, 26)], "log")
abbrev mtL_mends : Mt := (RL, cL_mends, 8, some .int, tableOf [(0, 15, 18, 13)], "mends")
abbrev mtL_play : Mt := (RL, cL_play, 6, some .int, tableOf [(0, 12, 15, 13), (0, 12, 19, 26)], "play")
theorem cwp_13_24 : (("java/lang/IllegalArgumentException", "java/lang/IndexOutOfBoundsException") : String × String) ∈ cWords := List.mem_of_getElem? (i := 8) rfl
theorem cwp_53_13 : (("java/lang/IllegalStateException", "java/lang/IllegalArgumentException") : String × String) ∈ cWords := List.mem_of_getElem? (i := 3) rfl
theorem cwp_53_24 : (("java/lang/IllegalStateException", "java/lang/IndexOutOfBoundsException") : String × String) ∈ cWords := List.mem_of_getElem? (i := 11) rfl
theorem cwp_15_13 : (("java/lang/UnsupportedOperationException", "java/lang/IllegalArgumentException") : String × String) ∈ cWords := List.mem_of_getElem? (i := 0) rfl
theorem cwp_26_13 : (("java/util/NoSuchElementException", "java/lang/IllegalArgumentException") : String × String) ∈ cWords := List.mem_of_getElem? (i := 2) rfl
theorem cwp_26_53 : (("java/util/NoSuchElementException", "java/lang/IllegalStateException") : String × String) ∈ cWords := List.mem_of_getElem? (i := 19) rfl
theorem cwp_26_24 : (("java/util/NoSuchElementException", "java/lang/IndexOutOfBoundsException") : String × String) ∈ cWords := List.mem_of_getElem? (i := 10) rfl
theorem cl_court {l : Launch} {g : Gh} {ad : Nat → Nat} {m kp tp : Sc} {h3 : Int32} {e : Nat} {ft : Int32} {T : va_W} {K N : Nat} (hR : Rel g ad m kp tp h3 e ft T K N) {o : Nat} {of : Nat → Int64} : Ct l g yL_court (Cond.codeWith yL_court cL_court 3 (some .int) [(0, 8, 11, 13), (0, 8, 14, 15)]) 41 (KM9 - K + 32) (NM9 - N + 2000) [.ref (ad 0), .ref o] ([(o, aJ g 1 of)] ++ T) (wPc g o (coT (coL tp m e).2.2 (coF (coL tp m e).2.2 (nI e) (coL tp m e).2.1 16)) (((coL tp m e).2.2 192 + 1).toInt64) (RelP g ad (if (coT (coL tp m e).2.2 (coF (coL tp m e).2.2 (nI e) (coL tp m e).2.1 16)) = 0 then upd (coL tp m e).2.2 192 ((coL tp m e).2.2 192 + 1) else m) kp tp h3 0 (coF (coL tp m e).2.2 (nI e) (coL tp m e).2.1 16) K N)) noX := by
  refine ct_ofC (M := mtL_court) [some (.ref (ad 0)), some (.ref o), none] rfl (by decide) (Nat.le_of_ble_eq_true rfl) (fun _ h => h) (fun a => ?_)
  obtain ⟨ic9, r9, hq9⟩ := hR.head
  have hc := cw_court (l := l) hR
  refine q_aload_n 1 1 dL_court_0 rfl rfl rfl ?_
  refine q_iconst 0 2 dL_court_1 ic_0 rfl ?_
  refine q_aload_n 0 3 dL_court_2 rfl rfl rfl ?_
  skip
  refine q_cw 6 hc m_L_7 dL_court_3 rfl rfl hq9 rfl rfl (Nat.le_of_ble_eq_true rfl) (by omega) (by omega) (by omega) rfl (fun E w1 k9 n9 h => ?_) (fun v w1 k9 n9 h => ?_)
  · obtain ⟨hX, hP⟩ := h
    rw [← Nat.zero_add k9, ← Nat.zero_add n9] at hP
    rcases hX with ⟨ht, rfl⟩ | ⟨ht, rfl⟩
    · refine ⟨11, ⟨[], ⟨0, 8, 11, 13⟩, [⟨0, 8, 14, 15⟩], rfl, fun _ h => absurd h List.not_mem_nil, rfl, by decide, lk_L13, rfl⟩, fun q => ?_⟩
      refine q_astore_n 2 12 (L' := [_, _, _]) dL_court_11 rfl (by decide) rfl rfl ?_
      refine q_iconst 1 13 dL_court_12 ic_1 rfl ?_
      refine q_ireturn dL_court_13 rfl ?_
      exact ⟨_, w1, rfl, by rw [ht], fun z => absurd ((ht).symm.trans z) (by decide), hP⟩
    · refine ⟨14, ⟨[⟨0, 8, 11, 13⟩], ⟨0, 8, 14, 15⟩, [], rfl, List.forall_mem_cons.mpr ⟨⟨rfl, by decide, _, lk_L13, cwp_15_13⟩, fun _ h => absurd h List.not_mem_nil⟩, rfl, by decide, lk_L15, rfl⟩, fun q => ?_⟩
      refine q_astore_n 2 15 (L' := [_, _, _]) dL_court_14 rfl (by decide) rfl rfl ?_
      refine q_iconst 2 16 dL_court_15 ic_2 rfl ?_
      refine q_ireturn dL_court_16 rfl ?_
      exact ⟨_, w1, rfl, by rw [ht], fun z => absurd ((ht).symm.trans z) (by decide), hP⟩
  · obtain ⟨⟨ht, rfl⟩, hP⟩ := h
    rw [← Nat.zero_add k9, ← Nat.zero_add n9] at hP
    refine q_i2l 7 dL_court_6 rfl ?_
    refine q_last 0 0 8 (w' := ([_] ++ _)) dL_court_7 rfl ⟨by decide, by decide, by decide⟩ rfl rfl ?_
    refine q_goto 17 dL_court_8 (by decide) ?_
    refine q_iconst 0 18 dL_court_17 ic_0 rfl ?_
    refine q_ireturn dL_court_18 rfl ?_
    exact ⟨_, w1, rfl, by rw [ht], fun _ => pk_uLs, hP⟩

theorem cl_rule {l : Launch} {g : Gh} {ad : Nat → Nat} {m kp tp : Sc} {h3 : Int32} {e : Nat} {ft : Int32} {T : va_W} {K N : Nat} (hR : Rel g ad m kp tp h3 e ft T K N) (fc : Sc) {sv of9 : Int32} (hsv : sv = 0 ∨ sv = 1) (hof : of9 = 0 ∨ of9 = 1) {o : Nat} {of : Nat → Int64} : Ct l g yL_rule (Cond.codeWith yL_rule cL_rule 3 (some .int) [(0, 8, 11, 13), (0, 8, 14, 15)]) 41 (KM9 - K + 32) (NM9 - N + 2000) [.ref (ad 0), .ref o] ([(o, aJ g 1 of)] ++ T) (wPc g o (ruT m (ruL tp fc sv of9 e).2.1) ((m 193).toInt64) (RelP g ad (if (ruT m (ruL tp fc sv of9 e).2.1) = 0 then ruM m tp (m 193).toNatClampNeg e else m) kp tp h3 0 (ruL tp fc sv of9 e).2.1 K N)) noX := by
  refine ct_ofC (M := mtL_rule) [some (.ref (ad 0)), some (.ref o), none] rfl (by decide) (Nat.le_of_ble_eq_true rfl) (fun _ h => h) (fun a => ?_)
  obtain ⟨ic9, r9, hq9⟩ := hR.head
  have hc := cw_rule (l := l) hR fc hsv hof
  refine q_aload_n 1 1 dL_rule_0 rfl rfl rfl ?_
  refine q_iconst 0 2 dL_rule_1 ic_0 rfl ?_
  refine q_aload_n 0 3 dL_rule_2 rfl rfl rfl ?_
  skip
  refine q_cw 6 hc m_L_17 dL_rule_3 rfl rfl hq9 rfl rfl (Nat.le_of_ble_eq_true rfl) (by omega) (by omega) (by omega) rfl (fun E w1 k9 n9 h => ?_) (fun v w1 k9 n9 h => ?_)
  · obtain ⟨hX, hP⟩ := h
    rw [← Nat.zero_add k9, ← Nat.zero_add n9] at hP
    rcases hX with ⟨ht, rfl⟩ | ⟨ht, rfl⟩
    · refine ⟨11, ⟨[], ⟨0, 8, 11, 13⟩, [⟨0, 8, 14, 15⟩], rfl, fun _ h => absurd h List.not_mem_nil, rfl, by decide, lk_L13, rfl⟩, fun q => ?_⟩
      refine q_astore_n 2 12 (L' := [_, _, _]) dL_rule_11 rfl (by decide) rfl rfl ?_
      refine q_iconst 1 13 dL_rule_12 ic_1 rfl ?_
      refine q_ireturn dL_rule_13 rfl ?_
      exact ⟨_, w1, rfl, by rw [ht], fun z => absurd ((ht).symm.trans z) (by decide), hP⟩
    · refine ⟨14, ⟨[⟨0, 8, 11, 13⟩], ⟨0, 8, 14, 15⟩, [], rfl, List.forall_mem_cons.mpr ⟨⟨rfl, by decide, _, lk_L13, cwp_15_13⟩, fun _ h => absurd h List.not_mem_nil⟩, rfl, by decide, lk_L15, rfl⟩, fun q => ?_⟩
      refine q_astore_n 2 15 (L' := [_, _, _]) dL_rule_14 rfl (by decide) rfl rfl ?_
      refine q_iconst 2 16 dL_rule_15 ic_2 rfl ?_
      refine q_ireturn dL_rule_16 rfl ?_
      exact ⟨_, w1, rfl, by rw [ht], fun z => absurd ((ht).symm.trans z) (by decide), hP⟩
  · obtain ⟨⟨ht, rfl⟩, hP⟩ := h
    rw [← Nat.zero_add k9, ← Nat.zero_add n9] at hP
    refine q_i2l 7 dL_rule_6 rfl ?_
    refine q_last 0 0 8 (w' := ([_] ++ _)) dL_rule_7 rfl ⟨by decide, by decide, by decide⟩ rfl rfl ?_
    refine q_goto 17 dL_rule_8 (by decide) ?_
    refine q_iconst 0 18 dL_rule_17 ic_0 rfl ?_
    refine q_ireturn dL_rule_18 rfl ?_
    exact ⟨_, w1, rfl, by rw [ht], fun _ => pk_uLs, hP⟩

theorem cl_look {l : Launch} {g : Gh} {ad : Nat → Nat} {m kp tp : Sc} {h3 : Int32} {e : Nat} {ft : Int32} {T : va_W} {K N : Nat} (hR : Rel g ad m kp tp h3 e ft T K N) {p0 : Int32} {p1 : Int32} {p2 : Int32} {o : Nat} {of : Nat → Int64} : Ct l g yL_look (Cond.codeWith yL_look cL_look 6 (some .int) [(0, 12, 15, 24), (0, 12, 19, 26)]) 41 (KM9 - K + 32) (NM9 - N + 2000) [.ref (ad 0), .int p0, .int p1, .int p2, .ref o] ([(o, aJ g 1 of)] ++ T) (wPc g o (loT p0 p1 p2) ((loV m p0 p1 p2).toInt64) (RelP g ad m kp tp h3 e ft K N)) noX := by
  refine ct_ofC (M := mtL_look) [some (.ref (ad 0)), some (.int p0), some (.int p1), some (.int p2), some (.ref o), none] rfl (by decide) (Nat.le_of_ble_eq_true rfl) (fun _ h => h) (fun a => ?_)
  obtain ⟨ic9, r9, hq9⟩ := hR.head
  have hc := cw_look (l := l) hR (p0 := p0) (p1 := p1) (p2 := p2)
  refine q_aload 4 2 dL_look_0 rfl rfl ?_
  refine q_iconst 0 3 dL_look_2 ic_0 rfl ?_
  refine q_aload_n 0 4 dL_look_3 rfl rfl rfl ?_
  refine q_iload_n 1 5 dL_look_4 rfl rfl rfl ?_
  refine q_iload_n 2 6 dL_look_5 rfl rfl rfl ?_
  refine q_iload_n 3 7 dL_look_6 rfl rfl rfl ?_
  skip
  refine q_cw 10 hc m_L_20 dL_look_7 rfl rfl hq9 rfl rfl (Nat.le_of_ble_eq_true rfl) (by omega) (by omega) (by omega) rfl (fun E w1 k9 n9 h => ?_) (fun v w1 k9 n9 h => ?_)
  · obtain ⟨hX, hP⟩ := h
    rw [← Nat.zero_add k9, ← Nat.zero_add n9] at hP
    rcases hX with ⟨ht, rfl⟩ | ⟨ht, rfl⟩
    · refine ⟨15, ⟨[], ⟨0, 12, 15, 24⟩, [⟨0, 12, 19, 26⟩], rfl, fun _ h => absurd h List.not_mem_nil, rfl, by decide, lk_L24, rfl⟩, fun q => ?_⟩
      refine q_astore 5 17 (L' := [_, _, _, _, _, _]) dL_look_15 (by decide) rfl rfl ?_
      refine q_iconst 1 18 dL_look_17 ic_1 rfl ?_
      refine q_ireturn dL_look_18 rfl ?_
      exact ⟨_, w1, rfl, by rw [ht], fun z => absurd ((ht).symm.trans z) (by decide), hP⟩
    · refine ⟨19, ⟨[⟨0, 12, 15, 24⟩], ⟨0, 12, 19, 26⟩, [], rfl, List.forall_mem_cons.mpr ⟨⟨rfl, by decide, _, lk_L24, cwp_26_24⟩, fun _ h => absurd h List.not_mem_nil⟩, rfl, by decide, lk_L26, rfl⟩, fun q => ?_⟩
      refine q_astore 5 21 (L' := [_, _, _, _, _, _]) dL_look_19 (by decide) rfl rfl ?_
      refine q_iconst 2 22 dL_look_21 ic_2 rfl ?_
      refine q_ireturn dL_look_22 rfl ?_
      exact ⟨_, w1, rfl, by rw [ht], fun z => absurd ((ht).symm.trans z) (by decide), hP⟩
  · obtain ⟨⟨ht, rfl⟩, hP⟩ := h
    rw [← Nat.zero_add k9, ← Nat.zero_add n9] at hP
    refine q_i2l 11 dL_look_10 rfl ?_
    refine q_last 0 0 12 (w' := ([_] ++ _)) dL_look_11 rfl ⟨by decide, by decide, by decide⟩ rfl rfl ?_
    refine q_goto 23 dL_look_12 (by decide) ?_
    refine q_iconst 0 24 dL_look_23 ic_0 rfl ?_
    refine q_ireturn dL_look_24 rfl ?_
    exact ⟨_, w1, rfl, by rw [ht], fun _ => pk_uLs, hP⟩

theorem cl_plays {l : Launch} {g : Gh} {ad : Nat → Nat} {m kp tp : Sc} {h3 : Int32} {e : Nat} {ft : Int32} {T : va_W} {K N : Nat} (hR : Rel g ad m kp tp h3 e ft T K N) {p0 : Int32} {p1 : Int32} {o : Nat} {of : Nat → Int64} : Ct l g yL_plays (Cond.codeWith yL_plays cL_plays 5 (some .int) [(0, 10, 13, 24)]) 41 (KM9 - K + 32) (NM9 - N + 2000) [.ref (ad 0), .int p0, .int p1, .ref o] ([(o, aJ g 1 of)] ++ T) (wPc g o (plT m p0 p1) ((plV m p0 p1).toInt64) (RelP g ad (plM m p0 p1) kp tp h3 e ft K N)) noX := by
  refine ct_ofC (M := mtL_plays) [some (.ref (ad 0)), some (.int p0), some (.int p1), some (.ref o), none] rfl (by decide) (Nat.le_of_ble_eq_true rfl) (fun _ h => h) (fun a => ?_)
  obtain ⟨ic9, r9, hq9⟩ := hR.head
  have hc := cw_plays (l := l) hR (p0 := p0) (p1 := p1)
  refine q_aload_n 3 1 dL_plays_0 rfl rfl rfl ?_
  refine q_iconst 0 2 dL_plays_1 ic_0 rfl ?_
  refine q_aload_n 0 3 dL_plays_2 rfl rfl rfl ?_
  refine q_iload_n 1 4 dL_plays_3 rfl rfl rfl ?_
  refine q_iload_n 2 5 dL_plays_4 rfl rfl rfl ?_
  skip
  refine q_cw 8 hc m_L_28 dL_plays_5 rfl rfl hq9 rfl rfl (Nat.le_of_ble_eq_true rfl) (by omega) (by omega) (by omega) rfl (fun E w1 k9 n9 h => ?_) (fun v w1 k9 n9 h => ?_)
  · obtain ⟨hX, hP⟩ := h
    rw [← Nat.zero_add k9, ← Nat.zero_add n9] at hP
    obtain ⟨ht, rfl⟩ := hX
    refine ⟨13, ⟨[], ⟨0, 10, 13, 24⟩, [], rfl, fun _ h => absurd h List.not_mem_nil, rfl, by decide, lk_L24, rfl⟩, fun q => ?_⟩
    refine q_astore 4 15 (L' := [_, _, _, _, _]) dL_plays_13 (by decide) rfl rfl ?_
    refine q_iconst 1 16 dL_plays_15 ic_1 rfl ?_
    refine q_ireturn dL_plays_16 rfl ?_
    exact ⟨_, w1, rfl, by rw [ht], fun z => absurd ((ht).symm.trans z) (by decide), hP⟩
  · obtain ⟨⟨ht, rfl⟩, hP⟩ := h
    rw [← Nat.zero_add k9, ← Nat.zero_add n9] at hP
    refine q_i2l 9 dL_plays_8 rfl ?_
    refine q_last 0 0 10 (w' := ([_] ++ _)) dL_plays_9 rfl ⟨by decide, by decide, by decide⟩ rfl rfl ?_
    refine q_goto 17 dL_plays_10 (by decide) ?_
    refine q_iconst 0 18 dL_plays_17 ic_0 rfl ?_
    refine q_ireturn dL_plays_18 rfl ?_
    exact ⟨_, w1, rfl, by rw [ht], fun _ => pk_uLs, hP⟩

theorem cl_style {l : Launch} {g : Gh} {ad : Nat → Nat} {m kp tp : Sc} {h3 : Int32} {e : Nat} {ft : Int32} {T : va_W} {K N : Nat} (hR : Rel g ad m kp tp h3 e ft T K N) {p0 : Int32} (fc x : Sc) {o : Nat} {of : Nat → Int64} : Ct l g yL_style (Cond.codeWith yL_style cL_style 4 (some .int) [(0, 9, 12, 24)]) 41 (KM9 - K + 32) (NM9 - N + 2000) [.ref (ad 0), .int p0, .ref o] ([(o, aJ g 1 of)] ++ T) (wPc g o (if rIn p0 0 1 = 0 then (1 : Int32) else 0) ((soV m fc (rTake m x) p0.toNatClampNeg).toInt64) (RelP g ad m kp tp h3 e ft K N)) noX := by
  refine ct_ofC (M := mtL_style) [some (.ref (ad 0)), some (.int p0), some (.ref o), none] rfl (by decide) (Nat.le_of_ble_eq_true rfl) (fun _ h => h) (fun a => ?_)
  obtain ⟨ic9, r9, hq9⟩ := hR.head
  have hc := cw_style (l := l) hR (p0 := p0) fc x
  refine q_aload_n 2 1 dL_style_0 rfl rfl rfl ?_
  refine q_iconst 0 2 dL_style_1 ic_0 rfl ?_
  refine q_aload_n 0 3 dL_style_2 rfl rfl rfl ?_
  refine q_iload_n 1 4 dL_style_3 rfl rfl rfl ?_
  skip
  refine q_cw 7 hc m_L_32 dL_style_4 rfl rfl hq9 rfl rfl (Nat.le_of_ble_eq_true rfl) (by omega) (by omega) (by omega) rfl (fun E w1 k9 n9 h => ?_) (fun v w1 k9 n9 h => ?_)
  · obtain ⟨hX, hP⟩ := h
    rw [← Nat.zero_add k9, ← Nat.zero_add n9] at hP
    obtain ⟨ht, rfl⟩ := hX
    refine ⟨12, ⟨[], ⟨0, 9, 12, 24⟩, [], rfl, fun _ h => absurd h List.not_mem_nil, rfl, by decide, lk_L24, rfl⟩, fun q => ?_⟩
    refine q_astore_n 3 13 (L' := [_, _, _, _]) dL_style_12 rfl (by decide) rfl rfl ?_
    refine q_iconst 1 14 dL_style_13 ic_1 rfl ?_
    refine q_ireturn dL_style_14 rfl ?_
    exact ⟨_, w1, rfl, by rw [show (if rIn p0 0 1 = 0 then (1 : Int32) else 0) = 1 from if_pos ht], fun z => absurd (((show (if rIn p0 0 1 = 0 then (1 : Int32) else 0) = 1 from if_pos ht)).symm.trans z) (by decide), hP⟩
  · obtain ⟨⟨ht, rfl⟩, hP⟩ := h
    rw [← Nat.zero_add k9, ← Nat.zero_add n9] at hP
    refine q_i2l 8 dL_style_7 rfl ?_
    refine q_last 0 0 9 (w' := ([_] ++ _)) dL_style_8 rfl ⟨by decide, by decide, by decide⟩ rfl rfl ?_
    refine q_goto 15 dL_style_9 (by decide) ?_
    refine q_iconst 0 16 dL_style_15 ic_0 rfl ?_
    refine q_ireturn dL_style_16 rfl ?_
    exact ⟨_, w1, rfl, by rw [(show (if rIn p0 0 1 = 0 then (1 : Int32) else 0) = 0 from if_neg ht)], fun _ => pk_uLs, hP⟩

theorem cl_score {l : Launch} {g : Gh} {ad : Nat → Nat} {m kp tp : Sc} {h3 : Int32} {e : Nat} {ft : Int32} {T : va_W} {K N : Nat} (hR : Rel g ad m kp tp h3 e ft T K N) {p0 : Int32} {p1 : Int32} {p2 : Int32} {o : Nat} {of : Nat → Int64} : Ct l g yL_score (Cond.codeWith yL_score cL_score 5 (some .int) [(0, 7, 10, 24), (0, 7, 14, 13)]) 41 (KM9 - K + 32) (NM9 - N + 2000) [.ref (ad 0), .int p0, .int p1, .int p2] ([(o, aJ g 1 of)] ++ T) (wPc g o (scT p0 p1 p2) (of 0) (RelP g ad (scM m p0 p1 p2) kp tp h3 e ft K N)) noX := by
  refine ct_ofC (M := mtL_score) [some (.ref (ad 0)), some (.int p0), some (.int p1), some (.int p2), none] rfl (by decide) (Nat.le_of_ble_eq_true rfl) (fun _ h => h) (fun a => ?_)
  obtain ⟨ic9, r9, hq9⟩ := hR.head
  have hc := cw_score (l := l) hR (p0 := p0) (p1 := p1) (p2 := p2)
  refine q_aload_n 0 1 dL_score_0 rfl rfl rfl ?_
  refine q_iload_n 1 2 dL_score_1 rfl rfl rfl ?_
  refine q_iload_n 2 3 dL_score_2 rfl rfl rfl ?_
  refine q_iload_n 3 4 dL_score_3 rfl rfl rfl ?_
  skip
  refine q_cw 7 hc m_L_36 dL_score_4 rfl rfl hq9 rfl rfl (Nat.le_of_ble_eq_true rfl) (by omega) (by omega) (by omega) rfl (fun E w1 k9 n9 h => ?_) (fun v w1 k9 n9 h => ?_)
  · obtain ⟨hX, hP⟩ := h
    rw [← Nat.zero_add k9, ← Nat.zero_add n9] at hP
    rcases hX with ⟨ht, rfl⟩ | ⟨ht, rfl⟩
    · refine ⟨10, ⟨[], ⟨0, 7, 10, 24⟩, [⟨0, 7, 14, 13⟩], rfl, fun _ h => absurd h List.not_mem_nil, rfl, by decide, lk_L24, rfl⟩, fun q => ?_⟩
      refine q_astore 4 12 (L' := [_, _, _, _, _]) dL_score_10 (by decide) rfl rfl ?_
      refine q_iconst 1 13 dL_score_12 ic_1 rfl ?_
      refine q_ireturn dL_score_13 rfl ?_
      exact ⟨_, w1, rfl, by rw [ht], fun z => absurd ((ht).symm.trans z) (by decide), hP⟩
    · refine ⟨14, ⟨[⟨0, 7, 10, 24⟩], ⟨0, 7, 14, 13⟩, [], rfl, List.forall_mem_cons.mpr ⟨⟨rfl, by decide, _, lk_L24, cwp_13_24⟩, fun _ h => absurd h List.not_mem_nil⟩, rfl, by decide, lk_L13, rfl⟩, fun q => ?_⟩
      refine q_astore 4 16 (L' := [_, _, _, _, _]) dL_score_14 (by decide) rfl rfl ?_
      refine q_iconst 2 17 dL_score_16 ic_2 rfl ?_
      refine q_ireturn dL_score_17 rfl ?_
      exact ⟨_, w1, rfl, by rw [ht], fun z => absurd ((ht).symm.trans z) (by decide), hP⟩
  · obtain ⟨⟨ht, rfl⟩, hP⟩ := h
    rw [← Nat.zero_add k9, ← Nat.zero_add n9] at hP
    refine q_goto 18 dL_score_7 (by decide) ?_
    refine q_iconst 0 19 dL_score_18 ic_0 rfl ?_
    refine q_ireturn dL_score_19 rfl ?_
    exact ⟨_, w1, rfl, by rw [ht], fun _ => rfl, hP⟩

theorem cl_games {l : Launch} {g : Gh} {ad : Nat → Nat} {m kp tp : Sc} {h3 : Int32} {e : Nat} {ft : Int32} {T : va_W} {K N : Nat} (hR : Rel g ad m kp tp h3 e ft T K N) {p0 : Int32} {p1 : Int32} {o : Nat} {of : Nat → Int64} : Ct l g yL_games (Cond.codeWith yL_games cL_games 4 (some .int) [(0, 6, 9, 13)]) 41 (KM9 - K + 32) (NM9 - N + 2000) [.ref (ad 0), .int p0, .int p1] ([(o, aJ g 1 of)] ++ T) (wPc g o (gaT p0 p1) (of 0) (RelP g ad (gaM m p0 p1) kp tp h3 e ft K N)) noX := by
  refine ct_ofC (M := mtL_games) [some (.ref (ad 0)), some (.int p0), some (.int p1), none] rfl (by decide) (Nat.le_of_ble_eq_true rfl) (fun _ h => h) (fun a => ?_)
  obtain ⟨ic9, r9, hq9⟩ := hR.head
  have hc := cw_games (l := l) hR (p0 := p0) (p1 := p1)
  refine q_aload_n 0 1 dL_games_0 rfl rfl rfl ?_
  refine q_iload_n 1 2 dL_games_1 rfl rfl rfl ?_
  refine q_iload_n 2 3 dL_games_2 rfl rfl rfl ?_
  skip
  refine q_cw 6 hc m_L_40 dL_games_3 rfl rfl hq9 rfl rfl (Nat.le_of_ble_eq_true rfl) (by omega) (by omega) (by omega) rfl (fun E w1 k9 n9 h => ?_) (fun v w1 k9 n9 h => ?_)
  · obtain ⟨hX, hP⟩ := h
    rw [← Nat.zero_add k9, ← Nat.zero_add n9] at hP
    obtain ⟨ht, rfl⟩ := hX
    refine ⟨9, ⟨[], ⟨0, 6, 9, 13⟩, [], rfl, fun _ h => absurd h List.not_mem_nil, rfl, by decide, lk_L13, rfl⟩, fun q => ?_⟩
    refine q_astore_n 3 10 (L' := [_, _, _, _]) dL_games_9 rfl (by decide) rfl rfl ?_
    refine q_iconst 1 11 dL_games_10 ic_1 rfl ?_
    refine q_ireturn dL_games_11 rfl ?_
    exact ⟨_, w1, rfl, by rw [ht], fun z => absurd ((ht).symm.trans z) (by decide), hP⟩
  · obtain ⟨⟨ht, rfl⟩, hP⟩ := h
    rw [← Nat.zero_add k9, ← Nat.zero_add n9] at hP
    refine q_goto 12 dL_games_6 (by decide) ?_
    refine q_iconst 0 13 dL_games_12 ic_0 rfl ?_
    refine q_ireturn dL_games_13 rfl ?_
    exact ⟨_, w1, rfl, by rw [ht], fun _ => rfl, hP⟩

theorem cl_begin {l : Launch} {g : Gh} {ad : Nat → Nat} {m kp tp : Sc} {h3 : Int32} {e : Nat} {ft : Int32} {T : va_W} {K N : Nat} (hR : Rel g ad m kp tp h3 e ft T K N) {p0 : Int32} {p1 : Int32} {o : Nat} {of : Nat → Int64} : Ct l g yL_begin (Cond.codeWith yL_begin cL_begin 4 (some .int) [(0, 6, 9, 13)]) 41 (KM9 - K + 32) (NM9 - N + 2000) [.ref (ad 0), .int p0, .int p1] ([(o, aJ g 1 of)] ++ T) (wPc g o (beT p0 p1) (of 0) (RelP g ad (beM m p0 p1) kp tp h3 e ft K N)) noX := by
  refine ct_ofC (M := mtL_begin) [some (.ref (ad 0)), some (.int p0), some (.int p1), none] rfl (by decide) (Nat.le_of_ble_eq_true rfl) (fun _ h => h) (fun a => ?_)
  obtain ⟨ic9, r9, hq9⟩ := hR.head
  have hc := cw_begin (l := l) hR (p0 := p0) (p1 := p1)
  refine q_aload_n 0 1 dL_begin_0 rfl rfl rfl ?_
  refine q_iload_n 1 2 dL_begin_1 rfl rfl rfl ?_
  refine q_iload_n 2 3 dL_begin_2 rfl rfl rfl ?_
  skip
  refine q_cw 6 hc m_L_44 dL_begin_3 rfl rfl hq9 rfl rfl (Nat.le_of_ble_eq_true rfl) (by omega) (by omega) (by omega) rfl (fun E w1 k9 n9 h => ?_) (fun v w1 k9 n9 h => ?_)
  · obtain ⟨hX, hP⟩ := h
    rw [← Nat.zero_add k9, ← Nat.zero_add n9] at hP
    obtain ⟨ht, rfl⟩ := hX
    refine ⟨9, ⟨[], ⟨0, 6, 9, 13⟩, [], rfl, fun _ h => absurd h List.not_mem_nil, rfl, by decide, lk_L13, rfl⟩, fun q => ?_⟩
    refine q_astore_n 3 10 (L' := [_, _, _, _]) dL_begin_9 rfl (by decide) rfl rfl ?_
    refine q_iconst 1 11 dL_begin_10 ic_1 rfl ?_
    refine q_ireturn dL_begin_11 rfl ?_
    exact ⟨_, w1, rfl, by rw [ht], fun z => absurd ((ht).symm.trans z) (by decide), hP⟩
  · obtain ⟨⟨ht, rfl⟩, hP⟩ := h
    rw [← Nat.zero_add k9, ← Nat.zero_add n9] at hP
    refine q_goto 12 dL_begin_6 (by decide) ?_
    refine q_iconst 0 13 dL_begin_12 ic_0 rfl ?_
    refine q_ireturn dL_begin_13 rfl ?_
    exact ⟨_, w1, rfl, by rw [ht], fun _ => rfl, hP⟩

theorem cl_stands {l : Launch} {g : Gh} {ad : Nat → Nat} {m kp tp : Sc} {h3 : Int32} {e : Nat} {ft : Int32} {T : va_W} {K N : Nat} (hR : Rel g ad m kp tp h3 e ft T K N) {p0 : Int32} (x : Sc) {o : Nat} {of : Nat → Int64} : Ct l g yL_stands (Cond.codeWith yL_stands cL_stands 4 (some .int) [(0, 9, 12, 26)]) 41 (KM9 - K + 32) (NM9 - N + 2000) [.ref (ad 0), .int p0, .ref o] ([(o, aJ g 1 of)] ++ T) (wPc g o (if rIn p0 0 9 = 0 then (1 : Int32) else 0) ((rTold (rTake m x) p0.toNatClampNeg).toInt64) (RelP g ad m kp tp h3 e ft K N)) noX := by
  refine ct_ofC (M := mtL_stands) [some (.ref (ad 0)), some (.int p0), some (.ref o), none] rfl (by decide) (Nat.le_of_ble_eq_true rfl) (fun _ h => h) (fun a => ?_)
  obtain ⟨ic9, r9, hq9⟩ := hR.head
  have hc := cw_stands (l := l) hR (p0 := p0) x
  refine q_aload_n 2 1 dL_stands_0 rfl rfl rfl ?_
  refine q_iconst 0 2 dL_stands_1 ic_0 rfl ?_
  refine q_aload_n 0 3 dL_stands_2 rfl rfl rfl ?_
  refine q_iload_n 1 4 dL_stands_3 rfl rfl rfl ?_
  skip
  refine q_cw 7 hc m_L_47 dL_stands_4 rfl rfl hq9 rfl rfl (Nat.le_of_ble_eq_true rfl) (by omega) (by omega) (by omega) rfl (fun E w1 k9 n9 h => ?_) (fun v w1 k9 n9 h => ?_)
  · obtain ⟨hX, hP⟩ := h
    rw [← Nat.zero_add k9, ← Nat.zero_add n9] at hP
    obtain ⟨ht, rfl⟩ := hX
    refine ⟨12, ⟨[], ⟨0, 9, 12, 26⟩, [], rfl, fun _ h => absurd h List.not_mem_nil, rfl, by decide, lk_L26, rfl⟩, fun q => ?_⟩
    refine q_astore_n 3 13 (L' := [_, _, _, _]) dL_stands_12 rfl (by decide) rfl rfl ?_
    refine q_iconst 1 14 dL_stands_13 ic_1 rfl ?_
    refine q_ireturn dL_stands_14 rfl ?_
    exact ⟨_, w1, rfl, by rw [show (if rIn p0 0 9 = 0 then (1 : Int32) else 0) = 1 from if_pos ht], fun z => absurd (((show (if rIn p0 0 9 = 0 then (1 : Int32) else 0) = 1 from if_pos ht)).symm.trans z) (by decide), hP⟩
  · obtain ⟨⟨ht, rfl⟩, hP⟩ := h
    rw [← Nat.zero_add k9, ← Nat.zero_add n9] at hP
    refine q_i2l 8 dL_stands_7 rfl ?_
    refine q_last 0 0 9 (w' := ([_] ++ _)) dL_stands_8 rfl ⟨by decide, by decide, by decide⟩ rfl rfl ?_
    refine q_goto 15 dL_stands_9 (by decide) ?_
    refine q_iconst 0 16 dL_stands_15 ic_0 rfl ?_
    refine q_ireturn dL_stands_16 rfl ?_
    exact ⟨_, w1, rfl, by rw [(show (if rIn p0 0 9 = 0 then (1 : Int32) else 0) = 0 from if_neg ht)], fun _ => pk_uLs, hP⟩

theorem cl_rally {l : Launch} {g : Gh} {ad : Nat → Nat} {m kp tp : Sc} {h3 : Int32} {e : Nat} {ft : Int32} {T : va_W} {K N : Nat} (hR : Rel g ad m kp tp h3 e ft T K N) {p0 : Int32} {p1 : Int32} (x : Sc) {o : Nat} {of : Nat → Int64} : Ct l g yL_rally (Cond.codeWith yL_rally cL_rally 5 (some .int) [(0, 10, 13, 24), (0, 10, 17, 13), (0, 10, 21, 53)]) 41 (KM9 - K + 32) (NM9 - N + 2000) [.ref (ad 0), .int p0, .int p1, .ref o] ([(o, aJ g 1 of)] ++ T) (wPc g o (raT m (rTake m x) p0 p1) ((rWho m (rTake m x) (raH p0 p1)).toInt64) (RelP g ad (if raT m (rTake m x) p0 p1 = 0 then rPut m (rRal m (rTake m x) (raH p0 p1)) 9 else m) kp tp h3 e ft K N)) noX := by
  refine ct_ofC (M := mtL_rally) [some (.ref (ad 0)), some (.int p0), some (.int p1), some (.ref o), none] rfl (by decide) (Nat.le_of_ble_eq_true rfl) (fun _ h => h) (fun a => ?_)
  obtain ⟨ic9, r9, hq9⟩ := hR.head
  have hc := cw_rally (l := l) hR (p0 := p0) (p1 := p1) x
  refine q_aload_n 3 1 dL_rally_0 rfl rfl rfl ?_
  refine q_iconst 0 2 dL_rally_1 ic_0 rfl ?_
  refine q_aload_n 0 3 dL_rally_2 rfl rfl rfl ?_
  refine q_iload_n 1 4 dL_rally_3 rfl rfl rfl ?_
  refine q_iload_n 2 5 dL_rally_4 rfl rfl rfl ?_
  skip
  refine q_cw 8 hc m_L_50 dL_rally_5 rfl rfl hq9 rfl rfl (Nat.le_of_ble_eq_true rfl) (by omega) (by omega) (by omega) rfl (fun E w1 k9 n9 h => ?_) (fun v w1 k9 n9 h => ?_)
  · obtain ⟨hX, hP⟩ := h
    rw [← Nat.zero_add k9, ← Nat.zero_add n9] at hP
    rcases hX with ⟨ht, rfl⟩ | ⟨ht, rfl⟩ | ⟨ht, rfl⟩
    · refine ⟨13, ⟨[], ⟨0, 10, 13, 24⟩, [⟨0, 10, 17, 13⟩, ⟨0, 10, 21, 53⟩], rfl, fun _ h => absurd h List.not_mem_nil, rfl, by decide, lk_L24, rfl⟩, fun q => ?_⟩
      refine q_astore 4 15 (L' := [_, _, _, _, _]) dL_rally_13 (by decide) rfl rfl ?_
      refine q_iconst 1 16 dL_rally_15 ic_1 rfl ?_
      refine q_ireturn dL_rally_16 rfl ?_
      exact ⟨_, w1, rfl, by rw [ht], fun z => absurd ((ht).symm.trans z) (by decide), hP⟩
    · refine ⟨17, ⟨[⟨0, 10, 13, 24⟩], ⟨0, 10, 17, 13⟩, [⟨0, 10, 21, 53⟩], rfl, List.forall_mem_cons.mpr ⟨⟨rfl, by decide, _, lk_L24, cwp_13_24⟩, fun _ h => absurd h List.not_mem_nil⟩, rfl, by decide, lk_L13, rfl⟩, fun q => ?_⟩
      refine q_astore 4 19 (L' := [_, _, _, _, _]) dL_rally_17 (by decide) rfl rfl ?_
      refine q_iconst 2 20 dL_rally_19 ic_2 rfl ?_
      refine q_ireturn dL_rally_20 rfl ?_
      exact ⟨_, w1, rfl, by rw [ht], fun z => absurd ((ht).symm.trans z) (by decide), hP⟩
    · refine ⟨21, ⟨[⟨0, 10, 13, 24⟩, ⟨0, 10, 17, 13⟩], ⟨0, 10, 21, 53⟩, [], rfl, List.forall_mem_cons.mpr ⟨⟨rfl, by decide, _, lk_L24, cwp_53_24⟩, List.forall_mem_cons.mpr ⟨⟨rfl, by decide, _, lk_L13, cwp_53_13⟩, fun _ h => absurd h List.not_mem_nil⟩⟩, rfl, by decide, lk_L53, rfl⟩, fun q => ?_⟩
      refine q_astore 4 23 (L' := [_, _, _, _, _]) dL_rally_21 (by decide) rfl rfl ?_
      refine q_iconst 3 24 dL_rally_23 ic_3 rfl ?_
      refine q_ireturn dL_rally_24 rfl ?_
      exact ⟨_, w1, rfl, by rw [ht], fun z => absurd ((ht).symm.trans z) (by decide), hP⟩
  · obtain ⟨⟨ht, rfl⟩, hP⟩ := h
    rw [← Nat.zero_add k9, ← Nat.zero_add n9] at hP
    refine q_i2l 9 dL_rally_8 rfl ?_
    refine q_last 0 0 10 (w' := ([_] ++ _)) dL_rally_9 rfl ⟨by decide, by decide, by decide⟩ rfl rfl ?_
    refine q_goto 25 dL_rally_10 (by decide) ?_
    refine q_iconst 0 26 dL_rally_25 ic_0 rfl ?_
    refine q_ireturn dL_rally_26 rfl ?_
    exact ⟨_, w1, rfl, by rw [ht], fun _ => pk_uLs, hP⟩

theorem cl_bisque {l : Launch} {g : Gh} {ad : Nat → Nat} {m kp tp : Sc} {h3 : Int32} {e : Nat} {ft : Int32} {T : va_W} {K N : Nat} (hR : Rel g ad m kp tp h3 e ft T K N) {p0 : Int32} (x : Sc) {o : Nat} {of : Nat → Int64} : Ct l g yL_bisque (Cond.codeWith yL_bisque cL_bisque 4 (some .int) [(0, 16, 19, 24), (0, 16, 22, 53)]) 41 (KM9 - K + 32) (NM9 - N + 2000) [.ref (ad 0), .int p0, .ref o] ([(o, aJ g 1 of)] ++ T) (wPc g o (bqT m (rTake m x) p0) ((if sWins (sPt1 (sPt0 (rTake m x) p0)) p0 = 0 then 0 else 1)) (RelP g ad (if bqT m (rTake m x) p0 = 0 then rPut m (rBis m (rTake m x) p0) 9 else m) kp tp h3 e ft K N)) noX := by
  refine ct_ofC (M := mtL_bisque) [some (.ref (ad 0)), some (.int p0), some (.ref o), none] rfl (by decide) (Nat.le_of_ble_eq_true rfl) (fun _ h => h) (fun a => ?_)
  obtain ⟨ic9, r9, hq9⟩ := hR.head
  have hc := cw_bisque (l := l) hR (p0 := p0) x
  refine q_aload_n 2 1 dL_bisque_0 rfl rfl rfl ?_
  refine q_iconst 0 2 dL_bisque_1 ic_0 rfl ?_
  refine q_aload_n 0 3 dL_bisque_2 rfl rfl rfl ?_
  refine q_iload_n 1 4 dL_bisque_3 rfl rfl rfl ?_
  skip
  refine q_cw 7 hc m_L_55 dL_bisque_4 rfl rfl hq9 rfl rfl (Nat.le_of_ble_eq_true rfl) (by omega) (by omega) (by omega) rfl (fun E w1 k9 n9 h => ?_) (fun v w1 k9 n9 h => ?_)
  · obtain ⟨hX, hP⟩ := h
    rw [← Nat.zero_add k9, ← Nat.zero_add n9] at hP
    rcases hX with ⟨ht, rfl⟩ | ⟨ht, rfl⟩
    · refine ⟨19, ⟨[], ⟨0, 16, 19, 24⟩, [⟨0, 16, 22, 53⟩], rfl, fun _ h => absurd h List.not_mem_nil, rfl, by decide, lk_L24, rfl⟩, fun q => ?_⟩
      refine q_astore_n 3 20 (L' := [_, _, _, _]) dL_bisque_19 rfl (by decide) rfl rfl ?_
      refine q_iconst 1 21 dL_bisque_20 ic_1 rfl ?_
      refine q_ireturn dL_bisque_21 rfl ?_
      exact ⟨_, w1, rfl, by rw [ht], fun z => absurd ((ht).symm.trans z) (by decide), hP⟩
    · refine ⟨22, ⟨[⟨0, 16, 19, 24⟩], ⟨0, 16, 22, 53⟩, [], rfl, List.forall_mem_cons.mpr ⟨⟨rfl, by decide, _, lk_L24, cwp_53_24⟩, fun _ h => absurd h List.not_mem_nil⟩, rfl, by decide, lk_L53, rfl⟩, fun q => ?_⟩
      refine q_astore_n 3 23 (L' := [_, _, _, _]) dL_bisque_22 rfl (by decide) rfl rfl ?_
      refine q_iconst 2 24 dL_bisque_23 ic_2 rfl ?_
      refine q_ireturn dL_bisque_24 rfl ?_
      exact ⟨_, w1, rfl, by rw [ht], fun z => absurd ((ht).symm.trans z) (by decide), hP⟩
  · obtain ⟨⟨ht, rfl⟩, hP⟩ := h
    rw [← Nat.zero_add k9, ← Nat.zero_add n9] at hP
    by_cases hz : sWins (sPt1 (sPt0 (rTake m x) p0)) p0 = 0
    · skip
      refine q_if_eq 14 10 dL_bisque_7 (by decide) rfl (fun h7 => ?_) (fun h7 => absurd hz h7)
      refine q_lconst 0 15 dL_bisque_14 (by decide) rfl ?_
      refine q_last 0 0 16 (w' := ([_] ++ _)) dL_bisque_15 rfl ⟨by decide, by decide, by decide⟩ rfl rfl ?_
      refine q_goto 25 dL_bisque_16 (by decide) ?_
      refine q_iconst 0 26 dL_bisque_25 ic_0 rfl ?_
      refine q_ireturn dL_bisque_26 rfl ?_
      exact ⟨_, w1, rfl, by rw [ht], fun _ => by rw [if_pos hz]; exact pk_uLs, hP⟩
    · skip
      refine q_if_eq 14 10 dL_bisque_7 (by decide) rfl (fun h7 => absurd h7 hz) (fun h7 => ?_)
      refine q_lconst 1 11 dL_bisque_10 (by decide) rfl ?_
      refine q_goto 15 dL_bisque_11 (by decide) ?_
      refine q_last 0 0 16 (w' := ([_] ++ _)) dL_bisque_15 rfl ⟨by decide, by decide, by decide⟩ rfl rfl ?_
      refine q_goto 25 dL_bisque_16 (by decide) ?_
      refine q_iconst 0 26 dL_bisque_25 ic_0 rfl ?_
      refine q_ireturn dL_bisque_26 rfl ?_
      exact ⟨_, w1, rfl, by rw [ht], fun _ => by rw [if_neg hz]; exact pk_uLs, hP⟩

theorem cl_chance {l : Launch} {g : Gh} {ad : Nat → Nat} {m kp tp : Sc} {h3 : Int32} {e : Nat} {ft : Int32} {T : va_W} {K N : Nat} (hR : Rel g ad m kp tp h3 e ft T K N) {p0 : Int32} {p1 : Int32} {o : Nat} {of : Nat → Int64} : Ct l g yL_chance (Cond.codeWith yL_chance cL_chance 5 (some .int) [(0, 10, 13, 24), (0, 10, 17, 13), (0, 10, 21, 53)]) 41 (KM9 - K + 32) (NM9 - N + 2000) [.ref (ad 0), .int p0, .int p1, .ref o] ([(o, aJ g 1 of)] ++ T) (wPc g o (reT m (S m) p0 p1) ((plR m (svA m) p0 (-1) p1.toNatClampNeg (at0 m)).toInt64) (RelP g ad m kp tp h3 e ft K N)) noX := by
  refine ct_ofC (M := mtL_chance) [some (.ref (ad 0)), some (.int p0), some (.int p1), some (.ref o), none] rfl (by decide) (Nat.le_of_ble_eq_true rfl) (fun _ h => h) (fun a => ?_)
  obtain ⟨ic9, r9, hq9⟩ := hR.head
  have hc := cw_chance (l := l) hR (p0 := p0) (p1 := p1)
  refine q_aload_n 3 1 dL_chance_0 rfl rfl rfl ?_
  refine q_iconst 0 2 dL_chance_1 ic_0 rfl ?_
  refine q_aload_n 0 3 dL_chance_2 rfl rfl rfl ?_
  refine q_iload_n 1 4 dL_chance_3 rfl rfl rfl ?_
  refine q_iload_n 2 5 dL_chance_4 rfl rfl rfl ?_
  skip
  refine q_cw 8 hc m_L_59 dL_chance_5 rfl rfl hq9 rfl rfl (Nat.le_of_ble_eq_true rfl) (by omega) (by omega) (by omega) rfl (fun E w1 k9 n9 h => ?_) (fun v w1 k9 n9 h => ?_)
  · obtain ⟨hX, hP⟩ := h
    rw [← Nat.zero_add k9, ← Nat.zero_add n9] at hP
    rcases hX with ⟨ht, rfl⟩ | ⟨ht, rfl⟩ | ⟨ht, rfl⟩
    · refine ⟨13, ⟨[], ⟨0, 10, 13, 24⟩, [⟨0, 10, 17, 13⟩, ⟨0, 10, 21, 53⟩], rfl, fun _ h => absurd h List.not_mem_nil, rfl, by decide, lk_L24, rfl⟩, fun q => ?_⟩
      refine q_astore 4 15 (L' := [_, _, _, _, _]) dL_chance_13 (by decide) rfl rfl ?_
      refine q_iconst 1 16 dL_chance_15 ic_1 rfl ?_
      refine q_ireturn dL_chance_16 rfl ?_
      exact ⟨_, w1, rfl, by rw [ht], fun z => absurd ((ht).symm.trans z) (by decide), hP⟩
    · refine ⟨17, ⟨[⟨0, 10, 13, 24⟩], ⟨0, 10, 17, 13⟩, [⟨0, 10, 21, 53⟩], rfl, List.forall_mem_cons.mpr ⟨⟨rfl, by decide, _, lk_L24, cwp_13_24⟩, fun _ h => absurd h List.not_mem_nil⟩, rfl, by decide, lk_L13, rfl⟩, fun q => ?_⟩
      refine q_astore 4 19 (L' := [_, _, _, _, _]) dL_chance_17 (by decide) rfl rfl ?_
      refine q_iconst 2 20 dL_chance_19 ic_2 rfl ?_
      refine q_ireturn dL_chance_20 rfl ?_
      exact ⟨_, w1, rfl, by rw [ht], fun z => absurd ((ht).symm.trans z) (by decide), hP⟩
    · refine ⟨21, ⟨[⟨0, 10, 13, 24⟩, ⟨0, 10, 17, 13⟩], ⟨0, 10, 21, 53⟩, [], rfl, List.forall_mem_cons.mpr ⟨⟨rfl, by decide, _, lk_L24, cwp_53_24⟩, List.forall_mem_cons.mpr ⟨⟨rfl, by decide, _, lk_L13, cwp_53_13⟩, fun _ h => absurd h List.not_mem_nil⟩⟩, rfl, by decide, lk_L53, rfl⟩, fun q => ?_⟩
      refine q_astore 4 23 (L' := [_, _, _, _, _]) dL_chance_21 (by decide) rfl rfl ?_
      refine q_iconst 3 24 dL_chance_23 ic_3 rfl ?_
      refine q_ireturn dL_chance_24 rfl ?_
      exact ⟨_, w1, rfl, by rw [ht], fun z => absurd ((ht).symm.trans z) (by decide), hP⟩
  · obtain ⟨⟨ht, rfl⟩, hP⟩ := h
    rw [← Nat.zero_add k9, ← Nat.zero_add n9] at hP
    refine q_i2l 9 dL_chance_8 rfl ?_
    refine q_last 0 0 10 (w' := ([_] ++ _)) dL_chance_9 rfl ⟨by decide, by decide, by decide⟩ rfl rfl ?_
    refine q_goto 25 dL_chance_10 (by decide) ?_
    refine q_iconst 0 26 dL_chance_25 ic_0 rfl ?_
    refine q_ireturn dL_chance_26 rfl ?_
    exact ⟨_, w1, rfl, by rw [ht], fun _ => pk_uLs, hP⟩

theorem cl_best {l : Launch} {g : Gh} {ad : Nat → Nat} {m kp tp : Sc} {h3 : Int32} {e : Nat} {ft : Int32} {T : va_W} {K N : Nat} (hR : Rel g ad m kp tp h3 e ft T K N) {p0 : Int32} {p1 : Int32} {p2 : Int32} {o : Nat} {of : Nat → Int64} : Ct l g yL_best (Cond.codeWith yL_best cL_best 6 (some .int) [(0, 12, 15, 24), (0, 12, 19, 13), (0, 12, 23, 53)]) 41 (KM9 - K + 32) (NM9 - N + 2000) [.ref (ad 0), .int p0, .int p1, .int p2, .ref o] ([(o, aJ g 1 of)] ++ T) (wPc g o (reT m (S m) p0 p1) ((if p2 = 0 then bsR m (svA m) p0.toNatClampNeg p1.toNatClampNeg (at0 m) else bsF m (svA m) p0.toNatClampNeg (at0 m) p1.toNatClampNeg).toInt64) (RelP g ad m kp tp h3 e ft K N)) noX := by
  refine ct_ofC (M := mtL_best) [some (.ref (ad 0)), some (.int p0), some (.int p1), some (.int p2), some (.ref o), none] rfl (by decide) (Nat.le_of_ble_eq_true rfl) (fun _ h => h) (fun a => ?_)
  obtain ⟨ic9, r9, hq9⟩ := hR.head
  have hc := cw_best (l := l) hR (p0 := p0) (p1 := p1) (p2 := p2)
  refine q_aload 4 2 dL_best_0 rfl rfl ?_
  refine q_iconst 0 3 dL_best_2 ic_0 rfl ?_
  refine q_aload_n 0 4 dL_best_3 rfl rfl rfl ?_
  refine q_iload_n 1 5 dL_best_4 rfl rfl rfl ?_
  refine q_iload_n 2 6 dL_best_5 rfl rfl rfl ?_
  refine q_iload_n 3 7 dL_best_6 rfl rfl rfl ?_
  skip
  refine q_cw 10 hc m_L_62 dL_best_7 rfl rfl hq9 rfl rfl (Nat.le_of_ble_eq_true rfl) (by omega) (by omega) (by omega) rfl (fun E w1 k9 n9 h => ?_) (fun v w1 k9 n9 h => ?_)
  · obtain ⟨hX, hP⟩ := h
    rw [← Nat.zero_add k9, ← Nat.zero_add n9] at hP
    rcases hX with ⟨ht, rfl⟩ | ⟨ht, rfl⟩ | ⟨ht, rfl⟩
    · refine ⟨15, ⟨[], ⟨0, 12, 15, 24⟩, [⟨0, 12, 19, 13⟩, ⟨0, 12, 23, 53⟩], rfl, fun _ h => absurd h List.not_mem_nil, rfl, by decide, lk_L24, rfl⟩, fun q => ?_⟩
      refine q_astore 5 17 (L' := [_, _, _, _, _, _]) dL_best_15 (by decide) rfl rfl ?_
      refine q_iconst 1 18 dL_best_17 ic_1 rfl ?_
      refine q_ireturn dL_best_18 rfl ?_
      exact ⟨_, w1, rfl, by rw [ht], fun z => absurd ((ht).symm.trans z) (by decide), hP⟩
    · refine ⟨19, ⟨[⟨0, 12, 15, 24⟩], ⟨0, 12, 19, 13⟩, [⟨0, 12, 23, 53⟩], rfl, List.forall_mem_cons.mpr ⟨⟨rfl, by decide, _, lk_L24, cwp_13_24⟩, fun _ h => absurd h List.not_mem_nil⟩, rfl, by decide, lk_L13, rfl⟩, fun q => ?_⟩
      refine q_astore 5 21 (L' := [_, _, _, _, _, _]) dL_best_19 (by decide) rfl rfl ?_
      refine q_iconst 2 22 dL_best_21 ic_2 rfl ?_
      refine q_ireturn dL_best_22 rfl ?_
      exact ⟨_, w1, rfl, by rw [ht], fun z => absurd ((ht).symm.trans z) (by decide), hP⟩
    · refine ⟨23, ⟨[⟨0, 12, 15, 24⟩, ⟨0, 12, 19, 13⟩], ⟨0, 12, 23, 53⟩, [], rfl, List.forall_mem_cons.mpr ⟨⟨rfl, by decide, _, lk_L24, cwp_53_24⟩, List.forall_mem_cons.mpr ⟨⟨rfl, by decide, _, lk_L13, cwp_53_13⟩, fun _ h => absurd h List.not_mem_nil⟩⟩, rfl, by decide, lk_L53, rfl⟩, fun q => ?_⟩
      refine q_astore 5 25 (L' := [_, _, _, _, _, _]) dL_best_23 (by decide) rfl rfl ?_
      refine q_iconst 3 26 dL_best_25 ic_3 rfl ?_
      refine q_ireturn dL_best_26 rfl ?_
      exact ⟨_, w1, rfl, by rw [ht], fun z => absurd ((ht).symm.trans z) (by decide), hP⟩
  · obtain ⟨⟨ht, rfl⟩, hP⟩ := h
    rw [← Nat.zero_add k9, ← Nat.zero_add n9] at hP
    refine q_i2l 11 dL_best_10 rfl ?_
    refine q_last 0 0 12 (w' := ([_] ++ _)) dL_best_11 rfl ⟨by decide, by decide, by decide⟩ rfl rfl ?_
    refine q_goto 27 dL_best_12 (by decide) ?_
    refine q_iconst 0 28 dL_best_27 ic_0 rfl ?_
    refine q_ireturn dL_best_28 rfl ?_
    exact ⟨_, w1, rfl, by rw [ht], fun _ => pk_uLs, hP⟩

theorem cl_saves {l : Launch} {g : Gh} {ad : Nat → Nat} {m kp tp : Sc} {h3 : Int32} {e : Nat} {ft : Int32} {T : va_W} {K N : Nat} (hR : Rel g ad m kp tp h3 e ft T K N) {p0 : Int32} {p1 : Int32} {p2 : Int32} {o : Nat} {of : Nat → Int64} : Ct l g yL_saves (Cond.codeWith yL_saves cL_saves 6 (some .int) [(0, 12, 15, 24), (0, 12, 19, 13), (0, 12, 23, 53), (0, 12, 27, 26)]) 41 (KM9 - K + 32) (NM9 - N + 2000) [.ref (ad 0), .int p0, .int p1, .int p2, .ref o] ([(o, aJ g 1 of)] ++ T) (wPc g o (saT m p0 p1 p2) ((saV m (svA m) p0 p2 (at0 m) p1.toNatClampNeg).toInt64) (RelP g ad m kp tp h3 e ft K N)) noX := by
  refine ct_ofC (M := mtL_saves) [some (.ref (ad 0)), some (.int p0), some (.int p1), some (.int p2), some (.ref o), none] rfl (by decide) (Nat.le_of_ble_eq_true rfl) (fun _ h => h) (fun a => ?_)
  obtain ⟨ic9, r9, hq9⟩ := hR.head
  have hc := cw_saves (l := l) hR (p0 := p0) (p1 := p1) (p2 := p2)
  refine q_aload 4 2 dL_saves_0 rfl rfl ?_
  refine q_iconst 0 3 dL_saves_2 ic_0 rfl ?_
  refine q_aload_n 0 4 dL_saves_3 rfl rfl rfl ?_
  refine q_iload_n 1 5 dL_saves_4 rfl rfl rfl ?_
  refine q_iload_n 2 6 dL_saves_5 rfl rfl rfl ?_
  refine q_iload_n 3 7 dL_saves_6 rfl rfl rfl ?_
  skip
  refine q_cw 10 hc m_L_66 dL_saves_7 rfl rfl hq9 rfl rfl (Nat.le_of_ble_eq_true rfl) (by omega) (by omega) (by omega) rfl (fun E w1 k9 n9 h => ?_) (fun v w1 k9 n9 h => ?_)
  · obtain ⟨hX, hP⟩ := h
    rw [← Nat.zero_add k9, ← Nat.zero_add n9] at hP
    rcases hX with ⟨ht, rfl⟩ | ⟨ht, rfl⟩ | ⟨ht, rfl⟩ | ⟨ht, rfl⟩
    · refine ⟨15, ⟨[], ⟨0, 12, 15, 24⟩, [⟨0, 12, 19, 13⟩, ⟨0, 12, 23, 53⟩, ⟨0, 12, 27, 26⟩], rfl, fun _ h => absurd h List.not_mem_nil, rfl, by decide, lk_L24, rfl⟩, fun q => ?_⟩
      refine q_astore 5 17 (L' := [_, _, _, _, _, _]) dL_saves_15 (by decide) rfl rfl ?_
      refine q_iconst 1 18 dL_saves_17 ic_1 rfl ?_
      refine q_ireturn dL_saves_18 rfl ?_
      exact ⟨_, w1, rfl, by rw [ht], fun z => absurd ((ht).symm.trans z) (by decide), hP⟩
    · refine ⟨19, ⟨[⟨0, 12, 15, 24⟩], ⟨0, 12, 19, 13⟩, [⟨0, 12, 23, 53⟩, ⟨0, 12, 27, 26⟩], rfl, List.forall_mem_cons.mpr ⟨⟨rfl, by decide, _, lk_L24, cwp_13_24⟩, fun _ h => absurd h List.not_mem_nil⟩, rfl, by decide, lk_L13, rfl⟩, fun q => ?_⟩
      refine q_astore 5 21 (L' := [_, _, _, _, _, _]) dL_saves_19 (by decide) rfl rfl ?_
      refine q_iconst 2 22 dL_saves_21 ic_2 rfl ?_
      refine q_ireturn dL_saves_22 rfl ?_
      exact ⟨_, w1, rfl, by rw [ht], fun z => absurd ((ht).symm.trans z) (by decide), hP⟩
    · refine ⟨23, ⟨[⟨0, 12, 15, 24⟩, ⟨0, 12, 19, 13⟩], ⟨0, 12, 23, 53⟩, [⟨0, 12, 27, 26⟩], rfl, List.forall_mem_cons.mpr ⟨⟨rfl, by decide, _, lk_L24, cwp_53_24⟩, List.forall_mem_cons.mpr ⟨⟨rfl, by decide, _, lk_L13, cwp_53_13⟩, fun _ h => absurd h List.not_mem_nil⟩⟩, rfl, by decide, lk_L53, rfl⟩, fun q => ?_⟩
      refine q_astore 5 25 (L' := [_, _, _, _, _, _]) dL_saves_23 (by decide) rfl rfl ?_
      refine q_iconst 3 26 dL_saves_25 ic_3 rfl ?_
      refine q_ireturn dL_saves_26 rfl ?_
      exact ⟨_, w1, rfl, by rw [ht], fun z => absurd ((ht).symm.trans z) (by decide), hP⟩
    · refine ⟨27, ⟨[⟨0, 12, 15, 24⟩, ⟨0, 12, 19, 13⟩, ⟨0, 12, 23, 53⟩], ⟨0, 12, 27, 26⟩, [], rfl, List.forall_mem_cons.mpr ⟨⟨rfl, by decide, _, lk_L24, cwp_26_24⟩, List.forall_mem_cons.mpr ⟨⟨rfl, by decide, _, lk_L13, cwp_26_13⟩, List.forall_mem_cons.mpr ⟨⟨rfl, by decide, _, lk_L53, cwp_26_53⟩, fun _ h => absurd h List.not_mem_nil⟩⟩⟩, rfl, by decide, lk_L26, rfl⟩, fun q => ?_⟩
      refine q_astore 5 29 (L' := [_, _, _, _, _, _]) dL_saves_27 (by decide) rfl rfl ?_
      refine q_iconst 4 30 dL_saves_29 ic_4 rfl ?_
      refine q_ireturn dL_saves_30 rfl ?_
      exact ⟨_, w1, rfl, by rw [ht], fun z => absurd ((ht).symm.trans z) (by decide), hP⟩
  · obtain ⟨⟨ht, rfl⟩, hP⟩ := h
    rw [← Nat.zero_add k9, ← Nat.zero_add n9] at hP
    refine q_i2l 11 dL_saves_10 rfl ?_
    refine q_last 0 0 12 (w' := ([_] ++ _)) dL_saves_11 rfl ⟨by decide, by decide, by decide⟩ rfl rfl ?_
    refine q_goto 31 dL_saves_12 (by decide) ?_
    refine q_iconst 0 32 dL_saves_31 ic_0 rfl ?_
    refine q_ireturn dL_saves_32 rfl ?_
    exact ⟨_, w1, rfl, by rw [ht], fun _ => pk_uLs, hP⟩

theorem cl_worth {l : Launch} {g : Gh} {ad : Nat → Nat} {m kp tp : Sc} {h3 : Int32} {e : Nat} {ft : Int32} {T : va_W} {K N : Nat} (hR : Rel g ad m kp tp h3 e ft T K N) {p0 : Int32} {p1 : Int32} {p2 : Int32} {o : Nat} {of : Nat → Int64} : Ct l g yL_worth (Cond.codeWith yL_worth cL_worth 6 (some .int) [(0, 12, 15, 24), (0, 12, 19, 13), (0, 12, 23, 53)]) 41 (KM9 - K + 32) (NM9 - N + 2000) [.ref (ad 0), .int p0, .int p1, .int p2, .ref o] ([(o, aJ g 1 of)] ++ T) (wPc g o (woT m p0 p1 p2) ((if S m 6 = 1 then -2000000000 else plR m (svA m) p0 (-1) p2.toNatClampNeg (lnA m p1) - plR m (svA m) p0 (-1) p2.toNatClampNeg (at0 m)).toInt64) (RelP g ad m kp tp h3 e ft K N)) noX := by
  refine ct_ofC (M := mtL_worth) [some (.ref (ad 0)), some (.int p0), some (.int p1), some (.int p2), some (.ref o), none] rfl (by decide) (Nat.le_of_ble_eq_true rfl) (fun _ h => h) (fun a => ?_)
  obtain ⟨ic9, r9, hq9⟩ := hR.head
  have hc := cw_worth (l := l) hR (p0 := p0) (p1 := p1) (p2 := p2)
  refine q_aload 4 2 dL_worth_0 rfl rfl ?_
  refine q_iconst 0 3 dL_worth_2 ic_0 rfl ?_
  refine q_aload_n 0 4 dL_worth_3 rfl rfl rfl ?_
  refine q_iload_n 1 5 dL_worth_4 rfl rfl rfl ?_
  refine q_iload_n 2 6 dL_worth_5 rfl rfl rfl ?_
  refine q_iload_n 3 7 dL_worth_6 rfl rfl rfl ?_
  skip
  refine q_cw 10 hc m_L_69 dL_worth_7 rfl rfl hq9 rfl rfl (Nat.le_of_ble_eq_true rfl) (by omega) (by omega) (by omega) rfl (fun E w1 k9 n9 h => ?_) (fun v w1 k9 n9 h => ?_)
  · obtain ⟨hX, hP⟩ := h
    rw [← Nat.zero_add k9, ← Nat.zero_add n9] at hP
    rcases hX with ⟨ht, rfl⟩ | ⟨ht, rfl⟩ | ⟨ht, rfl⟩
    · refine ⟨15, ⟨[], ⟨0, 12, 15, 24⟩, [⟨0, 12, 19, 13⟩, ⟨0, 12, 23, 53⟩], rfl, fun _ h => absurd h List.not_mem_nil, rfl, by decide, lk_L24, rfl⟩, fun q => ?_⟩
      refine q_astore 5 17 (L' := [_, _, _, _, _, _]) dL_worth_15 (by decide) rfl rfl ?_
      refine q_iconst 1 18 dL_worth_17 ic_1 rfl ?_
      refine q_ireturn dL_worth_18 rfl ?_
      exact ⟨_, w1, rfl, by rw [ht], fun z => absurd ((ht).symm.trans z) (by decide), hP⟩
    · refine ⟨19, ⟨[⟨0, 12, 15, 24⟩], ⟨0, 12, 19, 13⟩, [⟨0, 12, 23, 53⟩], rfl, List.forall_mem_cons.mpr ⟨⟨rfl, by decide, _, lk_L24, cwp_13_24⟩, fun _ h => absurd h List.not_mem_nil⟩, rfl, by decide, lk_L13, rfl⟩, fun q => ?_⟩
      refine q_astore 5 21 (L' := [_, _, _, _, _, _]) dL_worth_19 (by decide) rfl rfl ?_
      refine q_iconst 2 22 dL_worth_21 ic_2 rfl ?_
      refine q_ireturn dL_worth_22 rfl ?_
      exact ⟨_, w1, rfl, by rw [ht], fun z => absurd ((ht).symm.trans z) (by decide), hP⟩
    · refine ⟨23, ⟨[⟨0, 12, 15, 24⟩, ⟨0, 12, 19, 13⟩], ⟨0, 12, 23, 53⟩, [], rfl, List.forall_mem_cons.mpr ⟨⟨rfl, by decide, _, lk_L24, cwp_53_24⟩, List.forall_mem_cons.mpr ⟨⟨rfl, by decide, _, lk_L13, cwp_53_13⟩, fun _ h => absurd h List.not_mem_nil⟩⟩, rfl, by decide, lk_L53, rfl⟩, fun q => ?_⟩
      refine q_astore 5 25 (L' := [_, _, _, _, _, _]) dL_worth_23 (by decide) rfl rfl ?_
      refine q_iconst 3 26 dL_worth_25 ic_3 rfl ?_
      refine q_ireturn dL_worth_26 rfl ?_
      exact ⟨_, w1, rfl, by rw [ht], fun z => absurd ((ht).symm.trans z) (by decide), hP⟩
  · obtain ⟨⟨ht, rfl⟩, hP⟩ := h
    rw [← Nat.zero_add k9, ← Nat.zero_add n9] at hP
    refine q_i2l 11 dL_worth_10 rfl ?_
    refine q_last 0 0 12 (w' := ([_] ++ _)) dL_worth_11 rfl ⟨by decide, by decide, by decide⟩ rfl rfl ?_
    refine q_goto 27 dL_worth_12 (by decide) ?_
    refine q_iconst 0 28 dL_worth_27 ic_0 rfl ?_
    refine q_ireturn dL_worth_28 rfl ?_
    exact ⟨_, w1, rfl, by rw [ht], fun _ => pk_uLs, hP⟩

theorem cl_set {l : Launch} {g : Gh} {ad : Nat → Nat} {m kp tp : Sc} {h3 : Int32} {e : Nat} {ft : Int32} {T : va_W} {K N : Nat} (hR : Rel g ad m kp tp h3 e ft T K N) {p0 : Int32} {p1 : Int32} {o : Nat} {of : Nat → Int64} : Ct l g yL_set (Cond.codeWith yL_set cL_set 5 (some .int) [(0, 10, 13, 24), (0, 10, 17, 13), (0, 10, 21, 53)]) 41 (KM9 - K + 32) (NM9 - N + 2000) [.ref (ad 0), .int p0, .int p1, .ref o] ([(o, aJ g 1 of)] ++ T) (wPc g o (reT m (S m) p0 p1) ((seV m (svA m) p0 p1.toNatClampNeg (at0 m)).toInt64) (RelP g ad m kp tp h3 e ft K N)) noX := by
  refine ct_ofC (M := mtL_set) [some (.ref (ad 0)), some (.int p0), some (.int p1), some (.ref o), none] rfl (by decide) (Nat.le_of_ble_eq_true rfl) (fun _ h => h) (fun a => ?_)
  obtain ⟨ic9, r9, hq9⟩ := hR.head
  have hc := cw_set (l := l) hR (p0 := p0) (p1 := p1)
  refine q_aload_n 3 1 dL_set_0 rfl rfl rfl ?_
  refine q_iconst 0 2 dL_set_1 ic_0 rfl ?_
  refine q_aload_n 0 3 dL_set_2 rfl rfl rfl ?_
  refine q_iload_n 1 4 dL_set_3 rfl rfl rfl ?_
  refine q_iload_n 2 5 dL_set_4 rfl rfl rfl ?_
  skip
  refine q_cw 8 hc m_L_72 dL_set_5 rfl rfl hq9 rfl rfl (Nat.le_of_ble_eq_true rfl) (by omega) (by omega) (by omega) rfl (fun E w1 k9 n9 h => ?_) (fun v w1 k9 n9 h => ?_)
  · obtain ⟨hX, hP⟩ := h
    rw [← Nat.zero_add k9, ← Nat.zero_add n9] at hP
    rcases hX with ⟨ht, rfl⟩ | ⟨ht, rfl⟩ | ⟨ht, rfl⟩
    · refine ⟨13, ⟨[], ⟨0, 10, 13, 24⟩, [⟨0, 10, 17, 13⟩, ⟨0, 10, 21, 53⟩], rfl, fun _ h => absurd h List.not_mem_nil, rfl, by decide, lk_L24, rfl⟩, fun q => ?_⟩
      refine q_astore 4 15 (L' := [_, _, _, _, _]) dL_set_13 (by decide) rfl rfl ?_
      refine q_iconst 1 16 dL_set_15 ic_1 rfl ?_
      refine q_ireturn dL_set_16 rfl ?_
      exact ⟨_, w1, rfl, by rw [ht], fun z => absurd ((ht).symm.trans z) (by decide), hP⟩
    · refine ⟨17, ⟨[⟨0, 10, 13, 24⟩], ⟨0, 10, 17, 13⟩, [⟨0, 10, 21, 53⟩], rfl, List.forall_mem_cons.mpr ⟨⟨rfl, by decide, _, lk_L24, cwp_13_24⟩, fun _ h => absurd h List.not_mem_nil⟩, rfl, by decide, lk_L13, rfl⟩, fun q => ?_⟩
      refine q_astore 4 19 (L' := [_, _, _, _, _]) dL_set_17 (by decide) rfl rfl ?_
      refine q_iconst 2 20 dL_set_19 ic_2 rfl ?_
      refine q_ireturn dL_set_20 rfl ?_
      exact ⟨_, w1, rfl, by rw [ht], fun z => absurd ((ht).symm.trans z) (by decide), hP⟩
    · refine ⟨21, ⟨[⟨0, 10, 13, 24⟩, ⟨0, 10, 17, 13⟩], ⟨0, 10, 21, 53⟩, [], rfl, List.forall_mem_cons.mpr ⟨⟨rfl, by decide, _, lk_L24, cwp_53_24⟩, List.forall_mem_cons.mpr ⟨⟨rfl, by decide, _, lk_L13, cwp_53_13⟩, fun _ h => absurd h List.not_mem_nil⟩⟩, rfl, by decide, lk_L53, rfl⟩, fun q => ?_⟩
      refine q_astore 4 23 (L' := [_, _, _, _, _]) dL_set_21 (by decide) rfl rfl ?_
      refine q_iconst 3 24 dL_set_23 ic_3 rfl ?_
      refine q_ireturn dL_set_24 rfl ?_
      exact ⟨_, w1, rfl, by rw [ht], fun z => absurd ((ht).symm.trans z) (by decide), hP⟩
  · obtain ⟨⟨ht, rfl⟩, hP⟩ := h
    rw [← Nat.zero_add k9, ← Nat.zero_add n9] at hP
    refine q_i2l 9 dL_set_8 rfl ?_
    refine q_last 0 0 10 (w' := ([_] ++ _)) dL_set_9 rfl ⟨by decide, by decide, by decide⟩ rfl rfl ?_
    refine q_goto 25 dL_set_10 (by decide) ?_
    refine q_iconst 0 26 dL_set_25 ic_0 rfl ?_
    refine q_ireturn dL_set_26 rfl ?_
    exact ⟨_, w1, rfl, by rw [ht], fun _ => pk_uLs, hP⟩

theorem cl_ways {l : Launch} {g : Gh} {ad : Nat → Nat} {m kp tp : Sc} {h3 : Int32} {e : Nat} {ft : Int32} {T : va_W} {K N : Nat} (hR : Rel g ad m kp tp h3 e ft T K N) {p0 : Int32} {p1 : Int32} {p2 : Int32} {p3 : Int32} {o : Nat} {of : Nat → Int64} : Ct l g yL_ways (Cond.codeWith yL_ways cL_ways 7 (some .int) [(0, 14, 17, 24), (0, 14, 21, 13)]) 41 (KM9 - K + 32) (NM9 - N + 2000) [.ref (ad 0), .int p0, .int p1, .int p2, .int p3, .ref o] ([(o, aJ g 1 of)] ++ T) (wPc g o (wyT p0 p1 p2 p3) ((plR m (svA m) p1 p2 p3.toNatClampNeg (bg0 m p0)).toInt64) (RelP g ad m kp tp h3 e ft K N)) noX := by
  refine ct_ofC (M := mtL_ways) [some (.ref (ad 0)), some (.int p0), some (.int p1), some (.int p2), some (.int p3), some (.ref o), none] rfl (by decide) (Nat.le_of_ble_eq_true rfl) (fun _ h => h) (fun a => ?_)
  obtain ⟨ic9, r9, hq9⟩ := hR.head
  have hc := cw_ways (l := l) hR (p0 := p0) (p1 := p1) (p2 := p2) (p3 := p3)
  refine q_aload 5 2 dL_ways_0 rfl rfl ?_
  refine q_iconst 0 3 dL_ways_2 ic_0 rfl ?_
  refine q_aload_n 0 4 dL_ways_3 rfl rfl rfl ?_
  refine q_iload_n 1 5 dL_ways_4 rfl rfl rfl ?_
  refine q_iload_n 2 6 dL_ways_5 rfl rfl rfl ?_
  refine q_iload_n 3 7 dL_ways_6 rfl rfl rfl ?_
  refine q_iload 4 9 dL_ways_7 rfl rfl ?_
  skip
  refine q_cw 12 hc m_L_75 dL_ways_9 rfl rfl hq9 rfl rfl (Nat.le_of_ble_eq_true rfl) (by omega) (by omega) (by omega) rfl (fun E w1 k9 n9 h => ?_) (fun v w1 k9 n9 h => ?_)
  · obtain ⟨hX, hP⟩ := h
    rw [← Nat.zero_add k9, ← Nat.zero_add n9] at hP
    rcases hX with ⟨ht, rfl⟩ | ⟨ht, rfl⟩
    · refine ⟨17, ⟨[], ⟨0, 14, 17, 24⟩, [⟨0, 14, 21, 13⟩], rfl, fun _ h => absurd h List.not_mem_nil, rfl, by decide, lk_L24, rfl⟩, fun q => ?_⟩
      refine q_astore 6 19 (L' := [_, _, _, _, _, _, _]) dL_ways_17 (by decide) rfl rfl ?_
      refine q_iconst 1 20 dL_ways_19 ic_1 rfl ?_
      refine q_ireturn dL_ways_20 rfl ?_
      exact ⟨_, w1, rfl, by rw [ht], fun z => absurd ((ht).symm.trans z) (by decide), hP⟩
    · refine ⟨21, ⟨[⟨0, 14, 17, 24⟩], ⟨0, 14, 21, 13⟩, [], rfl, List.forall_mem_cons.mpr ⟨⟨rfl, by decide, _, lk_L24, cwp_13_24⟩, fun _ h => absurd h List.not_mem_nil⟩, rfl, by decide, lk_L13, rfl⟩, fun q => ?_⟩
      refine q_astore 6 23 (L' := [_, _, _, _, _, _, _]) dL_ways_21 (by decide) rfl rfl ?_
      refine q_iconst 2 24 dL_ways_23 ic_2 rfl ?_
      refine q_ireturn dL_ways_24 rfl ?_
      exact ⟨_, w1, rfl, by rw [ht], fun z => absurd ((ht).symm.trans z) (by decide), hP⟩
  · obtain ⟨⟨ht, rfl⟩, hP⟩ := h
    rw [← Nat.zero_add k9, ← Nat.zero_add n9] at hP
    refine q_i2l 13 dL_ways_12 rfl ?_
    refine q_last 0 0 14 (w' := ([_] ++ _)) dL_ways_13 rfl ⟨by decide, by decide, by decide⟩ rfl rfl ?_
    refine q_goto 25 dL_ways_14 (by decide) ?_
    refine q_iconst 0 26 dL_ways_25 ic_0 rfl ?_
    refine q_ireturn dL_ways_26 rfl ?_
    exact ⟨_, w1, rfl, by rw [ht], fun _ => pk_uLs, hP⟩

theorem cl_even {l : Launch} {g : Gh} {ad : Nat → Nat} {m kp tp : Sc} {h3 : Int32} {e : Nat} {ft : Int32} {T : va_W} {K N : Nat} (hR : Rel g ad m kp tp h3 e ft T K N) {p0 : Int32} {p1 : Int32} {o : Nat} {of : Nat → Int64} : Ct l g yL_even (Cond.codeWith yL_even cL_even 5 (some .int) [(0, 10, 13, 13)]) 41 (KM9 - K + 32) (NM9 - N + 2000) [.ref (ad 0), .int p0, .int p1, .ref o] ([(o, aJ g 1 of)] ++ T) (wPc g o (evT p0 p1) ((evO (evP m (plR m (svA m) 0 (-1) p0.toNatClampNeg) p1) 7 0).toInt64) (RelP g ad m kp tp h3 e ft K N)) noX := by
  refine ct_ofC (M := mtL_even) [some (.ref (ad 0)), some (.int p0), some (.int p1), some (.ref o), none] rfl (by decide) (Nat.le_of_ble_eq_true rfl) (fun _ h => h) (fun a => ?_)
  obtain ⟨ic9, r9, hq9⟩ := hR.head
  have hc := cw_even (l := l) hR (p0 := p0) (p1 := p1)
  refine q_aload_n 3 1 dL_even_0 rfl rfl rfl ?_
  refine q_iconst 0 2 dL_even_1 ic_0 rfl ?_
  refine q_aload_n 0 3 dL_even_2 rfl rfl rfl ?_
  refine q_iload_n 1 4 dL_even_3 rfl rfl rfl ?_
  refine q_iload_n 2 5 dL_even_4 rfl rfl rfl ?_
  skip
  refine q_cw 8 hc m_L_79 dL_even_5 rfl rfl hq9 rfl rfl (Nat.le_of_ble_eq_true rfl) (by omega) (by omega) (by omega) rfl (fun E w1 k9 n9 h => ?_) (fun v w1 k9 n9 h => ?_)
  · obtain ⟨hX, hP⟩ := h
    rw [← Nat.zero_add k9, ← Nat.zero_add n9] at hP
    obtain ⟨ht, rfl⟩ := hX
    refine ⟨13, ⟨[], ⟨0, 10, 13, 13⟩, [], rfl, fun _ h => absurd h List.not_mem_nil, rfl, by decide, lk_L13, rfl⟩, fun q => ?_⟩
    refine q_astore 4 15 (L' := [_, _, _, _, _]) dL_even_13 (by decide) rfl rfl ?_
    refine q_iconst 1 16 dL_even_15 ic_1 rfl ?_
    refine q_ireturn dL_even_16 rfl ?_
    exact ⟨_, w1, rfl, by rw [ht], fun z => absurd ((ht).symm.trans z) (by decide), hP⟩
  · obtain ⟨⟨ht, rfl⟩, hP⟩ := h
    rw [← Nat.zero_add k9, ← Nat.zero_add n9] at hP
    refine q_i2l 9 dL_even_8 rfl ?_
    refine q_last 0 0 10 (w' := ([_] ++ _)) dL_even_9 rfl ⟨by decide, by decide, by decide⟩ rfl rfl ?_
    refine q_goto 17 dL_even_10 (by decide) ?_
    refine q_iconst 0 18 dL_even_17 ic_0 rfl ?_
    refine q_ireturn dL_even_18 rfl ?_
    exact ⟨_, w1, rfl, by rw [ht], fun _ => pk_uLs, hP⟩

theorem cl_log {l : Launch} {g : Gh} {ad : Nat → Nat} {m kp tp : Sc} {h3 : Int32} {e : Nat} {ft : Int32} {T : va_W} {K N : Nat} (hR : Rel g ad m kp tp h3 e ft T K N) {p0 : Int32} {o : Nat} {of : Nat → Int64} : Ct l g yL_log (Cond.codeWith yL_log cL_log 4 (some .int) [(0, 9, 12, 13), (0, 9, 15, 53), (0, 9, 18, 26)]) 41 (KM9 - K + 32) (NM9 - N + 2000) [.ref (ad 0), .int p0, .ref o] ([(o, aJ g 1 of)] ++ T) (wPc g o (if lgV tp e = 0 then 1 else lgT m tp e p0) ((lgW m tp e p0).toInt64) (RelP g ad m kp tp h3 0 ft K N)) noX := by
  refine ct_ofC (M := mtL_log) [some (.ref (ad 0)), some (.int p0), some (.ref o), none] rfl (by decide) (Nat.le_of_ble_eq_true rfl) (fun _ h => h) (fun a => ?_)
  obtain ⟨ic9, r9, hq9⟩ := hR.head
  have hc := cw_log (l := l) hR (p0 := p0)
  refine q_aload_n 2 1 dL_log_0 rfl rfl rfl ?_
  refine q_iconst 0 2 dL_log_1 ic_0 rfl ?_
  refine q_aload_n 0 3 dL_log_2 rfl rfl rfl ?_
  refine q_iload_n 1 4 dL_log_3 rfl rfl rfl ?_
  skip
  refine q_cw 7 hc m_L_82 dL_log_4 rfl rfl hq9 rfl rfl (Nat.le_of_ble_eq_true rfl) (by omega) (by omega) (by omega) rfl (fun E w1 k9 n9 h => ?_) (fun v w1 k9 n9 h => ?_)
  · obtain ⟨hX, hP⟩ := h
    rw [← Nat.zero_add k9, ← Nat.zero_add n9] at hP
    rcases hX with ⟨ht, rfl⟩ | ⟨ht, rfl⟩ | ⟨ht, rfl⟩
    · refine ⟨12, ⟨[], ⟨0, 9, 12, 13⟩, [⟨0, 9, 15, 53⟩, ⟨0, 9, 18, 26⟩], rfl, fun _ h => absurd h List.not_mem_nil, rfl, by decide, lk_L13, rfl⟩, fun q => ?_⟩
      refine q_astore_n 3 13 (L' := [_, _, _, _]) dL_log_12 rfl (by decide) rfl rfl ?_
      refine q_iconst 1 14 dL_log_13 ic_1 rfl ?_
      refine q_ireturn dL_log_14 rfl ?_
      exact ⟨_, w1, rfl, by rw [ht], fun z => absurd ((ht).symm.trans z) (by decide), hP⟩
    · refine ⟨15, ⟨[⟨0, 9, 12, 13⟩], ⟨0, 9, 15, 53⟩, [⟨0, 9, 18, 26⟩], rfl, List.forall_mem_cons.mpr ⟨⟨rfl, by decide, _, lk_L13, cwp_53_13⟩, fun _ h => absurd h List.not_mem_nil⟩, rfl, by decide, lk_L53, rfl⟩, fun q => ?_⟩
      refine q_astore_n 3 16 (L' := [_, _, _, _]) dL_log_15 rfl (by decide) rfl rfl ?_
      refine q_iconst 2 17 dL_log_16 ic_2 rfl ?_
      refine q_ireturn dL_log_17 rfl ?_
      exact ⟨_, w1, rfl, by rw [ht], fun z => absurd ((ht).symm.trans z) (by decide), hP⟩
    · refine ⟨18, ⟨[⟨0, 9, 12, 13⟩, ⟨0, 9, 15, 53⟩], ⟨0, 9, 18, 26⟩, [], rfl, List.forall_mem_cons.mpr ⟨⟨rfl, by decide, _, lk_L13, cwp_26_13⟩, List.forall_mem_cons.mpr ⟨⟨rfl, by decide, _, lk_L53, cwp_26_53⟩, fun _ h => absurd h List.not_mem_nil⟩⟩, rfl, by decide, lk_L26, rfl⟩, fun q => ?_⟩
      refine q_astore_n 3 19 (L' := [_, _, _, _]) dL_log_18 rfl (by decide) rfl rfl ?_
      refine q_iconst 3 20 dL_log_19 ic_3 rfl ?_
      refine q_ireturn dL_log_20 rfl ?_
      exact ⟨_, w1, rfl, by rw [ht], fun z => absurd ((ht).symm.trans z) (by decide), hP⟩
  · obtain ⟨⟨ht, rfl⟩, hP⟩ := h
    rw [← Nat.zero_add k9, ← Nat.zero_add n9] at hP
    refine q_i2l 8 dL_log_7 rfl ?_
    refine q_last 0 0 9 (w' := ([_] ++ _)) dL_log_8 rfl ⟨by decide, by decide, by decide⟩ rfl rfl ?_
    refine q_goto 21 dL_log_9 (by decide) ?_
    refine q_iconst 0 22 dL_log_21 ic_0 rfl ?_
    refine q_ireturn dL_log_22 rfl ?_
    exact ⟨_, w1, rfl, by rw [ht], fun _ => pk_uLs, hP⟩

theorem cl_mends {l : Launch} {g : Gh} {ad : Nat → Nat} {m kp tp : Sc} {h3 : Int32} {e : Nat} {ft : Int32} {T : va_W} {K N : Nat} (hR : Rel g ad m kp tp h3 e ft T K N) {p0 : Int32} {p1 : Int32} {p2 : Int32} {p3 : Int32} {p4 : Int32} {o : Nat} {of : Nat → Int64} : Ct l g yL_mends (Cond.codeWith yL_mends cL_mends 8 (some .int) [(0, 15, 18, 13)]) 41 (KM9 - K + 32) (NM9 - N + 2000) [.ref (ad 0), .int p0, .int p1, .int p2, .int p3, .int p4, .ref o] ([(o, aJ g 1 of)] ++ T) (wPc g o (if lgV tp e = 0 then (1 : Int32) else 0) ((mnV m tp p0 p1 p2 p3 p4 e)) (RelP g ad m kp tp h3 0 ft K N)) noX := by
  refine ct_ofC (M := mtL_mends) [some (.ref (ad 0)), some (.int p0), some (.int p1), some (.int p2), some (.int p3), some (.int p4), some (.ref o), none] rfl (by decide) (Nat.le_of_ble_eq_true rfl) (fun _ h => h) (fun a => ?_)
  obtain ⟨ic9, r9, hq9⟩ := hR.head
  have hc := cw_mends (l := l) hR (p0 := p0) (p1 := p1) (p2 := p2) (p3 := p3) (p4 := p4)
  refine q_aload 6 2 dL_mends_0 rfl rfl ?_
  refine q_iconst 0 3 dL_mends_2 ic_0 rfl ?_
  refine q_aload_n 0 4 dL_mends_3 rfl rfl rfl ?_
  refine q_iload_n 1 5 dL_mends_4 rfl rfl rfl ?_
  refine q_iload_n 2 6 dL_mends_5 rfl rfl rfl ?_
  refine q_iload_n 3 7 dL_mends_6 rfl rfl rfl ?_
  refine q_iload 4 9 dL_mends_7 rfl rfl ?_
  refine q_iload 5 11 dL_mends_9 rfl rfl ?_
  skip
  refine q_cw 14 hc m_L_85 dL_mends_11 rfl rfl hq9 rfl rfl (Nat.le_of_ble_eq_true rfl) (by omega) (by omega) (by omega) rfl (fun E w1 k9 n9 h => ?_) (fun v w1 k9 n9 h => ?_)
  · obtain ⟨hX, hP⟩ := h
    rw [← Nat.zero_add k9, ← Nat.zero_add n9] at hP
    obtain ⟨ht, rfl⟩ := hX
    refine ⟨18, ⟨[], ⟨0, 15, 18, 13⟩, [], rfl, fun _ h => absurd h List.not_mem_nil, rfl, by decide, lk_L13, rfl⟩, fun q => ?_⟩
    refine q_astore 7 20 (L' := [_, _, _, _, _, _, _, _]) dL_mends_18 (by decide) rfl rfl ?_
    refine q_iconst 1 21 dL_mends_20 ic_1 rfl ?_
    refine q_ireturn dL_mends_21 rfl ?_
    exact ⟨_, w1, rfl, by rw [ht], fun z => absurd ((ht).symm.trans z) (by decide), hP⟩
  · obtain ⟨⟨ht, rfl⟩, hP⟩ := h
    rw [← Nat.zero_add k9, ← Nat.zero_add n9] at hP
    refine q_last 0 0 15 (w' := ([_] ++ _)) dL_mends_14 rfl ⟨by decide, by decide, by decide⟩ rfl rfl ?_
    refine q_goto 22 dL_mends_15 (by decide) ?_
    refine q_iconst 0 23 dL_mends_22 ic_0 rfl ?_
    refine q_ireturn dL_mends_23 rfl ?_
    exact ⟨_, w1, rfl, by rw [ht], fun _ => pk_uLs, hP⟩

theorem cl_play {l : Launch} {g : Gh} {ad : Nat → Nat} {m kp tp : Sc} {h3 : Int32} {e : Nat} {ft : Int32} {T : va_W} {K N : Nat} (hR : Rel g ad m kp tp h3 e ft T K N) {p0 : Int32} {p1 : Int32} {p2 : Int32} {o : Nat} {of : Nat → Int64} : Ct l g yL_play (Cond.codeWith yL_play cL_play 6 (some .int) [(0, 12, 15, 13), (0, 12, 19, 26)]) 41 (KM9 - K + 32) (NM9 - N + 2000) [.ref (ad 0), .int p0, .int p1, .int p2, .ref o] ([(o, aJ g 1 of)] ++ T) (wPc g o (pyT p1 p2) ((pyV m p0 p2 p1.toNatClampNeg).toInt64) (RelP g ad m kp tp h3 e ft K N)) noX := by
  refine ct_ofC (M := mtL_play) [some (.ref (ad 0)), some (.int p0), some (.int p1), some (.int p2), some (.ref o), none] rfl (by decide) (Nat.le_of_ble_eq_true rfl) (fun _ h => h) (fun a => ?_)
  obtain ⟨ic9, r9, hq9⟩ := hR.head
  have hc := cw_play (l := l) hR (p0 := p0) (p1 := p1) (p2 := p2)
  refine q_aload 4 2 dL_play_0 rfl rfl ?_
  refine q_iconst 0 3 dL_play_2 ic_0 rfl ?_
  refine q_aload_n 0 4 dL_play_3 rfl rfl rfl ?_
  refine q_iload_n 1 5 dL_play_4 rfl rfl rfl ?_
  refine q_iload_n 2 6 dL_play_5 rfl rfl rfl ?_
  refine q_iload_n 3 7 dL_play_6 rfl rfl rfl ?_
  skip
  refine q_cw 10 hc m_L_89 dL_play_7 rfl rfl hq9 rfl rfl (Nat.le_of_ble_eq_true rfl) (by omega) (by omega) (by omega) rfl (fun E w1 k9 n9 h => ?_) (fun v w1 k9 n9 h => ?_)
  · obtain ⟨hX, hP⟩ := h
    rw [← Nat.zero_add k9, ← Nat.zero_add n9] at hP
    rcases hX with ⟨ht, rfl⟩ | ⟨ht, rfl⟩
    · refine ⟨15, ⟨[], ⟨0, 12, 15, 13⟩, [⟨0, 12, 19, 26⟩], rfl, fun _ h => absurd h List.not_mem_nil, rfl, by decide, lk_L13, rfl⟩, fun q => ?_⟩
      refine q_astore 5 17 (L' := [_, _, _, _, _, _]) dL_play_15 (by decide) rfl rfl ?_
      refine q_iconst 1 18 dL_play_17 ic_1 rfl ?_
      refine q_ireturn dL_play_18 rfl ?_
      exact ⟨_, w1, rfl, by rw [ht], fun z => absurd ((ht).symm.trans z) (by decide), hP⟩
    · refine ⟨19, ⟨[⟨0, 12, 15, 13⟩], ⟨0, 12, 19, 26⟩, [], rfl, List.forall_mem_cons.mpr ⟨⟨rfl, by decide, _, lk_L13, cwp_26_13⟩, fun _ h => absurd h List.not_mem_nil⟩, rfl, by decide, lk_L26, rfl⟩, fun q => ?_⟩
      refine q_astore 5 21 (L' := [_, _, _, _, _, _]) dL_play_19 (by decide) rfl rfl ?_
      refine q_iconst 2 22 dL_play_21 ic_2 rfl ?_
      refine q_ireturn dL_play_22 rfl ?_
      exact ⟨_, w1, rfl, by rw [ht], fun z => absurd ((ht).symm.trans z) (by decide), hP⟩
  · obtain ⟨⟨ht, rfl⟩, hP⟩ := h
    rw [← Nat.zero_add k9, ← Nat.zero_add n9] at hP
    refine q_i2l 11 dL_play_10 rfl ?_
    refine q_last 0 0 12 (w' := ([_] ++ _)) dL_play_11 rfl ⟨by decide, by decide, by decide⟩ rfl rfl ?_
    refine q_goto 23 dL_play_12 (by decide) ?_
    refine q_iconst 0 24 dL_play_23 ic_0 rfl ?_
    refine q_ireturn dL_play_24 rfl ?_
    exact ⟨_, w1, rfl, by rw [ht], fun _ => pk_uLs, hP⟩

