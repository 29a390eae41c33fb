/-! ===== contracts over larger worlds, in any order ===== -/
theorem va_P_iff {D : va_G} {cl : List vw_C} {ws : va_W} {H : Heap} : va_P D cl ws H ↔ ∀ x ∈ ws, va_at D cl x H := by
  constructor
  · intro h x hx
    obtain ⟨k, hk⟩ := List.mem_iff_getElem?.mp hx
    exact h k x hk
  · intro h k q hk
    exact h q (List.mem_of_getElem? hk)
theorem va_D_iff {A : Nat → Prop} {ws : va_W} : va_D A ws ↔ (ws.map (fun x => x.1)).Nodup ∧ ∀ x ∈ ws, A x.1 := by
  constructor
  · intro h
    refine ⟨?_, fun x hx => ?_⟩
    · unfold List.Nodup
      rw [List.pairwise_iff_getElem]
      intro i j hi hj hij he
      rw [List.length_map] at hi hj
      simp only [List.getElem_map] at he
      have := h.1 i j ws[i] ws[j] (List.getElem?_eq_getElem hi) (List.getElem?_eq_getElem hj) he
      omega
    · obtain ⟨k, hk⟩ := List.mem_iff_getElem?.mp hx
      exact h.2 k x hk
  · intro h
    refine ⟨fun i j p q hi hj he => ?_, fun k q hk => h.2 q (List.mem_of_getElem? hk)⟩
    obtain ⟨hi1, hi2⟩ := List.getElem?_eq_some_iff.mp hi
    obtain ⟨hj1, hj2⟩ := List.getElem?_eq_some_iff.mp hj
    have hn := h.1
    unfold List.Nodup at hn
    rw [List.pairwise_iff_getElem] at hn
    rcases Nat.lt_trichotomy i j with hij | hij | hij
    · refine absurd ?_ (hn i j (by rw [List.length_map]; exact hi1) (by rw [List.length_map]; exact hj1) hij)
      simp only [List.getElem_map]
      rw [hi2, hj2]
      exact he
    · exact hij
    · refine absurd ?_ (hn j i (by rw [List.length_map]; exact hj1) (by rw [List.length_map]; exact hi1) hij)
      simp only [List.getElem_map]
      rw [hi2, hj2]
      exact he.symm
theorem va_A_iff {ws : va_W} {sz q : Nat} : va_A ws sz q ↔ (∃ x ∈ ws, x.1 = q) ∨ sz ≤ q := by
  constructor
  · rintro (⟨k, e, h⟩ | h)
    · exact Or.inl ⟨_, List.mem_of_getElem? h, rfl⟩
    · exact Or.inr h
  · rintro (⟨x, hx, rfl⟩ | h)
    · obtain ⟨k, hk⟩ := List.mem_iff_getElem?.mp hx
      exact Or.inl ⟨k, x.2, hk⟩
    · exact Or.inr h
/-- behind a callee's end: the rest of a larger world -/
theorem fr_join {g : Gh} {w wr W w1 W1 : va_W} {s t : State} (hW : (w ++ wr).Perm W) (hP : va_P g.1 vwCl W s.heap) (hD : va_D (fun _ => True) W) (hP1 : va_P g.1 vwCl w1 t.heap) (hD1 : va_D (va_A w s.heap.size) w1) (hF : va_F (va_A w s.heap.size) s t) (hW1 : (w1 ++ wr).Perm W1) : va_P g.1 vwCl W1 t.heap ∧ va_D (va_A W s.heap.size) W1 ∧ va_F (va_A W s.heap.size) s t ∧ ∀ q, va_A w s.heap.size q → va_A W s.heap.size q := by
  have hAW : ∀ q, va_A w s.heap.size q → va_A W s.heap.size q := by
    intro q hq
    rw [va_A_iff] at hq ⊢
    rcases hq with ⟨x, hx, e⟩ | hq
    · exact Or.inl ⟨x, hW.mem_iff.mp (List.mem_append_left _ hx), e⟩
    · exact Or.inr hq
  rw [va_P_iff] at hP hP1
  rw [va_D_iff] at hD hD1
  have hnd : ((w ++ wr).map (fun x => x.1)).Nodup := (hW.map _).nodup_iff.mpr hD.1
  rw [List.map_append, List.nodup_append] at hnd
  have hout : ∀ x ∈ wr, x.1 < s.heap.size ∧ ¬ va_A w s.heap.size x.1 := by
    intro x hx
    have hlt := (hP x (hW.mem_iff.mp (List.mem_append_right _ hx))).lt
    refine ⟨hlt, fun h => ?_⟩
    rw [va_A_iff] at h
    rcases h with ⟨y, hy, e⟩ | h
    · exact hnd.2.2 y.1 (List.mem_map.mpr ⟨y, hy, rfl⟩) x.1 (List.mem_map.mpr ⟨x, hx, rfl⟩) e
    · omega
  refine ⟨?_, ?_, ⟨hF.1, fun q h1 h2 => hF.2 q h1 (fun h => h2 (hAW q h))⟩, hAW⟩
  · rw [va_P_iff]
    intro x hx
    rcases List.mem_append.mp (hW1.mem_iff.mpr hx) with h | h
    · exact hP1 x h
    · obtain ⟨a1, a2⟩ := hout x h
      exact (hP x (hW.mem_iff.mp (List.mem_append_right _ h))).kept (hF.2 x.1 a1 a2)
  · rw [va_D_iff]
    refine ⟨?_, fun x hx => ?_⟩
    · refine (hW1.map _).nodup_iff.mp ?_
      rw [List.map_append, List.nodup_append]
      refine ⟨hD1.1, hnd.2.1, fun a ha b hb e => ?_⟩
      obtain ⟨x, hx, rfl⟩ := List.mem_map.mp ha
      obtain ⟨y, hy, rfl⟩ := List.mem_map.mp hb
      exact (hout y hy).2 (e ▸ hD1.2 x hx)
    · rcases List.mem_append.mp (hW1.mem_iff.mpr hx) with h | h
      · exact hAW _ (hD1.2 x h)
      · rw [va_A_iff]
        exact Or.inl ⟨x, hW.mem_iff.mp (List.mem_append_right _ h), rfl⟩
/-- a contract, over a larger world in another order -/
theorem ct_x {l : Launch} {g : Gh} {y : MethodName} {hd : Cond} {d rc rs : Nat} {args : List Value} {w : va_W} {post post' : Pst} {px px' : Pxc} (c : Ct l g y hd d rc rs args w post px) (wr : va_W) {W : va_W} (hW : (w ++ wr).Perm W) (hp : ∀ v w1 k n, post v w1 k n → ∃ W1, (w1 ++ wr).Perm W1 ∧ post' v W1 k n) (hx : ∀ E w1 k n, px E w1 k n → ∃ W1, (w1 ++ wr).Perm W1 ∧ px' E W1 k n) : Ct l g y hd d rc rs args W post' px' := by
  intro hst sz p e h1 h2 h3 s m a below h4 h5 h6 h7
  obtain ⟨q1, q2, q3, q4, q5, q6⟩ := h6
  subst q2
  have hAW : ∀ q, va_A w s.heap.size q → va_A W s.heap.size q := by
    intro q hq
    rw [va_A_iff] at hq ⊢
    rcases hq with ⟨x, hx, e⟩ | hq
    · exact Or.inl ⟨x, hW.mem_iff.mp (List.mem_append_left _ hx), e⟩
    · exact Or.inr hq
  have hPw : va_P g.1 vwCl w s.heap := by
    rw [va_P_iff] at q3 ⊢
    exact fun x hx => q3 x (hW.mem_iff.mp (List.mem_append_left _ hx))
  have hDw : va_D (fun _ => True) w := by
    rw [va_D_iff] at q5 ⊢
    have hnd : ((w ++ wr).map (fun x => x.1)).Nodup := (hW.map _).nodup_iff.mpr q5.1
    rw [List.map_append, List.nodup_append] at hnd
    exact ⟨hnd.1, fun _ _ => trivial⟩
  obtain ⟨n, o, r1, r2, r3, k, n9, hq⟩ := c hst s.heap.size p e h1 h2 h3 s m a below h4 h5 ⟨q1, rfl, hPw, q4, hDw, q6.narrow hAW⟩ trivial
  refine ⟨n, o, r1, r2, r3, k, n9, ?_⟩
  rcases hq with ⟨⟨v, ws, hv, hpo, hP1, hD1, hF1⟩, L, hfe, hL⟩ | ⟨q, ho, E, ce, L, ⟨ws, hxx, hP1, hD1, hF1⟩, hce, hcv, hcl, hW2, hsm, hL⟩
  · obtain ⟨W1, hW1, hpo'⟩ := hp v ws k n9 hpo
    obtain ⟨j1, j2, j3, j4⟩ := fr_join hW q3 q5 hP1 hD1 hF1 hW1
    exact Or.inl ⟨⟨v, W1, hv, hpo', j1, j2, j3⟩, L, hfe, fun z hz => j4 _ (hL z hz)⟩
  · obtain ⟨W1, hW1, hx'⟩ := hx E ws k n9 hxx
    obtain ⟨j1, j2, j3, j4⟩ := fr_join hW q3 q5 hP1 hD1 hF1 hW1
    exact Or.inr ⟨q, ho, E, ce, L, ⟨W1, hx', j1, j2, j3⟩, hce, hcv, hcl, hW2, hsm, fun z hz => j4 _ (hL z hz)⟩

