/-! ===== Odds: entries of a score ===== -/
def rs567 (r : Nat → Nat) (a b c : Nat) : Nat → Nat := fun k => if k = 5 then a else if k = 6 then b else if k = 7 then c else r k
theorem EnR.congr {ch Nr : Nat} {pf pf' : Sc} : ∀ (E : List (Nat × Sc)) (j : Nat), (∀ p, j ≤ p → p < j + E.length * (1 + ch) → pf' p = pf p) → EnR ch Nr pf E j → EnR ch Nr pf' E j
  | [], _, _, _ => trivial
  | e :: E, j, h, ⟨h1, h2, h3, h4⟩ => by
    have hl : (e :: E).length * (1 + ch) = E.length * (1 + ch) + (1 + ch) := by rw [List.length_cons, Nat.add_mul, Nat.one_mul]
    refine ⟨(h j (by omega) (by omega)).trans h1, h2, fun c hc => (h _ (by omega) (by omega)).trans (h3 c hc), EnR.congr E _ (fun p hp hp2 => h p (by omega) (by omega)) h4⟩
theorem EnR.app {ch Nr : Nat} {pf : Sc} {e : Nat × Sc} : ∀ (E : List (Nat × Sc)) (j : Nat), EnR ch Nr pf E j → EnR ch Nr pf [e] (j + E.length * (1 + ch)) → EnR ch Nr pf (E ++ [e]) j
  | [], j, _, h => by
    have : j + ([] : List (Nat × Sc)).length * (1 + ch) = j := by rw [List.length_nil, Nat.zero_mul, Nat.add_zero]
    rw [this] at h
    exact h
  | d :: E, j, ⟨h1, h2, h3, h4⟩, h => by
    refine ⟨h1, h2, h3, EnR.app E _ h4 ?_⟩
    have hl : (d :: E).length * (1 + ch) = E.length * (1 + ch) + (1 + ch) := by rw [List.length_cons, Nat.add_mul, Nat.one_mul]
    rw [show j + (1 + ch) + E.length * (1 + ch) = j + (d :: E).length * (1 + ch) by omega]
    exact h
/-- the score behind an outcome -/
def bhS (sf li : Sc) (o : Nat) : Sc := if sf 6 = 0 then sStrike sf li (iMin (nI o) 2) (nI o - 2) else sPlayOff sf (nI o)
/-- outcomes that may come, of the first n -/
def osL (w : Sc) (ch n : Nat) : List Nat := (List.range n).filter (fun o => mcV w o ch 0 = 1)
theorem osL_s (w : Sc) (ch n : Nat) : osL w ch (n + 1) = if mcV w n ch 0 = 1 then osL w ch n ++ [n] else osL w ch n := by
  unfold osL
  rw [List.range_succ, List.filter_append]
  by_cases h : mcV w n ch 0 = 1
  · rw [if_pos h]; simp [h]
  · rw [if_neg h]; simp [h]
theorem osL_len (w : Sc) (ch n : Nat) : (osL w ch n).length ≤ n := by
  have := List.length_filter_le (fun o => decide (mcV w o ch 0 = 1)) (List.range n)
  rw [List.length_range] at this
  exact this
def enE (K : List Int32) (sf li w : Sc) (o : Nat) : Nat × Sc := (plc K (tgt sf (bhS sf li o)), fun c => w (o * 4 + c))
/-- what it leads to is among the places -/
def tIn (K : List Int32) : Nat ⊕ Int32 → Prop
  | .inl w => w < 4
  | .inr k => k ∈ K
def enT (K : List Int32) (sf li : Sc) (os : List Nat) : Prop := ∀ o ∈ os, tIn K (tgt sf (bhS sf li o))
theorem plc_app {K L : List Int32} {t : Nat ⊕ Int32} (h : tIn K t) : plc (K ++ L) t = plc K t := by
  cases t with
  | inl w => rfl
  | inr k =>
    have h : k ∈ K := h
    show 4 + (K ++ L).idxOf k = 4 + K.idxOf k
    rw [List.idxOf_append, if_pos h]
theorem tIn_app {K L : List Int32} {t : Nat ⊕ Int32} (h : tIn K t) : tIn (K ++ L) t := by
  cases t with
  | inl w => exact h
  | inr k => exact List.mem_append_left L h
theorem tgK_ext (K : List Int32) (t : Nat ⊕ Int32) : ∃ L, tgK K t = K ++ L := by
  cases t with
  | inl w => exact ⟨[], (List.append_nil K).symm⟩
  | inr k =>
    by_cases h : k ∈ K
    · exact ⟨[], by show kPut K k = _; unfold kPut; rw [if_pos h, List.append_nil]⟩
    · exact ⟨[k], by show kPut K k = _; unfold kPut; rw [if_neg h]⟩
theorem tgK_in {K : List Int32} {t : Nat ⊕ Int32} (h : ∀ w, t = .inl w → w < 4) : tIn (tgK K t) t := by
  cases t with
  | inl w => exact h w rfl
  | inr k =>
    show k ∈ kPut K k
    unfold kPut
    by_cases h : k ∈ K
    · rw [if_pos h]; exact h
    · rw [if_neg h]; exact List.mem_append_right K (List.mem_singleton.mpr rfl)
theorem tgK_plc (K : List Int32) (t : Nat ⊕ Int32) : plc (tgK K t) t = plc K t := by
  cases t with
  | inl w => rfl
  | inr k =>
    show 4 + (kPut K k).idxOf k = 4 + K.idxOf k
    unfold kPut
    by_cases h : k ∈ K
    · rw [if_pos h]
    · rw [if_neg h, List.idxOf_append, if_neg h, List.idxOf_cons_self, List.idxOf_eq_length h, Nat.zero_add]
theorem plc_lt {K : List Int32} {t : Nat ⊕ Int32} (h : tIn K t) : plc K t < 4 + K.length := by
  cases t with
  | inl w =>
    have h : w < 4 := h
    show w < 4 + K.length
    omega
  | inr k =>
    have h : k ∈ K := h
    have := List.idxOf_lt_length_of_mem h
    show 4 + K.idxOf k < 4 + K.length
    omega
/-- the entries of a score, with its places -/
def EnK (ch : Nat) (K : List Int32) (pf sf li w : Sc) (os : List Nat) (j : Nat) : Prop := EnR ch (4 + K.length) pf (os.map (enE K sf li w)) j ∧ enT K sf li os
theorem EnK.ext {ch j : Nat} {K L : List Int32} {pf sf li w : Sc} {os : List Nat} (h : EnK ch K pf sf li w os j) : EnK ch (K ++ L) pf sf li w os j := by
  refine ⟨?_, fun o ho => tIn_app (h.2 o ho)⟩
  have e : os.map (enE (K ++ L) sf li w) = os.map (enE K sf li w) := List.map_congr_left fun o ho => by
    unfold enE
    rw [plc_app (h.2 o ho)]
  rw [e]
  exact EnR.mono (by rw [List.length_append]; omega) _ _ h.1
theorem EnK.congr {ch j : Nat} {K : List Int32} {pf pf' sf li w : Sc} {os : List Nat} (hp : ∀ p, p < j + os.length * (1 + ch) → pf' p = pf p) (h : EnK ch K pf sf li w os j) : EnK ch K pf' sf li w os j := ⟨EnR.congr _ _ (fun p _ h2 => hp p (by rw [List.length_map] at h2; exact h2)) h.1, h.2⟩
theorem EnK.add {ch j o : Nat} {K : List Int32} {pf pf' sf li w : Sc} {os : List Nat} (h : EnK ch K pf sf li w os j) (ht : tIn K (tgt sf (bhS sf li o))) (hx : RoX (j + os.length * (1 + ch)) ch o (plc K (tgt sf (bhS sf li o))) w pf pf') : EnK ch K pf' sf li w (os ++ [o]) j := by
  have h2 := EnK.congr hx.1 h
  refine ⟨?_, fun o' ho' => ?_⟩
  · rw [List.map_append]
    refine EnR.app _ _ h2.1 ?_
    rw [List.length_map]
    exact ⟨hx.2.1, plc_lt ht, hx.2.2, trivial⟩
  · rcases List.mem_append.mp ho' with h3 | h3
    · exact h.2 o' h3
    · rw [List.mem_singleton.mp h3]; exact ht
/-- the pool's room -/
def PoO (Np : Nat) : Prop := Np ≤ 1048576 ∧ ∃ m, Np = 128 * 2 ^ m
theorem po_f {Np u : Nat} (h : PoO Np) (hu : u ≤ 929280) : 128 * poC Np u + Np ≤ (if Np < u then Np * 2 else Np) ∧ poS Np u + 2 * Np = 2 * (if Np < u then Np * 2 else Np) ∧ PoO (if Np < u then Np * 2 else Np) := by
  obtain ⟨h1, m, h2⟩ := h
  have h3 : 1 ≤ 2 ^ m := Nat.one_le_two_pow
  unfold poC poS
  by_cases hg : Np < u
  · rw [if_pos hg, if_pos hg, if_pos hg]
    refine ⟨by omega, by omega, ?_, m + 1, by rw [Nat.pow_succ]; omega⟩
    rcases Nat.lt_or_ge m 13 with h10 | h10
    · have h9 : 2 ^ m ≤ 2 ^ 12 := Nat.pow_le_pow_right (by decide) (by omega)
      omega
    · have h9 : 2 ^ 13 ≤ 2 ^ m := Nat.pow_le_pow_right (by decide) h10
      omega
  · rw [if_neg hg, if_neg hg, if_neg hg]
    exact ⟨by omega, by omega, h1, m, h2⟩

