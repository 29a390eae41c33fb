/-! ===== lists of keys and values ===== -/
abbrev kys {κ ν : Type} (E : List (κ × ν)) : List κ := E.map (fun e => e.1)
theorem nodup_of_keys {κ ν : Type} : ∀ {E : List (κ × ν)}, (kys E).Nodup → E.Nodup
  | [], _ => List.nodup_nil
  | x :: E, h => by
    simp only [kys, List.map_cons, List.nodup_cons] at h
    exact List.nodup_cons.mpr ⟨fun z => h.1 (List.mem_map.mpr ⟨x, z, rfl⟩), nodup_of_keys h.2⟩
/-- weights -/
def wtS {κ ν : Type} (w : κ → Nat) : List (κ × ν) → Nat
  | [] => 0
  | x :: E => w x.1 + wtS w E
theorem wt_app {κ ν : Type} {w : κ → Nat} : ∀ (P Q : List (κ × ν)), wtS w (P ++ Q) = wtS w P + wtS w Q
  | [], Q => by rw [List.nil_append, wtS]; omega
  | x :: P, Q => by rw [List.cons_append, wtS, wtS, wt_app P Q]; omega
theorem wt_len {κ ν : Type} {w : κ → Nat} (h : ∀ k, 1 ≤ w k) : ∀ E : List (κ × ν), E.length ≤ wtS w E
  | [] => by simp
  | x :: E => by
    rw [wtS, List.length_cons]
    have := wt_len h E
    have := h x.1
    omega
/-- a value is joined to its key's, or put behind -/
def ins {κ ν : Type} [DecidableEq κ] (op : ν → ν → ν) : List (κ × ν) → κ × ν → List (κ × ν)
  | [], q => [q]
  | x :: E, q => if x.1 = q.1 then (x.1, op x.2 q.2) :: E else x :: ins op E q
def lk {κ ν : Type} [DecidableEq κ] : List (κ × ν) → κ → Option ν
  | [], _ => none
  | x :: E, k => if x.1 = k then some x.2 else lk E k
def opO {ν : Type} (op : ν → ν → ν) (o : Option ν) (v : ν) : Option ν := match o with
  | none => some v
  | some w => some (op w v)
theorem lk_ins {κ ν : Type} [DecidableEq κ] (op : ν → ν → ν) (q : κ × ν) (k : κ) : ∀ E : List (κ × ν), lk (ins op E q) k = if q.1 = k then opO op (lk E k) q.2 else lk E k
  | [] => rfl
  | x :: E => by
    rw [ins]
    by_cases h : x.1 = q.1
    · rw [if_pos h, lk, lk]
      by_cases h2 : q.1 = k
      · rw [if_pos (h.trans h2), if_pos h2, if_pos (h.trans h2)]; rfl
      · rw [if_neg (fun z => h2 (h.symm.trans z)), if_neg h2, if_neg (fun z => h2 (h.symm.trans z))]
    · rw [if_neg h, lk, lk, lk_ins op q k E]
      by_cases h2 : q.1 = k
      · rw [if_neg (fun z => h (z.trans h2.symm)), if_pos h2, if_pos h2, if_neg (fun z => h (z.trans h2.symm))]
      · rw [if_neg h2, if_neg h2]
theorem lk_none {κ ν : Type} [DecidableEq κ] {k : κ} : ∀ {E : List (κ × ν)}, lk E k = none ↔ ¬ k ∈ kys E
  | [] => by simp [lk]
  | x :: E => by
    rw [lk]
    by_cases h : x.1 = k
    · rw [if_pos h]; simp [h]
    · rw [if_neg h, lk_none (E := E)]
      simp only [kys, List.map_cons, List.mem_cons, not_or]
      exact ⟨fun z => ⟨fun y => h y.symm, z⟩, fun z => z.2⟩
theorem ins_keys {κ ν : Type} [DecidableEq κ] (op : ν → ν → ν) (q : κ × ν) : ∀ E : List (κ × ν), kys (ins op E q) = if q.1 ∈ kys E then kys E else kys E ++ [q.1]
  | [] => rfl
  | x :: E => by
    rw [ins]
    by_cases h : x.1 = q.1
    · rw [if_pos h, if_pos (by simp [h])]; rfl
    · rw [if_neg h]
      show x.1 :: kys (ins op E q) = _
      rw [ins_keys op q E]
      by_cases h2 : q.1 ∈ kys E
      · rw [if_pos h2, if_pos (by simp only [kys, List.map_cons, List.mem_cons]; exact Or.inr h2)]; rfl
      · rw [if_neg h2, if_neg (by simp only [kys, List.map_cons, List.mem_cons, not_or]; exact ⟨fun z => h z.symm, h2⟩)]; rfl
theorem ins_nodup {κ ν : Type} [DecidableEq κ] {op : ν → ν → ν} {q : κ × ν} {E : List (κ × ν)} (h : (kys E).Nodup) : (kys (ins op E q)).Nodup := by
  rw [ins_keys]
  by_cases h2 : q.1 ∈ kys E
  · rw [if_pos h2]; exact h
  · rw [if_neg h2, List.nodup_append]
    exact ⟨h, by simp, fun a ha b hb z => by rw [List.mem_singleton] at hb; exact h2 (hb ▸ z ▸ ha)⟩
theorem fold_nodup {κ ν : Type} [DecidableEq κ] {op : ν → ν → ν} : ∀ (P : List (κ × ν)) {E : List (κ × ν)}, (kys E).Nodup → (kys (P.foldl (ins op) E)).Nodup
  | [], _, h => h
  | _ :: P, _, h => fold_nodup P (ins_nodup h)
theorem mem_lk {κ ν : Type} [DecidableEq κ] {x : κ × ν} : ∀ {E : List (κ × ν)}, (kys E).Nodup → (x ∈ E ↔ lk E x.1 = some x.2)
  | [], _ => by simp [lk]
  | y :: E, h => by
    simp only [kys, List.map_cons, List.nodup_cons] at h
    rw [lk, List.mem_cons, mem_lk h.2]
    by_cases h2 : y.1 = x.1
    · rw [if_pos h2]
      constructor
      · rintro (z | z)
        · rw [z]
        · have : ¬ lk E x.1 = none := by rw [z]; exact fun y => by cases y
          exact absurd (lk_none.mpr (h2 ▸ h.1)) this
      · intro z
        exact Or.inl (Prod.ext h2.symm (Option.some.inj z).symm)
    · rw [if_neg h2]
      exact ⟨fun z => z.resolve_left (fun y => h2 (by rw [y])), Or.inr⟩
theorem perm_of_lk {κ ν : Type} [DecidableEq κ] {E F : List (κ × ν)} (hE : (kys E).Nodup) (hF : (kys F).Nodup) (h : ∀ k, lk E k = lk F k) : E.Perm F := by
  rw [List.perm_ext_iff_of_nodup (nodup_of_keys hE) (nodup_of_keys hF)]
  intro x
  rw [mem_lk hE, mem_lk hF, h]
theorem lk_fold {κ ν : Type} [DecidableEq κ] (op : ν → ν → ν) : ∀ (P : List (κ × ν)) (E : List (κ × ν)), lk (P.foldl (ins op) E) = P.foldl (fun F q => fun k => if q.1 = k then opO op (F k) q.2 else F k) (lk E)
  | [], _ => rfl
  | q :: P, E => by
    rw [List.foldl_cons, List.foldl_cons, lk_fold op P]
    congr 1
    funext k
    exact lk_ins op q k E
/-- the order does not matter -/
theorem fold_perm {κ ν : Type} [DecidableEq κ] {op : ν → ν → ν} (hc : ∀ a b, op a b = op b a) (ha : ∀ a b c, op (op a b) c = op (op a c) b) {P Q : List (κ × ν)} (h : P.Perm Q) : (P.foldl (ins op) []).Perm (Q.foldl (ins op) []) := by
  refine perm_of_lk (fold_nodup P List.nodup_nil) (fold_nodup Q List.nodup_nil) (fun k => ?_)
  rw [lk_fold, lk_fold]
  refine congrFun (List.Perm.foldl_eq' h (fun x _ y _ z => ?_) _) k
  funext k
  by_cases h1 : x.1 = k
  · by_cases h2 : y.1 = k
    · simp only [if_pos h1, if_pos h2]
      cases z k with
      | none => show some (op x.2 y.2) = some (op y.2 x.2); rw [hc]
      | some w => show some (op (op w x.2) y.2) = some (op (op w y.2) x.2); rw [ha]
    · simp only [if_pos h1, if_neg h2]
  · by_cases h2 : y.1 = k
    · simp only [if_neg h1, if_pos h2]
    · simp only [if_neg h1, if_neg h2]
theorem ins_mem {κ ν : Type} [DecidableEq κ] {op : ν → ν → ν} {q x : κ × ν} : ∀ {E : List (κ × ν)}, x ∈ ins op E q → x ∈ E ∨ x = q ∨ ∃ y ∈ E, y.1 = q.1 ∧ x = (y.1, op y.2 q.2)
  | [], h => Or.inr (Or.inl (by rw [ins] at h; exact List.mem_singleton.mp h))
  | y :: E, h => by
    rw [ins] at h
    by_cases h1 : y.1 = q.1
    · rw [if_pos h1] at h
      rcases List.mem_cons.mp h with h | h
      · exact Or.inr (Or.inr ⟨y, by simp, h1, h⟩)
      · exact Or.inl (by simp [h])
    · rw [if_neg h1] at h
      rcases List.mem_cons.mp h with h | h
      · exact Or.inl (by simp [h])
      · rcases ins_mem h with h | h | ⟨z, h2, h3⟩
        · exact Or.inl (by simp [h])
        · exact Or.inr (Or.inl h)
        · exact Or.inr (Or.inr ⟨z, by simp [h2], h3⟩)
/-- what holds of all entries -/
theorem fold_all {κ ν : Type} [DecidableEq κ] {op : ν → ν → ν} {A : κ → ν → Prop} (hop : ∀ k a b, A k a → A k b → A k (op a b)) : ∀ (P : List (κ × ν)) {E : List (κ × ν)}, (∀ x ∈ E, A x.1 x.2) → (∀ x ∈ P, A x.1 x.2) → ∀ x ∈ P.foldl (ins op) E, A x.1 x.2
  | [], _, h, _ => h
  | q :: P, E, h, hP => by
    refine fold_all hop P (fun x hx => ?_) (fun x hx => hP x (by simp [hx]))
    have hq := hP q (by simp)
    rcases ins_mem hx with h1 | h1 | ⟨y, h1, h2, h3⟩
    · exact h x h1
    · rw [h1]; exact hq
    · rw [h3]; exact hop _ _ _ (h y h1) (h2 ▸ hq)
theorem wt_ins {κ ν : Type} [DecidableEq κ] {op : ν → ν → ν} {w : κ → Nat} {q : κ × ν} : ∀ E : List (κ × ν), wtS w (ins op E q) ≤ wtS w E + w q.1
  | [] => by rw [ins, wtS]; exact Nat.le_of_eq (Nat.add_comm _ _)
  | x :: E => by
    rw [ins]
    by_cases h : x.1 = q.1
    · rw [if_pos h, wtS, wtS]; dsimp only; omega
    · rw [if_neg h, wtS, wtS]
      have := wt_ins (op := op) (w := w) (q := q) E
      omega
theorem wt_fold {κ ν : Type} [DecidableEq κ] {op : ν → ν → ν} {w : κ → Nat} : ∀ (P E : List (κ × ν)), wtS w (P.foldl (ins op) E) ≤ wtS w E + wtS w P
  | [], E => by rw [List.foldl_nil, wtS]; omega
  | q :: P, E => by
    rw [List.foldl_cons, wtS]
    have h1 := wt_fold (op := op) (w := w) P (ins op E q)
    have h2 := wt_ins (op := op) (w := w) (q := q) E
    omega
/-- both sides told by a map of keys and values -/
theorem ins_map {κ ν κ' ν' : Type} [DecidableEq κ] [DecidableEq κ'] {op : ν → ν → ν} {op' : ν' → ν' → ν'} {kf : κ → κ'} {h : ν → ν'} {q : κ × ν} : ∀ {E : List (κ × ν)}, (∀ x ∈ E, kf x.1 = kf q.1 → x.1 = q.1) → (∀ x ∈ E, h (op x.2 q.2) = op' (h x.2) (h q.2)) → (ins op E q).map (fun x => (kf x.1, h x.2)) = ins op' (E.map (fun x => (kf x.1, h x.2))) (kf q.1, h q.2)
  | [], _, _ => rfl
  | x :: E, h1, h2 => by
    rw [ins, List.map_cons, ins]
    by_cases hx : x.1 = q.1
    · rw [if_pos hx, if_pos (congrArg kf hx), List.map_cons, h2 x (by simp)]
    · rw [if_neg hx, if_neg (fun z => hx (h1 x (by simp) z)), List.map_cons, ins_map (fun y hy => h1 y (by simp [hy])) (fun y hy => h2 y (by simp [hy]))]
theorem fold_map {κ ν κ' ν' : Type} [DecidableEq κ] [DecidableEq κ'] {op : ν → ν → ν} {op' : ν' → ν' → ν'} {kf : κ → κ'} {h : ν → ν'} {A : κ → ν → Prop} (hop : ∀ k a b, A k a → A k b → A k (op a b)) (hk : ∀ j k a b, A j a → A k b → kf j = kf k → j = k) (hh : ∀ j k a b, A j a → A k b → h (op a b) = op' (h a) (h b)) : ∀ (P : List (κ × ν)) {E : List (κ × ν)}, (∀ x ∈ E, A x.1 x.2) → (∀ x ∈ P, A x.1 x.2) → (P.foldl (ins op) E).map (fun x => (kf x.1, h x.2)) = (P.map (fun x => (kf x.1, h x.2))).foldl (ins op') (E.map (fun x => (kf x.1, h x.2)))
  | [], _, _, _ => rfl
  | q :: P, E, hE, hP => by
    have hq := hP q (by simp)
    rw [List.foldl_cons, List.map_cons, List.foldl_cons]
    rw [fold_map hop hk hh P (E := ins op E q) (fun x hx => ?_) (fun x hx => hP x (by simp [hx]))]
    · rw [ins_map (op' := op') (fun x hx z => hk _ _ _ _ (hE x hx) hq z) (fun x hx => hh _ _ _ _ (hE x hx) hq)]
    · rcases ins_mem hx with h1 | h1 | ⟨y, h1, h2, h3⟩
      · exact hE x h1
      · rw [h1]; exact hq
      · rw [h3]; exact hop _ _ _ (hE y h1) (h2 ▸ hq)
theorem nodup_sub {α : Type} [DecidableEq α] : ∀ {L M : List α}, L.Nodup → (∀ x ∈ L, x ∈ M) → L.length ≤ M.length
  | [], M, _, _ => by simp
  | x :: L, M, h, hs => by
    rw [List.nodup_cons] at h
    have hx := hs x (by simp)
    have := nodup_sub (L := L) (M := M.erase x) h.2 (fun y hy => by
      have hne : ¬ y = x := fun z => h.1 (z ▸ hy)
      exact (List.mem_erase_of_ne hne).mpr (hs y (by simp [hy])))
    rw [List.length_erase_of_mem hx] at this
    have := List.length_pos_of_mem hx
    rw [List.length_cons]
    omega

