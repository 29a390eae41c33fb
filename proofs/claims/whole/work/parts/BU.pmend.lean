/-! ===== mends: both as lists of keys and values ===== -/
def J (n : Nat) : Int64 := Int64.ofNat n
theorem J_add (a b : Nat) : J a + J b = J (a + b) := (Int64.ofNat_add a b).symm
/-- the least cost and its ways -/
def meOp (a b : Int32 × Int64) : Int32 × Int64 := if b.1 < a.1 then b else if b.1 = a.1 then (a.1, a.2 + b.2) else a
theorem i32_tri (a b : Int32) : a < b ∨ a = b ∨ b < a := by
  rcases Int32.lt_or_le a b with h | h
  · exact Or.inl h
  · rcases Int32.lt_or_eq_of_le h with h | h
    · exact Or.inr (Or.inr h)
    · exact Or.inr (Or.inl h.symm)
theorem i32_asy {a b : Int32} (h : a < b) : ¬ b < a ∧ ¬ b = a ∧ ¬ a = b := ⟨Int32.lt_asymm h, fun z => Int32.lt_irrefl (z ▸ h), fun z => Int32.lt_irrefl (z ▸ h)⟩
theorem meOp_lt {a b : Int32 × Int64} (h : a.1 < b.1) : meOp a b = a ∧ meOp b a = a := by
  obtain ⟨h1, h2, h3⟩ := i32_asy h
  unfold meOp
  rw [if_neg h1, if_neg h2, if_pos h]
  exact ⟨rfl, rfl⟩
theorem meOp_eq {a b : Int32 × Int64} (h : a.1 = b.1) : meOp a b = (a.1, a.2 + b.2) := by
  unfold meOp
  rw [if_neg (by rw [h]; exact Int32.lt_irrefl), if_pos h.symm]
theorem meOp_comm (a b : Int32 × Int64) : meOp a b = meOp b a := by
  rcases i32_tri a.1 b.1 with h | h | h
  · rw [(meOp_lt h).1, (meOp_lt h).2]
  · rw [meOp_eq h, meOp_eq h.symm, h, Int64.add_comm]
  · rw [(meOp_lt h).1, (meOp_lt h).2]
theorem meOp_asc (a b c : Int32 × Int64) : meOp (meOp a b) c = meOp (meOp a c) b := by
  rcases i32_tri a.1 b.1 with h | h | h
  · rw [(meOp_lt h).1]
    rcases i32_tri a.1 c.1 with g | g | g
    · rw [(meOp_lt g).1, (meOp_lt h).1]
    · rw [meOp_eq g]; exact (meOp_lt (a := (a.1, a.2 + c.2)) h).1.symm
    · rw [(meOp_lt g).2, (meOp_lt (Int32.lt_trans g h)).1]
  · rw [meOp_eq h]
    rcases i32_tri a.1 c.1 with g | g | g
    · rw [(meOp_lt g).1, (meOp_lt (a := (a.1, a.2 + b.2)) g).1, meOp_eq h]
    · rw [meOp_eq g, meOp_eq (a := (a.1, a.2 + b.2)) g, meOp_eq (a := (a.1, a.2 + c.2)) h]
      dsimp only
      rw [Int64.add_assoc, Int64.add_assoc, Int64.add_comm b.2]
    · rw [(meOp_lt g).2, (meOp_lt (b := (a.1, a.2 + b.2)) g).2, (meOp_lt (h ▸ g)).1]
  · rw [(meOp_lt h).2]
    rcases i32_tri a.1 c.1 with g | g | g
    · rw [(meOp_lt g).1, (meOp_lt h).2, (meOp_lt (Int32.lt_trans h g)).1]
    · rw [meOp_eq g, (meOp_lt (b := (a.1, a.2 + c.2)) h).2, (meOp_lt (g ▸ h)).1]
    · rw [(meOp_lt g).2, meOp_comm]
theorem meR_ins (key co : Int32) (wy : Int64) : ∀ E : ME, meR E key co wy = ins meOp E (key, co, wy)
  | [] => by unfold meR; rw [if_neg (by simp)]; rfl
  | x :: E => by
    have ih := meR_ins key co wy E
    unfold meR at ih ⊢
    rw [ins]
    by_cases h : x.1 = key
    · rw [if_pos (by simp [h]), if_pos h]
      have e1 : (kyE (x :: E)).idxOf key = 0 := by simp [List.idxOf_cons, h]
      rw [e1]
      show meU x co wy :: E = _
      congr 1
      unfold meU meOp
      dsimp only
      by_cases h1 : co < x.2.1
      · rw [if_pos h1, if_pos h1]
      · rw [if_neg h1, if_neg h1]
        by_cases h2 : co = x.2.1
        · rw [if_pos h2, if_pos h2]
        · rw [if_neg h2, if_neg h2]
    · rw [if_neg h]
      have e1 : (kyE (x :: E)).idxOf key = (kyE E).idxOf key + 1 := by
        have hb : (x.1 == key) = false := by simp [h]
        simp [List.idxOf_cons, hb]
      by_cases h2 : key ∈ kyE E
      · rw [if_pos h2] at ih
        rw [if_pos (by simp only [kyE, List.map_cons, List.mem_cons]; exact Or.inr h2), e1, ← ih]
        rfl
      · rw [if_neg h2] at ih
        rw [if_neg (by simp only [kyE, List.map_cons, List.mem_cons, not_or]; exact ⟨fun z => h z.symm, h2⟩), ← ih]
        rfl
def adJ (f g : Nat → Int64) : Nat → Int64 := fun i => f i + g i
theorem jn_ins (c : Nat) (f : Nat → Int64) (mo : Nat) : ∀ L : St, jn c f mo L = ins adJ L (c, sh f mo)
  | [] => by unfold jn; rw [ixC, if_neg (by simp)]; rfl
  | x :: L => by
    have ih := jn_ins c f mo L
    unfold jn at ih ⊢
    rw [ins, ixC]
    by_cases h : x.1 = c
    · rw [if_pos h, if_pos (by simp), if_pos h, ← h]
      rfl
    · rw [if_neg h, if_neg h, ← ih]
      by_cases h2 : ixC c L < L.length
      · rw [if_pos h2, if_pos (by rw [List.length_cons]; omega)]; rfl
      · rw [if_neg h2, if_neg (by rw [List.length_cons]; omega)]; rfl
/-- the scores behind a rally of the log, and the mistakes -/
def sucR (m : Sc) (how : Int32) (c : Nat) : List (Nat × Nat) :=
  if rOver m (UW m c) = 0 then (wC (rRal m (UW m c) how), 0) :: (if 2 ≤ how ∧ UW m c 6 = 1 then (([12, 13, 14] : List Int32).filter (fun o => ¬ o = as0 (UW m c) how)).map (fun o => (wC (rRal m (UW m c) o), 1)) else []) else []
theorem mdJ_ins (m : Sc) (how : Int32) (A : St) (e : Nat × (Nat → Int64)) : mdJ m how A e = ((sucR m how e.1).map (fun t => (t.1, sh e.2 t.2))).foldl (ins adJ) A := by
  unfold mdJ sucR
  by_cases ho : rOver m (UW m e.1) = 0
  · rw [if_pos ho, if_pos ho]
    by_cases h2 : 2 ≤ how ∧ UW m e.1 6 = 1
    · rw [if_pos h2, if_pos h2]
      generalize as0 (UW m e.1) how = as
      have e1 : ∀ A o, mdO m (UW m e.1) e.2 as A (o + 1) = if nI (12 + o) = as then mdO m (UW m e.1) e.2 as A o else ins adJ (mdO m (UW m e.1) e.2 as A o) (wC (rRal m (UW m e.1) (nI (12 + o))), sh e.2 1) := by
        intro A o
        rw [mdO, jn_ins]
      rw [show (3 : Nat) = 2 + 1 from rfl, e1, show (2 : Nat) = 1 + 1 from rfl, e1, show mdO m (UW m e.1) e.2 as (jn (wC (rRal m (UW m e.1) how)) e.2 0 A) 1 = _ from e1 _ 0, jn_ins]
      have k12 : (nI (12 + 0) : Int32) = 12 := by decide
      have k13 : (nI (12 + 1) : Int32) = 13 := by decide
      have k14 : (nI (12 + (1 + 1)) : Int32) = 14 := by decide
      rw [k12, k13, k14, show mdO m (UW m e.1) e.2 as (ins adJ A (wC (rRal m (UW m e.1) how), sh e.2 0)) 0 = ins adJ A (wC (rRal m (UW m e.1) how), sh e.2 0) from rfl]
      by_cases a12 : (12 : Int32) = as
      · subst a12; rfl
      · by_cases a13 : (13 : Int32) = as
        · subst a13; rfl
        · by_cases a14 : (14 : Int32) = as
          · subst a14; rfl
          · rw [if_neg a12, if_neg a13, if_neg a14]
            have : ([12, 13, 14] : List Int32).filter (fun o => ¬ o = as) = [12, 13, 14] := by simp [a12, a13, a14]
            rw [this]
            rfl
    · rw [if_neg h2, if_neg h2, jn_ins]; rfl
  · rw [if_neg ho, if_neg ho]; rfl
theorem mdF_ins (m : Sc) (how : Int32) (L : St) : ∀ n, n ≤ L.length → mdF m how L n = ((L.take n).flatMap (fun e => (sucR m how e.1).map (fun t => (t.1, sh e.2 t.2)))).foldl (ins adJ) []
  | 0, _ => by rw [mdF]; rfl
  | n + 1, h => by
    rw [mdF, mdF_ins m how L n (by omega), mdJ_ins, List.take_succ_eq_append_getElem (by omega), List.flatMap_append, List.foldl_append]
    have : L.getD n d0 = L[n]'(by omega) := by simp [List.getD, List.getElem?_eq_getElem (show n < L.length by omega)]
    rw [this]
    simp
/-- the reference's lists, with natural numbers -/
abbrev StN : Type := List (Nat × (Nat → Nat))
def adN (f g : Nat → Nat) : Nat → Nat := fun i => f i + g i
def shN (f : Nat → Nat) (mo i : Nat) : Nat := if mo ≤ i then f (i - mo) else 0
def conN (m : Sc) (how : Int32) (e : Nat × (Nat → Nat)) : StN := (sucR m how e.1).map (fun t => (t.1, shN e.2 t.2))
def mdLN (m tp : Sc) : Nat → StN
  | 0 => [(wC (S m), fun i => if i = 0 then 1 else 0)]
  | k + 1 => ((mdLN m tp k).flatMap (conN m (hwF tp (2 * k)))).foldl (ins adN) []
def csJ (e : Nat × (Nat → Nat)) : Nat × (Nat → Int64) := (e.1, fun i => J (e.2 i))
theorem mdL_N (m tp : Sc) : ∀ k, mdL m tp k = (mdLN m tp k).map csJ
  | 0 => by
    rw [mdL, mdLN]
    show _ = [csJ _]
    unfold csJ
    congr 2
    funext i
    by_cases h : i = 0
    · simp [h, J]
    · simp [h, J]
  | k + 1 => by
    rw [mdL, mdF_ins _ _ _ _ (Nat.le_refl _), List.take_length, mdL_N m tp k, mdLN]
    have h := fold_map (κ' := Nat) (op := adN) (op' := adJ) (kf := fun c => c) (h := fun f : Nat → Nat => fun i => J (f i)) (A := fun _ _ => True) (fun _ _ _ _ _ => trivial) (fun _ _ _ _ _ _ z => z) (fun _ _ a b _ _ => by funext i; exact (J_add _ _).symm) ((mdLN m tp k).flatMap (conN m (hwF tp (2 * k)))) (E := []) (fun _ h => by simp at h) (fun _ _ => trivial)
    rw [show (fun x : Nat × (Nat → Nat) => (x.1, fun i => J (x.2 i))) = csJ from rfl] at h
    rw [h, List.map_nil, List.flatMap_map, List.map_flatMap]
    congr 1
    congr 1
    funext e
    unfold conN
    rw [List.map_map]
    congr 1
    funext t
    show (t.1, sh (fun i => J (e.2 i)) t.2) = (t.1, fun i => J (shN e.2 t.2 i))
    congr 1
    funext i
    unfold sh shN
    split <;> rfl

