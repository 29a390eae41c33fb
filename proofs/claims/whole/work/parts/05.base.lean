def dWords : List MethodName := [⟨"java/lang/RuntimeException", "<init>", "()V"⟩, ⟨"java/lang/RuntimeException", "<init>", "(Ljava/lang/String;)V"⟩, ⟨"java/lang/Exception", "<init>", "()V"⟩, ⟨"java/lang/Exception", "<init>", "(Ljava/lang/String;)V"⟩, ⟨"java/lang/Throwable", "<init>", "()V"⟩, ⟨"java/lang/Throwable", "<init>", "(Ljava/lang/String;)V"⟩]
def cWords : List (String × String) := [("java/lang/UnsupportedOperationException", "java/lang/IllegalArgumentException"), ("java/lang/IndexOutOfBoundsException", "java/lang/IllegalArgumentException"), ("java/util/NoSuchElementException", "java/lang/IllegalArgumentException"), ("java/lang/IllegalStateException", "java/lang/IllegalArgumentException"), ("java/lang/IllegalArgumentException", "java/lang/UnsupportedOperationException"), ("java/lang/IndexOutOfBoundsException", "java/lang/UnsupportedOperationException"), ("java/util/NoSuchElementException", "java/lang/UnsupportedOperationException"), ("java/lang/IllegalStateException", "java/lang/UnsupportedOperationException"), ("java/lang/IllegalArgumentException", "java/lang/IndexOutOfBoundsException"), ("java/lang/UnsupportedOperationException", "java/lang/IndexOutOfBoundsException"), ("java/util/NoSuchElementException", "java/lang/IndexOutOfBoundsException"), ("java/lang/IllegalStateException", "java/lang/IndexOutOfBoundsException"), ("java/lang/IllegalArgumentException", "java/util/NoSuchElementException"), ("java/lang/UnsupportedOperationException", "java/util/NoSuchElementException"), ("java/lang/IndexOutOfBoundsException", "java/util/NoSuchElementException"), ("java/lang/IllegalStateException", "java/util/NoSuchElementException"), ("java/lang/IllegalArgumentException", "java/lang/IllegalStateException"), ("java/lang/UnsupportedOperationException", "java/lang/IllegalStateException"), ("java/lang/IndexOutOfBoundsException", "java/lang/IllegalStateException"), ("java/util/NoSuchElementException", "java/lang/IllegalStateException")]
def sRefs : List (String × Nat × String) := [("ChaseCourt$Scanner", 64, "rally"), ("ChaseCourt$Scanner", 70, "won"), ("ChaseCourt$Scanner", 72, "lost"), ("ChaseCourt$Scanner", 74, "dead"), ("ChaseCourt$Scanner", 76, "games"), ("ChaseCourt$Scanner", 78, "club"), ("ChaseCourt$Scanner", 80, "even"), ("ChaseCourt$Scanner", 82, "style"), ("ChaseCourt$Scanner", 84, "if"), ("ChaseCourt$Scanner", 86, "or"), ("ChaseCourt$Scanner", 88, "and"), ("ChaseCourt$Scanner", 90, "not"), ("ChaseCourt$Scanner", 92, "serving"), ("ChaseCourt$Scanner", 94, "off"), ("ChaseCourt$Scanner", 96, "mine"), ("ChaseCourt$Scanner", 98, "his"), ("ChaseCourt$Scanner", 100, "line"), ("ChaseCourt$Scanner", 102, "chases"), ("ChaseCourt", 73, "the text of the court is wrong"), ("ChaseCourt", 83, "there are 12 texts of the court"), ("ChaseCourt", 96, "the text of the rule is wrong"), ("ChaseCourt", 107, "there are 6 rules"), ("ChaseCourt", 119, "there is no such style"), ("ChaseCourt", 331, "there is no such thing to tell"), ("ChaseCourt", 323, "there is no such player"), ("ChaseCourt", 133, "there is no such rule"), ("ChaseCourt", 145, "there are no such points"), ("ChaseCourt", 151, "games are 0 to 6"), ("ChaseCourt", 159, "a handicap is 0 to 3"), ("ChaseCourt", 325, "there is no such line"), ("ChaseCourt", 174, "a rally is won, lost or dead"), ("ChaseCourt", 336, "the set is over"), ("ChaseCourt", 327, "rallies are 0 to 30"), ("ChaseCourt", 248, "millionths are 0 to 500000"), ("ChaseCourt", 339, "it is no log"), ("ChaseCourt", 296, "rallies are 0 to 200"), ("ChaseCourtModel", 190, "style"), ("ChaseCourtModel", 192, "if"), ("ChaseCourtModel", 171, "not"), ("ChaseCourtModel", 157, "serving"), ("ChaseCourtModel", 163, "off"), ("ChaseCourtModel", 146, "mine"), ("ChaseCourtModel", 148, "his"), ("ChaseCourtModel", 150, "line"), ("ChaseCourtModel", 152, "chases"), ("ChaseCourtModel", 123, "games"), ("ChaseCourtModel", 183, "and"), ("ChaseCourtModel", 188, "or"), ("ChaseCourtModel", 107, "rally"), ("ChaseCourtModel", 117, "won"), ("ChaseCourtModel", 119, "lost"), ("ChaseCourtModel", 121, "dead"), ("ChaseCourtModel", 125, "club"), ("ChaseCourtModel", 127, "even")]
def sWords : List (String × Nat × List Int32) := [("ChaseCourt$Scanner", 64, [114, 97, 108, 108, 121]), ("ChaseCourt$Scanner", 70, [119, 111, 110]), ("ChaseCourt$Scanner", 72, [108, 111, 115, 116]), ("ChaseCourt$Scanner", 74, [100, 101, 97, 100]), ("ChaseCourt$Scanner", 76, [103, 97, 109, 101, 115]), ("ChaseCourt$Scanner", 78, [99, 108, 117, 98]), ("ChaseCourt$Scanner", 80, [101, 118, 101, 110]), ("ChaseCourt$Scanner", 82, [115, 116, 121, 108, 101]), ("ChaseCourt$Scanner", 84, [105, 102]), ("ChaseCourt$Scanner", 86, [111, 114]), ("ChaseCourt$Scanner", 88, [97, 110, 100]), ("ChaseCourt$Scanner", 90, [110, 111, 116]), ("ChaseCourt$Scanner", 92, [115, 101, 114, 118, 105, 110, 103]), ("ChaseCourt$Scanner", 94, [111, 102, 102]), ("ChaseCourt$Scanner", 96, [109, 105, 110, 101]), ("ChaseCourt$Scanner", 98, [104, 105, 115]), ("ChaseCourt$Scanner", 100, [108, 105, 110, 101]), ("ChaseCourt$Scanner", 102, [99, 104, 97, 115, 101, 115]), ("ChaseCourt", 73, [116, 104, 101, 32, 116, 101, 120, 116, 32, 111, 102, 32, 116, 104, 101, 32, 99, 111, 117, 114, 116, 32, 105, 115, 32, 119, 114, 111, 110, 103]), ("ChaseCourt", 83, [116, 104, 101, 114, 101, 32, 97, 114, 101, 32, 49, 50, 32, 116, 101, 120, 116, 115, 32, 111, 102, 32, 116, 104, 101, 32, 99, 111, 117, 114, 116]), ("ChaseCourt", 96, [116, 104, 101, 32, 116, 101, 120, 116, 32, 111, 102, 32, 116, 104, 101, 32, 114, 117, 108, 101, 32, 105, 115, 32, 119, 114, 111, 110, 103]), ("ChaseCourt", 107, [116, 104, 101, 114, 101, 32, 97, 114, 101, 32, 54, 32, 114, 117, 108, 101, 115]), ("ChaseCourt", 119, [116, 104, 101, 114, 101, 32, 105, 115, 32, 110, 111, 32, 115, 117, 99, 104, 32, 115, 116, 121, 108, 101]), ("ChaseCourt", 331, [116, 104, 101, 114, 101, 32, 105, 115, 32, 110, 111, 32, 115, 117, 99, 104, 32, 116, 104, 105, 110, 103, 32, 116, 111, 32, 116, 101, 108, 108]), ("ChaseCourt", 323, [116, 104, 101, 114, 101, 32, 105, 115, 32, 110, 111, 32, 115, 117, 99, 104, 32, 112, 108, 97, 121, 101, 114]), ("ChaseCourt", 133, [116, 104, 101, 114, 101, 32, 105, 115, 32, 110, 111, 32, 115, 117, 99, 104, 32, 114, 117, 108, 101]), ("ChaseCourt", 145, [116, 104, 101, 114, 101, 32, 97, 114, 101, 32, 110, 111, 32, 115, 117, 99, 104, 32, 112, 111, 105, 110, 116, 115]), ("ChaseCourt", 151, [103, 97, 109, 101, 115, 32, 97, 114, 101, 32, 48, 32, 116, 111, 32, 54]), ("ChaseCourt", 159, [97, 32, 104, 97, 110, 100, 105, 99, 97, 112, 32, 105, 115, 32, 48, 32, 116, 111, 32, 51]), ("ChaseCourt", 325, [116, 104, 101, 114, 101, 32, 105, 115, 32, 110, 111, 32, 115, 117, 99, 104, 32, 108, 105, 110, 101]), ("ChaseCourt", 174, [97, 32, 114, 97, 108, 108, 121, 32, 105, 115, 32, 119, 111, 110, 44, 32, 108, 111, 115, 116, 32, 111, 114, 32, 100, 101, 97, 100]), ("ChaseCourt", 336, [116, 104, 101, 32, 115, 101, 116, 32, 105, 115, 32, 111, 118, 101, 114]), ("ChaseCourt", 327, [114, 97, 108, 108, 105, 101, 115, 32, 97, 114, 101, 32, 48, 32, 116, 111, 32, 51, 48]), ("ChaseCourt", 248, [109, 105, 108, 108, 105, 111, 110, 116, 104, 115, 32, 97, 114, 101, 32, 48, 32, 116, 111, 32, 53, 48, 48, 48, 48, 48]), ("ChaseCourt", 339, [105, 116, 32, 105, 115, 32, 110, 111, 32, 108, 111, 103]), ("ChaseCourt", 296, [114, 97, 108, 108, 105, 101, 115, 32, 97, 114, 101, 32, 48, 32, 116, 111, 32, 50, 48, 48]), ("ChaseCourtModel", 190, [115, 116, 121, 108, 101]), ("ChaseCourtModel", 192, [105, 102]), ("ChaseCourtModel", 171, [110, 111, 116]), ("ChaseCourtModel", 157, [115, 101, 114, 118, 105, 110, 103]), ("ChaseCourtModel", 163, [111, 102, 102]), ("ChaseCourtModel", 146, [109, 105, 110, 101]), ("ChaseCourtModel", 148, [104, 105, 115]), ("ChaseCourtModel", 150, [108, 105, 110, 101]), ("ChaseCourtModel", 152, [99, 104, 97, 115, 101, 115]), ("ChaseCourtModel", 123, [103, 97, 109, 101, 115]), ("ChaseCourtModel", 183, [97, 110, 100]), ("ChaseCourtModel", 188, [111, 114]), ("ChaseCourtModel", 107, [114, 97, 108, 108, 121]), ("ChaseCourtModel", 117, [119, 111, 110]), ("ChaseCourtModel", 119, [108, 111, 115, 116]), ("ChaseCourtModel", 121, [100, 101, 97, 100]), ("ChaseCourtModel", 125, [99, 108, 117, 98]), ("ChaseCourtModel", 127, [101, 118, 101, 110])]
def nWords : List (String × Nat × MethodName × String) := [("ChaseCourt", 15, ⟨"ChaseCourt$Scanner", "<init>", "()V"⟩, "ChaseCourt"), ("ChaseCourt", 29, ⟨"ChaseCourt$Stand", "<init>", "()V"⟩, "ChaseCourt"), ("ChaseCourt$Stand", 20, ⟨"ChaseCourt$Rules", "<init>", "()V"⟩, "ChaseCourt"), ("ChaseCourt$Stand", 27, ⟨"ChaseCourt$Score", "<init>", "()V"⟩, "ChaseCourt"), ("ChaseCourt", 36, ⟨"ChaseCourt$Score", "<init>", "()V"⟩, "ChaseCourt"), ("ChaseCourt", 92, ⟨"ChaseCourt$RuleReader", "<init>", "()V"⟩, "ChaseCourt"), ("ChaseCourt", 345, ⟨"ChaseCourt$Odds", "<init>", "()V"⟩, "ChaseCourt"), ("ChaseCourt$Odds", 11, ⟨"ChaseCourt$Places", "<init>", "()V"⟩, "ChaseCourt"), ("ChaseCourt$Odds", 20, ⟨"ChaseCourt$Score", "<init>", "()V"⟩, "ChaseCourt"), ("ChaseCourt", 236, ⟨"ChaseCourt$SetOdds", "<init>", "()V"⟩, "ChaseCourt"), ("ChaseCourt", 278, ⟨"ChaseCourt$Mender", "<init>", "()V"⟩, "ChaseCourt"), ("ChaseCourt$Mender", 11, ⟨"ChaseCourt$Score", "<init>", "()V"⟩, "ChaseCourt"), ("ChaseCourt$Mender", 23, ⟨"ChaseCourt$Places", "<init>", "()V"⟩, "ChaseCourt")]
/-! ===== the base: an activation as one sentence over values, cells and counters (WPs), and a method's contract (Ct) ===== -/
/-- the tables' good words -/
def TT : List Cond := lw_tbl.filter goodWord
theorem TT_of {w : Cond} (h : w ∈ lw_tbl) (hg : goodWord w = true) : w ∈ TT := List.mem_filter.mpr ⟨h, hg⟩
theorem TT_at {w : Cond} (i : Nat) (h : tables_1[i]? = some w) (hg : goodWord w = true) : w ∈ TT := TT_of (List.mem_append_right _ (List.mem_of_getElem? h)) hg
theorem TT_good {w : Cond} (h : w ∈ TT) : goodWord w = true := (List.mem_filter.mp h).2
theorem TT_pay {args : Array Value} {s : State} (hts : ∀ w ∈ TT, w.before args s = true) {w : Cond} (hw : w ∈ TT) (a' : Array Value) (U : State) (hW : s.WarmedH U.vm) : w.before a' U = true := word_at hW (good_of_word (TT_good hw)) (hts w hw)
/-- ghost of a launch: class numbers and slots of fields; the array classes (0 int, 1 byte, 2 long, 3 Rule); the literals' cells and their bytes' cells -/
abbrev Gh : Type := va_G × (Nat → ClassId) × (String → Nat → Nat) × (String → Nat → Nat)
def tysG (g : Gh) : List (ClassId × FieldType) := [(g.2.1 0, .int), (g.2.1 1, .byte), (g.2.1 2, .long), (g.2.1 3, .object RX4)]
def aI (g : Gh) (n : Nat) (f : Nat → Int32) : va_E := .inl (g.2.1 0, n, .inl f)
def aB (g : Gh) (n : Nat) (f : Nat → Int32) : va_E := .inl (g.2.1 1, n, .inl f)
def aJ (g : Gh) (n : Nat) (f : Nat → Int64) : va_E := .inl (g.2.1 2, n, .inr (.inl f))
def aR (g : Gh) (n : Nat) (f : Nat → Option Nat) : va_E := .inl (g.2.1 3, n, .inr (.inr (.inr (.inr f))))
/-- an object's fields by their kinds: 0 int or boolean, 1 a reference, 2 long -/
def fl : List Nat → Nat → (Nat → Int32) → List (Option Nat) → (Nat → Int64) → List Value
  | [], _, _, _, _ => []
  | 0 :: ks, n, i, r, j => .int (i n) :: fl ks (n + 1) i r j
  | 1 :: ks, n, i, r, j => va_rf (r.getD n none) :: fl ks (n + 1) i r j
  | _ :: ks, n, i, r, j => .long (j n) :: fl ks (n + 1) i r j
def kd (ci : Nat) : List Nat := match ci with
  | 0 => [1, 0, 0, 0, 0]
  | 1 => [1, 1, 1, 1, 1, 1, 1, 1, 1, 0, 2]
  | 2 => [1, 1, 1, 1, 1, 1, 1, 1, 0, 0, 0, 0, 1, 1, 1, 1, 1]
  | 3 => [1, 1, 0]
  | 4 => [1, 1]
  | 5 => [1, 0, 0, 1]
  | 6 => [1, 1, 0]
  | 7 => [1, 1, 1, 1, 0, 0, 0]
  | 8 => [0, 0, 0, 0, 0, 0, 0, 0, 0, 0, 0]
  | 9 => [1, 1, 1]
  | 10 => [1, 1, 1]
  | 11 => [1, 1, 1, 1, 1, 1, 1, 1, 1, 0, 0]
  | _ => [0, 1, 1, 0, 1, 1, 0, 0, 0, 0, 0, 0, 1, 0, 0, 0, 1, 0, 0, 1, 1, 1, 1, 1, 1, 1, 1, 1, 1, 1, 0, 0]
def obj (ci : Nat) (i : Nat → Int32) (r : List (Option Nat)) (j : Nat → Int64) : va_E := .inr (ci, fl (kd ci) 0 i r j)
abbrev ob (ci : Nat) (i : Nat → Int32) (r : List (Option Nat)) : va_E := obj ci i r (fun _ => 0)
theorem fl_i : ∀ (ks : List Nat) (n k : Nat) (i : Nat → Int32) (r : List (Option Nat)) (j : Nat → Int64), ks[k]? = some 0 → (fl ks n i r j)[k]? = some (.int (i (n + k)))
  | [], _, _, _, _, _, h => by simp at h
  | x :: ks, n, 0, i, r, j, h => by
    have hx : x = 0 := by simpa using h
    subst hx
    rfl
  | x :: ks, n, k + 1, i, r, j, h => by
    have h2 : ks[k]? = some 0 := by simpa using h
    have h3 := fl_i ks (n + 1) k i r j h2
    have e : n + 1 + k = n + (k + 1) := by omega
    rw [e] at h3
    match x with
    | 0 => exact h3
    | 1 => exact h3
    | (x + 2) => exact h3
theorem fl_r : ∀ (ks : List Nat) (n k : Nat) (i : Nat → Int32) (r : List (Option Nat)) (j : Nat → Int64), ks[k]? = some 1 → (fl ks n i r j)[k]? = some (va_rf (r.getD (n + k) none))
  | [], _, _, _, _, _, h => by simp at h
  | x :: ks, n, 0, i, r, j, h => by
    have hx : x = 1 := by simpa using h
    subst hx
    rfl
  | x :: ks, n, k + 1, i, r, j, h => by
    have h2 : ks[k]? = some 1 := by simpa using h
    have h3 := fl_r ks (n + 1) k i r j h2
    have e : n + 1 + k = n + (k + 1) := by omega
    rw [e] at h3
    match x with
    | 0 => exact h3
    | 1 => exact h3
    | (x + 2) => exact h3
theorem fl_j : ∀ (ks : List Nat) (n k : Nat) (i : Nat → Int32) (r : List (Option Nat)) (j : Nat → Int64), ks[k]? = some 2 → (fl ks n i r j)[k]? = some (.long (j (n + k)))
  | [], _, _, _, _, _, h => by simp at h
  | x :: ks, n, 0, i, r, j, h => by
    have hx : x = 2 := by simpa using h
    subst hx
    rfl
  | x :: ks, n, k + 1, i, r, j, h => by
    have h2 : ks[k]? = some 2 := by simpa using h
    have h3 := fl_j ks (n + 1) k i r j h2
    have e : n + 1 + k = n + (k + 1) := by omega
    rw [e] at h3
    match x with
    | 0 => exact h3
    | 1 => exact h3
    | (x + 2) => exact h3
theorem fl_len : ∀ (ks : List Nat) (n : Nat) (i : Nat → Int32) (r : List (Option Nat)) (j : Nat → Int64), (fl ks n i r j).length = ks.length
  | [], _, _, _, _ => rfl
  | x :: ks, n, i, r, j => by
    have h := fl_len ks (n + 1) i r j
    match x with
    | 0 => simp [fl, h]
    | 1 => simp [fl, h]
    | (x + 2) => simp [fl, h]
/-- lists of fields that agree at every place -/
theorem fl_ext {a b : List Value} (hl : a.length = b.length) (h : ∀ k, k < a.length → a[k]? = b[k]?) : a = b := by
  apply List.ext_getElem?
  intro k
  by_cases hk : k < a.length
  · exact h k hk
  · rw [List.getElem?_eq_none (by omega), List.getElem?_eq_none (by omega)]
def fv (i : Nat → Int32) (r : List (Option Nat)) (j : Nat → Int64) (m : Nat) : Nat → Value
  | 0 => .int (i m)
  | 1 => va_rf (r.getD m none)
  | _ => .long (j m)
theorem fl_get (ks : List Nat) (n k : Nat) (i : Nat → Int32) (r : List (Option Nat)) (j : Nat → Int64) (x : Nat) (hx : ks[k]? = some x) : (fl ks n i r j)[k]? = some (fv i r j (n + k) x) := by
  induction ks generalizing n k with
  | nil => simp at hx
  | cons y ks ih =>
    cases k with
    | zero =>
      have hy : y = x := by simpa using hx
      subst hy
      match y with
      | 0 => rfl
      | 1 => rfl
      | (y + 2) => rfl
    | succ k =>
      have h2 : ks[k]? = some x := by simpa using hx
      have h3 := ih (n + 1) k h2
      have e : n + 1 + k = n + (k + 1) := by omega
      rw [e] at h3
      match y with
      | 0 => exact h3
      | 1 => exact h3
      | (y + 2) => exact h3
theorem fl_setG (ks : List Nat) (i i' : Nat → Int32) (r r' : List (Option Nat)) (j j' : Nat → Int64) (k : Nat) (v : Value) (hk : k < ks.length) (hv : (fl ks 0 i' r' j')[k]? = some v)
    (hi : ∀ q, q ≠ k → i' q = i q) (hr : ∀ q, q ≠ k → r'.getD q none = r.getD q none) (hj : ∀ q, q ≠ k → j' q = j q) : (fl ks 0 i r j).set k v = fl ks 0 i' r' j' := by
  refine fl_ext (by rw [List.length_set, fl_len, fl_len]) fun q hq => ?_
  rw [List.length_set, fl_len] at hq
  by_cases hqk : q = k
  · subst hqk
    rw [List.getElem?_set_self (by rw [fl_len]; exact hk), hv]
  · rw [List.getElem?_set_ne (Ne.symm hqk), fl_get ks 0 q i r j _ (List.getElem?_eq_getElem hq), fl_get ks 0 q i' r' j' _ (List.getElem?_eq_getElem hq)]
    have e1 := hi (0 + q) (by omega)
    have e2 := hr (0 + q) (by omega)
    have e3 := hj (0 + q) (by omega)
    generalize ks[q] = x
    match x with
    | 0 => simp only [fv, e1]
    | 1 => simp only [fv, e2]
    | (x + 2) => simp only [fv, e3]
theorem fl_si {ks : List Nat} {i : Nat → Int32} {r : List (Option Nat)} {j : Nat → Int64} {k : Nat} (x : Int32) (h : ks[k]? = some 0) : (fl ks 0 i r j).set k (.int x) = fl ks 0 (upd i k x) r j := by
  refine fl_setG ks i _ r r j j k _ (List.getElem?_eq_some_iff.mp h).1 ?_ (fun q hq => pk_un hq) (fun _ _ => rfl) (fun _ _ => rfl)
  rw [fl_i ks 0 k _ r j h, Nat.zero_add, pk_us]
theorem fl_sr {ks : List Nat} {i : Nat → Int32} {r : List (Option Nat)} {j : Nat → Int64} {k : Nat} (x : Option Nat) (h : ks[k]? = some 1) (hl : k < r.length) : (fl ks 0 i r j).set k (va_rf x) = fl ks 0 i (r.set k x) j := by
  refine fl_setG ks i i r _ j j k _ (List.getElem?_eq_some_iff.mp h).1 ?_ (fun _ _ => rfl) (fun q hq => ?_) (fun _ _ => rfl)
  · rw [fl_r ks 0 k i _ j h, Nat.zero_add]
    simp [List.getD, hl]
  · simp [List.getD, List.getElem?_set_ne (Ne.symm hq)]
theorem fl_sj {ks : List Nat} {i : Nat → Int32} {r : List (Option Nat)} {j : Nat → Int64} {k : Nat} (x : Int64) (h : ks[k]? = some 2) : (fl ks 0 i r j).set k (.long x) = fl ks 0 i r (vp_updL j k x) := by
  refine fl_setG ks i i r r j _ k _ (List.getElem?_eq_some_iff.mp h).1 ?_ (fun _ _ => rfl) (fun _ _ => rfl) (fun q hq => pk_uLn hq)
  rw [fl_j ks 0 k i r _ h, Nat.zero_add, pk_uLs]
/-! what lies outside: the literals, the statics, the nest's words -/
def ouS (g : Gh) (A : Nat → Prop) (U : State) (H : Heap) (e : String × Nat × List Int32) : Prop :=
  va_O "java/lang/String" (g.2.2.1 e.1 e.2.1) A U H ∧ va_OF "java/lang/String" "coder" "B" (.int 0) (g.2.2.1 e.1 e.2.1) A U H ∧ va_OF "java/lang/String" "value" "[B" (.ref (g.2.2.2 e.1 e.2.1)) (g.2.2.1 e.1 e.2.1) A U H ∧ va_T .byte (g.2.2.2 e.1 e.2.1) e.2.2.length (fun j => .int (e.2.2.getD j 0)) A U H
def Ou (g : Gh) (A : Nat → Prop) (U : State) (H : Heap) : Prop :=
  (vx_Zq Bundle.tN "UNASSIGNED_STACK" Bundle.steD A U H ∧ vx_Zq Bundle.tN "SUPPRESSED_SENTINEL" Bundle.listD A U H) ∧ (∀ e ∈ sRefs, vk_R e.1 e.2.1 e.2.2 (g.2.2.1 e.1 e.2.1) U) ∧ (∀ e ∈ sWords, ouS g A U H e) ∧
  va_Z "java/lang/String" "COMPACT_STRINGS" "Z" (.int 1) A U H ∧ va_Zq "jdk/internal/util/Preconditions" "SIOOBE_FORMATTER" "Ljava/util/function/BiFunction;" A U H ∧ (∀ e ∈ nWords, va_Nw (.methodLinkNest e.1 e.2.1 e.2.2.1 e.2.2.2) U) ∧ (∀ e ∈ dWords, va_Nw (.declares e) U) ∧ (∀ e ∈ cWords, va_Nc e.1 e.2 U) ∧ va_AO RX4 U
theorem Ou.warm {g : Gh} {A : Nat → Prop} {s U : State} {H : Heap} (hW : s.WarmedH U.vm) (h : Ou g A s H) : Ou g A U H := by
  obtain ⟨⟨h1, h2⟩, h3, h4, h5, h6, h7, h8, h9, h10⟩ := h
  have ha := hW.alike
  exact ⟨⟨h1.moved ha, h2.moved ha⟩, fun e he => (h3 e he).warm hW, fun e he => ⟨(h4 e he).1.moved ha, (h4 e he).2.1.moved ha, (h4 e he).2.2.1.moved ha, (h4 e he).2.2.2.moved ha⟩, h5.moved ha, h6.moved ha, fun e he => (h7 e he).warmM hW, fun e he => (h8 e he).warmD hW, fun e he => (h9 e he).moved ha, h10.moved ha⟩
theorem Ou.same {g : Gh} {A : Nat → Prop} {s U : State} {H : Heap} (hv : U.vm = s.vm) (h : Ou g A s H) : Ou g A U H := by
  obtain ⟨⟨h1, h2⟩, h3, h4, h5, h6, h7, h8, h9, h10⟩ := h
  have ha : s.vm.Alike U.vm := by rw [hv]; exact Vm.Alike.refl _
  exact ⟨⟨h1.moved ha, h2.moved ha⟩, fun e he => (h3 e he).same hv, fun e he => ⟨(h4 e he).1.moved ha, (h4 e he).2.1.moved ha, (h4 e he).2.2.1.moved ha, (h4 e he).2.2.2.moved ha⟩, h5.moved ha, h6.moved ha, fun e he => (h7 e he).same rfl hv.symm, fun e he => (h8 e he).same rfl hv.symm, fun e he => (h9 e he).moved ha, h10.moved ha⟩
theorem Ou.kept {g : Gh} {A : Nat → Prop} {U : State} {H H1 : Heap} (h : Ou g A U H) (hq : ∀ a : Nat, a < H.size → ¬ A a → H1[a]? = H[a]?) : Ou g A U H1 := by
  obtain ⟨⟨h1, h2⟩, h3, h4, h5, h6, h7, h8, h9, h10⟩ := h
  exact ⟨⟨h1.kept hq, h2.kept hq⟩, h3, fun e he => ⟨(h4 e he).1.kept hq, (h4 e he).2.1.kept hq, (h4 e he).2.2.1.kept hq, (h4 e he).2.2.2.kept hq⟩, h5.kept hq, h6.kept hq, h7, h8, h9, h10⟩
theorem Ou.narrow {g : Gh} {A B : Nat → Prop} {U : State} {H : Heap} (h : Ou g A U H) (hAB : ∀ q, B q → A q) : Ou g B U H := by
  obtain ⟨⟨h1, h2⟩, h3, h4, h5, h6, h7, h8, h9, h10⟩ := h
  exact ⟨⟨h1.narrow hAB, h2.narrow hAB⟩, h3, fun e he => ⟨(h4 e he).1.narrow hAB, (h4 e he).2.1.narrow hAB, (h4 e he).2.2.1.narrow hAB, (h4 e he).2.2.2.narrow hAB⟩, h5.narrow hAB, h6.narrow hAB, h7, h8, h9, h10⟩
/-! the contract -/
abbrev Pst : Type := Option Value → va_W → Nat → Nat → Prop
abbrev Pxc : Type := String → va_W → Nat → Nat → Prop
def qR (g : Gh) (post : Pst) (A : Nat → Prop) (k n : Nat) : Array Value → State → Outcome → State → Prop := fun _ s o t => ∃ (v : Option Value) (ws : va_W), o = .returned v ∧ post v ws k n ∧ va_P g.1 vwCl ws t.heap ∧ va_D A ws ∧ va_F A s t
def qX (g : Gh) (px : Pxc) (A : Nat → Prop) (k n : Nat) : String → State → State → Prop := fun E s t => ∃ ws : va_W, px E ws k n ∧ va_P g.1 vwCl ws t.heap ∧ va_D A ws ∧ va_F A s t
def qE (g : Gh) (A : Nat → Prop) (post : Pst) (px : Pxc) : Array Value → State → Outcome → State → Prop := fun a s o t => ∃ k n, vx_Q (qR g post A k n) (qX g px A k n) k n A a s o t
def qPc (g : Gh) (args : List Value) (w : va_W) (sz : Nat) : Array Value → State → Prop := fun v U => v = args.toArray ∧ U.heap.size = sz ∧ va_P g.1 vwCl w U.heap ∧ va_K g.1 vwCl (tysG g) U ∧ va_D (fun _ => True) w ∧ Ou g (va_A w sz) U U.heap
abbrev rm (d rc rs : Nat) : Room := { frames := d, cells := rc, slots := rs, locals := 40 * d }
def Ct (l : Launch) (g : Gh) (y : MethodName) (hd : Cond) (d rc rs : Nat) (args : List Value) (w : va_W) (post : Pst) (px : Pxc) : Prop :=
  l.stackTraces = false → ∀ sz, MetFree l y (headSpec (hd :: TT) (rm d rc rs)) (qPc g args w sz) (fun _ _ _ _ _ => True) (qE g (va_A w sz) post px)
def noX : Pxc := fun _ _ _ _ => False
/-! an activation -/
abbrev Act : Type := Program × Env × State × MethodId × Array Value × List Frame × Method × Code × (Nat → Prop)
abbrev Act.p (a : Act) : Program := a.1
abbrev Act.e (a : Act) : Env := a.2.1
abbrev Act.s (a : Act) : State := a.2.2.1
abbrev Act.m (a : Act) : MethodId := a.2.2.2.1
abbrev Act.args (a : Act) : Array Value := a.2.2.2.2.1
abbrev Act.below (a : Act) : List Frame := a.2.2.2.2.2.1
abbrev Act.meth (a : Act) : Method := a.2.2.2.2.2.2.1
abbrev Act.c (a : Act) : Code := a.2.2.2.2.2.2.2.1
abbrev Act.A (a : Act) : Nat → Prop := a.2.2.2.2.2.2.2.2
/-- a method: its owner's name, its bytes, its locals, what it returns, its table of catches, its name -/
abbrev Mt : Type := String × ByteArray × Nat × Option FieldType × List ExceptionTableEntry × String
abbrev Mt.own (M : Mt) : String := M.1
abbrev Mt.cc (M : Mt) : ByteArray := M.2.1
abbrev Mt.nL (M : Mt) : Nat := M.2.2.1
abbrev Mt.ret (M : Mt) : Option FieldType := M.2.2.2.1
abbrev Mt.tb (M : Mt) : List ExceptionTableEntry := M.2.2.2.2.1
abbrev Mt.nm (M : Mt) : String := M.2.2.2.2.2
def EnvOK (l : Launch) (g : Gh) (M : Mt) (a : Act) : Prop :=
  (a.p.tables.exec = Jvm.exec ∧ a.c.code = M.cc ∧ a.c.maxLocals = M.nL ∧ a.s.vm.findClass M.own = some a.m.cls ∧ ∀ w ∈ TT, w.before a.args a.s = true) ∧ a.meth.locks = false ∧ a.meth.sig.returnType = M.ret ∧ a.c.exceptionTable.toList = M.tb ∧ a.meth.name = M.nm ∧
  (∀ q, a.s.heap.size ≤ q → a.A q) ∧ va_K g.1 vwCl (tysG g) a.s ∧ Ou g a.A a.s a.s.heap ∧ l.stackTraces = false
def qQ (g : Gh) (post : Pst) (px : Pxc) (a : Act) : State → Prop := fun t => ∃ o, t.status = .running ∧ Ended t a.below o ∧ qE g a.A post px a.args a.s o t
def lp : Nat → List (Option Value) → List (Nat × Value)
  | _, [] => []
  | i, none :: l => lp (i + 1) l
  | i, some v :: l => (i, v) :: lp (i + 1) l
def WPs (l : Launch) (g : Gh) (M : Mt) (d rc rs : Nat) (post : Pst) (px : Pxc) (a : Act) (pc : Nat) (L : List (Option Value)) (st : List Value) (ws : va_W) (k n : Nat) : Prop :=
  EnvOK l g M a → ∀ (H : Heap) (locs : List Loc) (ls : Array Slot), va_P g.1 vwCl ws H → va_D a.A ws → va_S a.A a.s.heap H locs → lv_has ls M.nL (lp 0 L) →
    W a.p l a.e (rm d rc rs) a.s a.m a.args a.below a.meth a.c H locs k n (qQ g post px a) (F0 a.m pc ls st)
theorem W.conseq {p : Program} {l : Launch} {e : Env} {R : Room} {s : State} {m : MethodId} {args : Array Value} {below : List Frame} {meth : Method} {c : Code} {H : Heap} {locs : List Loc} {cells slots : Nat} {Q Q' : State → Prop} {g : JFrame} (h : ∀ t, Q t → Q' t) (k : W p l e R s m args below meth c H locs cells slots Q g) : W p l e R s m args below meth c H locs cells slots Q' g := by
  intro T hT X
  obtain ⟨t, a, b⟩ := k T hT X
  exact ⟨t, a, h t b⟩
/-! locals -/
theorem lp_get : ∀ (L : List (Option Value)) (n i : Nat) (v : Value), L[i]? = some (some v) → (n + i, v) ∈ lp n L
  | [], _, _, _, h => by simp at h
  | x :: L, n, 0, v, h => by
    have hx : x = some v := by simpa using h
    subst hx
    exact List.mem_cons_self
  | x :: L, n, i + 1, v, h => by
    have h2 : L[i]? = some (some v) := by simpa using h
    have h3 := lp_get L (n + 1) i v h2
    have e : n + 1 + i = n + (i + 1) := by omega
    rw [e] at h3
    cases x with
    | none => exact h3
    | some y => exact List.mem_cons_of_mem _ h3
theorem lp_of : ∀ (L : List (Option Value)) (n : Nat) (q : Nat × Value), q ∈ lp n L → ∃ i, q.1 = n + i ∧ L[i]? = some (some q.2)
  | [], _, _, h => by cases h
  | none :: L, n, q, h => by
    obtain ⟨i, h1, h2⟩ := lp_of L (n + 1) q h
    exact ⟨i + 1, by omega, by simpa using h2⟩
  | some v :: L, n, q, h => by
    rcases List.mem_cons.mp h with e | h
    · subst e
      exact ⟨0, rfl, rfl⟩
    · obtain ⟨i, h1, h2⟩ := lp_of L (n + 1) q h
      exact ⟨i + 1, by omega, by simpa using h2⟩
theorem lp_at {ls : Array Slot} {nL : Nat} {L : List (Option Value)} (h : lv_has ls nL (lp 0 L)) {i : Nat} {v : Value} (hi : L[i]? = some (some v)) : ls[i]? = some (.val v) := by
  have h1 := h.2.2 _ (lp_get L 0 i v hi)
  rw [Nat.zero_add] at h1
  exact h1
theorem lv_less {ls : Array Slot} {nL : Nat} {l l' : List (Nat × Value)} (h : lv_has ls nL l) (hs : ∀ q ∈ l', q ∈ l) : lv_has ls nL l' := ⟨h.1, h.2.1, fun q hq => h.2.2 q (hs q hq)⟩
def isL : Option Value → Bool
  | some (.long _) => true
  | some (.double _) => true
  | _ => false
/-- a store of one word: the list behind it; a long whose second half it hits is gone -/
def sto1 : List (Option Value) → Nat → Value → List (Option Value)
  | [], _, _ => []
  | _ :: L, 0, v => some v :: L
  | x :: L, 1, v => (if isL x then none else x) :: sto1 L 0 v
  | x :: L, i + 2, v => x :: sto1 L (i + 1) v
def sto2 : List (Option Value) → Nat → Value → List (Option Value)
  | [], _, _ => []
  | _ :: [], 0, v => [some v]
  | _ :: _ :: L, 0, v => some v :: none :: L
  | x :: L, 1, v => (if isL x then none else x) :: sto2 L 0 v
  | x :: L, i + 2, v => x :: sto2 L (i + 1) v
theorem isL_cat {v : Value} (h : v.category = 2) : isL (some v) = true := by cases v <;> simp [Value.category] at h <;> rfl
theorem sto1_get : ∀ (L : List (Option Value)) (i : Nat) (v : Value) (j : Nat) (w : Value), (sto1 L i v)[j]? = some (some w) → (j = i ∧ w = v) ∨ (j ≠ i ∧ L[j]? = some (some w) ∧ ¬ (j + 1 = i ∧ w.category = 2))
  | [], _, _, _, _, h => by simp [sto1] at h
  | x :: L, 0, v, 0, w, h => by
    left
    simp [sto1] at h
    exact ⟨rfl, h.symm⟩
  | x :: L, 0, v, j + 1, w, h => by
    right
    simp [sto1] at h
    exact ⟨by omega, by simpa using h, by omega⟩
  | x :: L, 1, v, 0, w, h => by
    right
    simp only [sto1, List.getElem?_cons_zero, Option.some.injEq] at h
    by_cases hx : isL x = true
    · rw [if_pos hx] at h; cases h
    · rw [if_neg hx] at h
      subst h
      exact ⟨by omega, rfl, fun q => hx (isL_cat q.2)⟩
  | x :: L, 1, v, j + 1, w, h => by
    simp only [sto1, List.getElem?_cons_succ] at h
    rcases sto1_get L 0 v j w h with ⟨h1, h2⟩ | ⟨h1, h2, h3⟩
    · exact Or.inl ⟨by omega, h2⟩
    · exact Or.inr ⟨by omega, by simpa using h2, by omega⟩
  | x :: L, i + 2, v, 0, w, h => by
    right
    simp only [sto1, List.getElem?_cons_zero, Option.some.injEq] at h
    subst h
    exact ⟨by omega, rfl, by omega⟩
  | x :: L, i + 2, v, j + 1, w, h => by
    simp only [sto1, List.getElem?_cons_succ] at h
    rcases sto1_get L (i + 1) v j w h with ⟨h1, h2⟩ | ⟨h1, h2, h3⟩
    · exact Or.inl ⟨by omega, h2⟩
    · exact Or.inr ⟨by omega, by simpa using h2, fun q => h3 ⟨by omega, q.2⟩⟩
theorem sto2_get : ∀ (L : List (Option Value)) (i : Nat) (v : Value) (j : Nat) (w : Value), (sto2 L i v)[j]? = some (some w) → (j = i ∧ w = v) ∨ (j ≠ i ∧ j ≠ i + 1 ∧ L[j]? = some (some w) ∧ ¬ (j + 1 = i ∧ w.category = 2))
  | [], _, _, _, _, h => by simp [sto2] at h
  | [x], 0, v, 0, w, h => by
    left
    simp [sto2] at h
    exact ⟨rfl, h.symm⟩
  | [x], 0, v, j + 1, w, h => by simp [sto2] at h
  | x :: y :: L, 0, v, 0, w, h => by
    left
    simp [sto2] at h
    exact ⟨rfl, h.symm⟩
  | x :: y :: L, 0, v, 1, w, h => by simp [sto2] at h
  | x :: y :: L, 0, v, j + 2, w, h => by
    right
    simp [sto2] at h
    exact ⟨by omega, by omega, by simpa using h, by omega⟩
  | x :: L, 1, v, 0, w, h => by
    right
    simp only [sto2, List.getElem?_cons_zero, Option.some.injEq] at h
    by_cases hx : isL x = true
    · rw [if_pos hx] at h; cases h
    · rw [if_neg hx] at h
      subst h
      exact ⟨by omega, by omega, rfl, fun q => hx (isL_cat q.2)⟩
  | x :: L, 1, v, j + 1, w, h => by
    simp only [sto2, List.getElem?_cons_succ] at h
    rcases sto2_get L 0 v j w h with ⟨h1, h2⟩ | ⟨h1, h1', h2, h3⟩
    · exact Or.inl ⟨by omega, h2⟩
    · exact Or.inr ⟨by omega, by omega, by simpa using h2, by omega⟩
  | x :: L, i + 2, v, 0, w, h => by
    right
    simp only [sto2, List.getElem?_cons_zero, Option.some.injEq] at h
    subst h
    exact ⟨by omega, by omega, rfl, by omega⟩
  | x :: L, i + 2, v, j + 1, w, h => by
    simp only [sto2, List.getElem?_cons_succ] at h
    rcases sto2_get L (i + 1) v j w h with ⟨h1, h2⟩ | ⟨h1, h1', h2, h3⟩
    · exact Or.inl ⟨by omega, h2⟩
    · exact Or.inr ⟨by omega, by omega, by simpa using h2, fun q => h3 ⟨by omega, q.2⟩⟩
theorem sto1_sub {L : List (Option Value)} {i : Nat} {v : Value} : ∀ q ∈ lp 0 (sto1 L i v), q ∈ (i, v) :: (lp 0 L).filter (fun q => !(q.1 == i) && !(q.1 + 1 == i && q.2.category == 2)) := by
  intro q hq
  obtain ⟨j, h1, h2⟩ := lp_of _ 0 q hq
  rw [Nat.zero_add] at h1
  obtain ⟨q1, q2⟩ := q
  dsimp only at h1 h2
  subst h1
  rcases sto1_get L i v q1 q2 h2 with ⟨e1, e2⟩ | ⟨e1, e2, e3⟩
  · subst e1; subst e2
    exact List.mem_cons_self
  · refine List.mem_cons_of_mem _ (List.mem_filter.mpr ⟨?_, ?_⟩)
    · have := lp_get L 0 q1 q2 e2
      rwa [Nat.zero_add] at this
    · simp only [Bool.and_eq_true, Bool.not_eq_true', beq_eq_false_iff_ne, ne_eq, Bool.and_eq_false_iff]
      refine ⟨e1, ?_⟩
      by_cases hx : q1 + 1 = i
      · exact Or.inr (fun h => e3 ⟨hx, h⟩)
      · exact Or.inl hx
theorem sto2_sub {L : List (Option Value)} {i : Nat} {v : Value} : ∀ q ∈ lp 0 (sto2 L i v), q ∈ (i, v) :: (lp 0 L).filter (fun q => !(q.1 == i) && (!(q.1 == i + 1) && !(q.1 + 1 == i && q.2.category == 2))) := by
  intro q hq
  obtain ⟨j, h1, h2⟩ := lp_of _ 0 q hq
  rw [Nat.zero_add] at h1
  obtain ⟨q1, q2⟩ := q
  dsimp only at h1 h2
  subst h1
  rcases sto2_get L i v q1 q2 h2 with ⟨e1, e2⟩ | ⟨e1, e1', e2, e3⟩
  · subst e1; subst e2
    exact List.mem_cons_self
  · refine List.mem_cons_of_mem _ (List.mem_filter.mpr ⟨?_, ?_⟩)
    · have := lp_get L 0 q1 q2 e2
      rwa [Nat.zero_add] at this
    · simp only [Bool.and_eq_true, Bool.not_eq_true', beq_eq_false_iff_ne, ne_eq, Bool.and_eq_false_iff]
      refine ⟨e1, e1', ?_⟩
      by_cases hx : q1 + 1 = i
      · exact Or.inr (fun h => e3 ⟨hx, h⟩)
      · exact Or.inl hx
