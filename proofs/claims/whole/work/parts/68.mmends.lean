/-! ===== mends: the pure course ===== -/
def VG (x : Sc) : Prop := Val x ∧ (∃ a : Nat, a ≤ 6 ∧ x 7 = nI a) ∧ (∃ b : Nat, b ≤ 6 ∧ x 8 = nI b)
def cOK (c : Nat) : Prop := c < 991232 ∧ ¬ rCan (nI (c / 64)) = 0 ∧ c / 8 % 8 ≤ 6 ∧ c % 8 ≤ 6
theorem UW_VG (m : Sc) {c : Nat} (h : cOK c) : VG (UW m c) := by
  obtain ⟨h1, h2, h3, h4⟩ := h
  have hv := U_Val m (j := c / 64) (by omega) h2
  exact ⟨hv, ⟨c / 8 % 8, h3, rfl⟩, ⟨c % 8, h4, rfl⟩⟩
def wC (y : Sc) : Nat := (rWh y).toNatClampNeg
def AlkG (x y : Sc) : Prop := Alk x y ∧ x 7 = y 7 ∧ x 8 = y 8
theorem wh_of {m x : Sc} (h : VG x) : cOK (wC x) ∧ rWh x = nI (wC x) ∧ AlkG (UW m (wC x)) x := by
  obtain ⟨hv, ⟨a, ha, ea⟩, ⟨b, hb, eb⟩⟩ := h
  obtain ⟨j, h1, h2, h3, h4⟩ := num_of (m := m) hv
  have e : rWh x = nI ((j * 8 + a) * 8 + b) := by
    unfold rWh
    rw [h2, ea, eb, show (8 : Int32) = nI 8 from by decide, pk_mul, nI_add, pk_mul, nI_add]
  have ec : wC x = (j * 8 + a) * 8 + b := by unfold wC; rw [e, nI_clamp (by omega)]
  have d1 : ((j * 8 + a) * 8 + b) / 64 = j := by omega
  have d2 : ((j * 8 + a) * 8 + b) / 8 % 8 = a := by omega
  have d3 : ((j * 8 + a) * 8 + b) % 8 = b := by omega
  refine ⟨?_, by rw [ec]; exact e, ?_⟩
  · rw [ec]
    unfold cOK
    rw [d1, d2, d3]
    exact ⟨by omega, h3, ha, hb⟩
  · rw [ec]
    unfold UW
    rw [d1, d2, d3]
    exact ⟨h4, ea.symm, eb.symm⟩
theorem rPt_g (m x : Sc) (p : Int32) : (rPt m x p 7 = x 7 ∧ rPt m x p 8 = x 8) ∨ (rPt m x p 7 = x 7 + 1 ∧ rPt m x p 8 = x 8) ∨ (rPt m x p 7 = x 7 ∧ rPt m x p 8 = x 8 + 1) := by
  unfold rPt rPtE
  have e7 : sPt1 (sPt0 x p) 7 = x 7 := sPt1_o x p 7 (by decide)
  have e8 : sPt1 (sPt0 x p) 8 = x 8 := sPt1_o x p 8 (by decide)
  split
  · exact Or.inl ⟨e7, e8⟩
  · unfold sBump
    split
    · exact Or.inr (Or.inl ⟨by show sPt1 (sPt0 x p) 7 + 1 = _; rw [e7], e8⟩)
    · exact Or.inr (Or.inr ⟨e7, by show sPt1 (sPt0 x p) 8 + 1 = _; rw [e8]⟩)
theorem rGive_g (m x : Sc) (w : Int32) : (rGive m x w 7 = x 7 ∧ rGive m x w 8 = x 8) ∨ (rGive m x w 7 = x 7 + 1 ∧ rGive m x w 8 = x 8) ∨ (rGive m x w 7 = x 7 ∧ rGive m x w 8 = x 8 + 1) := by
  unfold rGive
  split
  · exact Or.inl ⟨rfl, rfl⟩
  · exact rPt_g m x _
theorem rEnds_g (m x : Sc) (k : Nat) (hk : 7 ≤ k) : rEnds m x k = x k := by
  unfold rEnds rEnd1
  have h2 : k ≠ 2 := by omega
  have h6 : k ≠ 6 := by omega
  split
  · rfl
  · split
    · rw [pk_un h6, pk_un h2]
    · rfl
theorem rGone_g (x : Sc) (k : Nat) (hk : 7 ≤ k) : rGone x k = x k := by
  unfold rGone
  split
  · rfl
  · rw [pk_un (by omega), pk_un (by omega), pk_un (by omega)]
theorem sAdd_g (x : Sc) (z : Int32) (k : Nat) (hk : 7 ≤ k) : sAdd x z k = x k := by
  unfold sAdd
  rw [pk_un (by omega)]
  split
  · rw [pk_un (by omega)]
  · rw [pk_un (by omega)]
theorem rRal_g (m x : Sc) (how : Int32) : (rRal m x how 7 = x 7 ∧ rRal m x how 8 = x 8) ∨ (rRal m x how 7 = x 7 + 1 ∧ rRal m x how 8 = x 8) ∨ (rRal m x how 7 = x 7 ∧ rRal m x how 8 = x 8 + 1) := by
  unfold rRal
  by_cases h6 : x 6 = 0
  · rw [if_pos h6]
    have K : (rRal0 m x how 7 = x 7 ∧ rRal0 m x how 8 = x 8) ∨ (rRal0 m x how 7 = x 7 + 1 ∧ rRal0 m x how 8 = x 8) ∨ (rRal0 m x how 7 = x 7 ∧ rRal0 m x how 8 = x 8 + 1) := by
      unfold rRal0
      split
      · exact rGive_g m x _
      · exact Or.inl ⟨sAdd_g x _ 7 (by decide), sAdd_g x _ 8 (by decide)⟩
    split
    · rw [rEnds_g m _ 7 (by decide), rEnds_g m _ 8 (by decide)]
      exact K
    · exact K
  · rw [if_neg h6, rGone_g _ 7 (by decide), rGone_g _ 8 (by decide)]
    exact rGive_g m x _
theorem VG_rRal {m x : Sc} {how : Int32} {G : Nat} (hH : HOK m) (hG : m 194 = nI G) (hG6 : G ≤ 6) (hx : VG x) (ho : rOver m x = 0) (hh : x 6 = 0 → ¬ how < 2 → lnOK (how - 2)) : VG (rRal m x how) := by
  obtain ⟨hv, ⟨a, ha, ea⟩, ⟨b, hb, eb⟩⟩ := hx
  have ho2 : ¬ (m 194 ≤ x 7 ∨ m 194 ≤ x 8) := by
    unfold rOver at ho
    intro h
    rw [if_pos h] at ho
    exact absurd ho (by decide)
  have ha2 : a + 1 ≤ 6 := by
    rcases Nat.lt_or_ge a G with h | h
    · omega
    · exact absurd (Or.inl (by rw [hG, ea]; exact nI_le h (by omega))) ho2
  have hb2 : b + 1 ≤ 6 := by
    rcases Nat.lt_or_ge b G with h | h
    · omega
    · exact absurd (Or.inr (by rw [hG, eb]; exact nI_le h (by omega))) ho2
  refine ⟨Val_rRal hH hv hh, ?_, ?_⟩
  · rcases rRal_g m x how with ⟨h1, -⟩ | ⟨h1, -⟩ | ⟨h1, -⟩
    · exact ⟨a, ha, h1.trans ea⟩
    · exact ⟨a + 1, ha2, by rw [h1, ea, nI_1]⟩
    · exact ⟨a, ha, h1.trans ea⟩
  · rcases rRal_g m x how with ⟨-, h1⟩ | ⟨-, h1⟩ | ⟨-, h1⟩
    · exact ⟨b, hb, h1.trans eb⟩
    · exact ⟨b, hb, h1.trans eb⟩
    · exact ⟨b + 1, hb2, by rw [h1, eb, nI_1]⟩
/-- how a ball died against the chase: 12 better, 13 worse, 14 even -/
def as0 (x : Sc) (how : Int32) : Int32 := if how - 2 < x 4 then 12 else if x 4 < how - 2 then 13 else 14
def mdO (m x : Sc) (f : Nat → Int64) (as : Int32) (A : St) : Nat → St
  | 0 => A
  | o + 1 => if nI (12 + o) = as then mdO m x f as A o else jn (wC (rRal m x (nI (12 + o)))) f 1 (mdO m x f as A o)
def mdJ (m : Sc) (how : Int32) (A : St) (e : Nat × (Nat → Int64)) : St :=
  if rOver m (UW m e.1) = 0 then (if 2 ≤ how ∧ UW m e.1 6 = 1 then mdO m (UW m e.1) e.2 (as0 (UW m e.1) how) (jn (wC (rRal m (UW m e.1) how)) e.2 0 A) 3 else jn (wC (rRal m (UW m e.1) how)) e.2 0 A) else A
def mdF (m : Sc) (how : Int32) (L : St) : Nat → St
  | 0 => []
  | s + 1 => mdJ m how (mdF m how L s) (L.getD s d0)
def mdL (m tp : Sc) : Nat → St
  | 0 => [(wC (S m), fun i => if i = 0 then 1 else 0)]
  | k + 1 => mdF m (hwF tp (2 * k)) (mdL m tp k) (mdL m tp k).length
theorem jn_ge (c : Nat) (f : Nat → Int64) (mo : Nat) (L : St) : L.length ≤ (jn c f mo L).length := by
  rw [jn_len]
  split <;> omega
theorem mdO_ge (m x : Sc) (f : Nat → Int64) (as : Int32) (A : St) : ∀ o d, (mdO m x f as A o).length ≤ (mdO m x f as A (o + d)).length
  | o, 0 => Nat.le_refl _
  | o, d + 1 => by
    refine Nat.le_trans (mdO_ge m x f as A o d) ?_
    rw [show o + (d + 1) = (o + d) + 1 from rfl, mdO]
    split
    · exact Nat.le_refl _
    · exact jn_ge _ _ _ _
theorem mdJ_ge (m : Sc) (how : Int32) (A : St) (e : Nat × (Nat → Int64)) : A.length ≤ (mdJ m how A e).length := by
  unfold mdJ
  split
  · split
    · exact Nat.le_trans (jn_ge _ _ _ _) (mdO_ge _ _ _ _ _ 0 3)
    · exact jn_ge _ _ _ _
  · exact Nat.le_refl _
theorem mdF_ge (m : Sc) (how : Int32) (L : St) : ∀ s d, (mdF m how L s).length ≤ (mdF m how L (s + d)).length
  | s, 0 => Nat.le_refl _
  | s, d + 1 => Nat.le_trans (mdF_ge m how L s d) (mdJ_ge _ _ _ _)
def AllC (L : St) : Prop := ∀ k, k < L.length → cOK (L.getD k d0).1
theorem jn_AllC {c : Nat} {f : Nat → Int64} {mo : Nat} {L : St} (hc : cOK c) (h : AllC L) : AllC (jn c f mo L) := by
  intro k hk
  rw [jn_len] at hk
  unfold jn
  by_cases hi : ixC c L < L.length
  · rw [if_pos hi] at hk ⊢
    by_cases hk2 : k = ixC c L
    · rw [hk2, getD_set_eq hi]; exact hc
    · rw [getD_set_ne hk2]; exact h k hk
  · rw [if_neg hi] at hk ⊢
    by_cases hk2 : k = L.length
    · rw [hk2, getD_app_eq]; exact hc
    · rw [getD_app_lt (by omega)]; exact h k (by omega)
/-- room for one more, if it is one -/
theorem jn_room {c : Nat} {f : Nat → Int64} {mo : Nat} {L : St} (h : (jn c f mo L).length ≤ 4000) : ixC c L < L.length ∨ L.length < 4000 := by
  rw [jn_len] at h
  by_cases hi : ixC c L < L.length
  · exact Or.inl hi
  · rw [if_neg hi] at h; exact Or.inr (by omega)
/-- how a log's rally may be, at a state -/
def hOK (how : Int32) : Prop := ¬ how < 2 → lnOK (how - 2)
theorem hOK_lt {how : Int32} (h : hOK how) : ¬ how < 2 → ¬ 12 ≤ how := by
  intro h2
  obtain ⟨k, hk, e⟩ := nat_to (n := 9) (h h2).1 (h h2).2 (by decide)
  have : how = nI (k + 2) := by
    rw [← nI_add, ← e, show nI 2 = (2 : Int32) from rfl, Int32.sub_add_cancel]
  rw [this]
  exact nI_ge (b := 12) (by omega) (by decide)
section MD
variable {m : Sc} {how : Int32} {G : Nat}
theorem mdO_AllC {x : Sc} {f : Nat → Int64} {as : Int32} {A : St} (hH : HOK m) (hG : m 194 = nI G) (hG6 : G ≤ 6) (hx : VG x) (h6 : x 6 = 1) (ho : rOver m x = 0) (hA : AllC A) : ∀ o, AllC (mdO m x f as A o)
  | 0 => hA
  | o + 1 => by
    rw [mdO]
    split
    · exact mdO_AllC hH hG hG6 hx h6 ho hA o
    · exact jn_AllC (wh_of (m := m) (VG_rRal hH hG hG6 hx ho (fun h => absurd (h6.symm.trans h) (by decide)))).1 (mdO_AllC hH hG hG6 hx h6 ho hA o)
theorem mdJ_AllC {A : St} {e : Nat × (Nat → Int64)} (hH : HOK m) (hG : m 194 = nI G) (hG6 : G ≤ 6) (hh : hOK how) (he : cOK e.1) (hA : AllC A) : AllC (mdJ m how A e) := by
  unfold mdJ
  have hx := UW_VG m he
  split
  · rename_i ho
    have h1 := jn_AllC (f := e.2) (mo := 0) (wh_of (m := m) (VG_rRal hH hG hG6 hx ho (fun _ h => hh h))).1 hA
    split
    · rename_i h2
      exact mdO_AllC hH hG hG6 hx h2.2 ho h1 3
    · exact h1
  · exact hA
theorem mdF_AllC {L : St} (hH : HOK m) (hG : m 194 = nI G) (hG6 : G ≤ 6) (hh : hOK how) (hL : AllC L) : ∀ s, s ≤ L.length → AllC (mdF m how L s)
  | 0, _ => fun k hk => absurd hk (Nat.not_lt_zero _)
  | s + 1, hs => mdJ_AllC hH hG hG6 hh (hL s (by omega)) (mdF_AllC hH hG hG6 hh hL s (by omega))
end MD
/-- the asked ones' counts added, for i mends -/
def mdV (m : Sc) (L : St) (a b c d : Int32) (i : Nat) : Nat → Int64
  | 0 => 0
  | s + 1 => if UW m (L.getD s d0).1 0 = a ∧ UW m (L.getD s d0).1 1 = b ∧ UW m (L.getD s d0).1 7 = c ∧ UW m (L.getD s d0).1 8 = d then mdV m L a b c d i s + (L.getD s d0).2 i else mdV m L a b c d i s
def mdR (v : Nat → Int64) (wy : Int32) : Nat → Nat → Int64
  | 0, _ => if wy = 0 then -1 else 0
  | c + 1, i => if v i ≤ 0 then mdR v wy c (i + 1) else if wy = 0 then (nI i).toInt64 else v i

