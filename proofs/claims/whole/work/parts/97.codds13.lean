/-! ===== Odds: what is spread ===== -/
def wFo (li cf : Sc) (c10 : Int32) (ch : Nat) (wf : Sc) (p : Nat) (sF : Sc) : Sc := fwL (sF 6) li (sF 4) cf (fwB c10 (sF 2) p) (fwS c10 (sF 2)) ch wf
def nOf (sF : Sc) : Nat := if sF 6 = 0 then 12 else 3
/-- the entries of key k's score begin where a says and end at e -/
def SpE (s0 li cf yf : Sc) (Rl : Nat → RLs) (c10 : Int32) (ch : Nat) (K : List Int32) (pf bf : Sc) (Bd : Nat) (k : Int32) (a e : Nat) : Prop :=
  ∃ (s wf : Sc) (p j0 : Nat), FrO s0 s ∧ p < 16 ∧ paV yf Rl (sBec s k) = nI p ∧ bf a = nI j0 ∧ bf (a + 1) = nI e ∧ e = j0 + (osL (wFo li cf c10 ch wf p (sBec s k)) ch (nOf (sBec s k))).length * (1 + ch) ∧ EnK ch K pf (sBec s k) li (wFo li cf c10 ch wf p (sBec s k)) (osL (wFo li cf c10 ch wf p (sBec s k)) ch (nOf (sBec s k))) j0 ∧ enT (K.take Bd) (sBec s k) li (osL (wFo li cf c10 ch wf p (sBec s k)) ch (nOf (sBec s k)))
def SpR (s0 li cf yf : Sc) (Rl : Nat → RLs) (c10 : Int32) (ch : Nat) (K : List Int32) (pf bf : Sc) (u y : Nat) (Bd : Nat → Nat) : Prop :=
  (∀ j, j < y → ∃ e, SpE s0 li cf yf Rl c10 ch K pf bf (Bd j) (kAt K j) (4 + j) e ∧ e ≤ u ∧ (j + 1 = y → e = u)) ∧ u ≤ 60 * y ∧ ∀ j, j < y → Bd j ≤ K.length
theorem SpR.mv {s0 li cf yf : Sc} {Rl : Nat → RLs} {c10 : Int32} {ch : Nat} {K L : List Int32} {pf pf' bf bf' : Sc} {u y : Nat} {Bd : Nat → Nat} (h : SpR s0 li cf yf Rl c10 ch K pf bf u y Bd) (hp : ∀ p, p < u → pf' p = pf p) (hb : ∀ j, j < y → bf' (4 + j) = bf (4 + j) ∧ bf' (4 + j + 1) = bf (4 + j + 1)) (hy : y ≤ K.length) : SpR s0 li cf yf Rl c10 ch (K ++ L) pf' bf' u y Bd := by
  refine ⟨fun j hj => ?_, h.2.1, fun j hj => by have := h.2.2 j hj; rw [List.length_append]; omega⟩
  obtain ⟨e, ⟨s, wf, p, j0, e1, e2, e3, e4, e5, e6, e7, e8⟩, e9, e10⟩ := h.1 j hj
  obtain ⟨b1, b2⟩ := hb j hj
  rw [kAt_ext (by omega)]
  refine ⟨e, ⟨s, wf, p, j0, e1, e2, e3, b1.trans e4, b2.trans e5, e6, ?_, ?_⟩, e9, e10⟩
  · exact (EnK.congr (fun p9 hp9 => hp p9 (by omega)) e7).ext
  · rw [List.take_append_of_le_length (h.2.2 j hj)]
    exact e8
theorem SpR.step {s0 li cf yf : Sc} {Rl : Nat → RLs} {c10 : Int32} {ch : Nat} {GK : Int32 → Prop} {K : List Int32} {u y p Nb Nt : Nat} {P : PlS} {bf tf pf sf wf sF wF : Sc} {tk : Int32} {PL : List RuR} {Bd : Nat → Nat} {z : SpS} (h : SpR s0 li cf yf Rl c10 ch (plK P) pf bf u y Bd) (hz : SpO GK ch y u (nOf sF) P Nb bf Nt tf pf tk sF li wF PL z) (hsF : sF = sBec sf (kAt (plK P) y)) (hwF : wF = wFo li cf c10 ch wf p sF) (hf : FrO s0 sf) (hp : p < 16) (hpa : paV yf Rl sF = nI p) (hy : y < (plK P).length) (hch : ch ≤ 4) (hNb : 0 < y → 4 + y < Nb) : SpR s0 li cf yf Rl c10 ch (plK z.2.1) z.1.2.2.2.2 z.1.1.2.2 z.2.2.1 (y + 1) (fun j => if j < y then Bd j else (plK z.2.1).length) := by
  obtain ⟨⟨_, ⟨L, hL⟩, _⟩, ⟨_, _, _, b1, b2, b3⟩, _, ⟨_, _, p1, p2, p3⟩, _⟩ := hz
  have hmv : SpR s0 li cf yf Rl c10 ch (plK z.2.1) z.1.2.2.2.2 z.1.1.2.2 u y Bd := by
    rw [hL]
    refine h.mv p2 (fun j hj => ⟨b1 _ (by have := hNb (by omega); omega) (by omega) (by omega), ?_⟩) (by omega)
    by_cases hjy : j + 1 = y
    · obtain ⟨e, ⟨s, wf', p', j0, _, _, _, _, e5, _, _, _⟩, _, e10⟩ := h.1 j hj
      rw [show 4 + j + 1 = 4 + y by omega, b2]
      rw [show 4 + j + 1 = 4 + y by omega, e10 hjy] at e5
      exact e5.symm
    · exact b1 _ (by have := hNb (by omega); omega) (by omega) (by omega)
  have hol : (osL wF ch (nOf sF)).length * (1 + ch) ≤ 60 := by
    have h1 := osL_len wF ch (nOf sF)
    have h2 : nOf sF ≤ 12 := by
      unfold nOf
      by_cases h6 : sF 6 = 0
      · rw [if_pos h6]; omega
      · rw [if_neg h6]; omega
    have h3 : (osL wF ch (nOf sF)).length * (1 + ch) ≤ 12 * (1 + ch) := Nat.mul_le_mul_right _ (by omega)
    omega
  refine ⟨fun j hj => ?_, by have := h.2.1; omega, fun j hj => ?_⟩
  · dsimp only
    by_cases hjy : j < y
    · obtain ⟨e, h1, h2, h3⟩ := hmv.1 j hjy
      rw [if_pos hjy]
      exact ⟨e, h1, by omega, fun h4 => by omega⟩
    · have hje : j = y := by omega
      subst hje
      rw [if_neg hjy]
      have hk : kAt (plK z.2.1) j = kAt (plK P) j := by rw [hL, kAt_ext hy]
      refine ⟨z.2.2.1, ⟨sf, wf, p, u, hf, hp, ?_, b2, b3, ?_, ?_, ?_⟩, Nat.le_refl _, fun _ => rfl⟩
      · rw [hk, ← hsF]; exact hpa
      · rw [hk, ← hsF, ← hwF]; exact p1
      · rw [hk, ← hsF, ← hwF]; exact p3
      · rw [hk, ← hsF, ← hwF, List.take_length]; exact p3.2
  · show (if j < y then Bd j else (plK z.2.1).length) ≤ _
    by_cases hjy : j < y
    · rw [if_pos hjy]
      exact hmv.2.2 j hjy
    · rw [if_neg hjy]
      exact Nat.le_refl _
/-- levels: how many places there are when level d is spread -/
def LvO (ef : Sc) (D Bd : Nat → Nat) (d y : Nat) : Prop := (∀ d', d' < d → ef d' = nI (4 + D d') ∧ D d' ≤ y) ∧ (∀ d', d' + 1 < d → D d' ≤ D (d' + 1) ∧ ∀ j, j < D d' → Bd j ≤ D (d' + 1)) ∧ (0 < d → D (d - 1) = y) ∧ (d = 0 → y = 0)
def TkL (s0 li : Sc) (tk : Int32) (K : List Int32) (tf : Sc) (D : Nat → Nat) (d : Nat) : Prop := ∀ d', d' < d → ∀ j, j < D d' → ∃ s, FrO s0 s ∧ tf (4 + j) = nI (plc K (tgB li tk s (kAt K j))) ∧ tIn (K.take (D d')) (tgB li tk s (kAt K j))
theorem tIn_mono {K : List Int32} {a b : Nat} {t : Nat ⊕ Int32} (hab : a ≤ b) (h : tIn (K.take a) t) : tIn (K.take b) t := by
  cases t with
  | inl w => exact h
  | inr k =>
    have h : k ∈ K.take a := h
    show k ∈ K.take b
    have e : K.take a = (K.take b).take a := by rw [List.take_take, Nat.min_eq_left hab]
    rw [e] at h
    exact List.mem_of_mem_take h
theorem tIn_take {K : List Int32} {a : Nat} {t : Nat ⊕ Int32} (h : tIn (K.take a) t) : tIn K t := by
  cases t with
  | inl w => exact h
  | inr k => exact List.mem_of_mem_take h

