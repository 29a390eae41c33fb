/-! ===== Odds: what its rows come to ===== -/
def moW (f : Nat → Int32) : Nat → Int32
  | 0 => 0
  | c + 1 => iMax (moW f c) (f c)
theorem moV_W {vf : Sc} {E : List (Nat × Sc)} {f : Nat → Int32} : ∀ ch, (∀ c, c < ch → wgV c vf E = f c) → moV vf E ch = moW f ch
  | 0, _ => rfl
  | c + 1, h => by
    rw [moV, moW, moV_W c (fun c' hc' => h c' (by omega)), h c (by omega)]
/-- where a step leads: an end of the game, or a score with a rally less -/
def rvT (cnt : Int32) (f : Int32 → Int32) : Nat ⊕ Int32 → Int32
  | .inl w => eV cnt w
  | .inr k => f k
/-- the values of one rally from a good key's score, by each choice -/
def StH (GK : Int32 → Prop) (s0 li cf yf : Sc) (Rl : Nat → RLs) (c10 : Int32) (ch : Nat) (cnt : Int32) (f : Int32 → Int32) (w : Int32 → Nat → Int32) : Prop :=
  ∀ (s wf vf : Sc) (k : Int32) (p : Nat) (K : List Int32), FrO s0 s → GK k → p < 16 → paV yf Rl (sBec s k) = nI p →
    (∀ o ∈ osL (wFo li cf c10 ch wf p (sBec s k)) ch (nOf (sBec s k)), vf (plc K (tgt (sBec s k) (bhS (sBec s k) li o))) = rvT cnt f (tgt (sBec s k) (bhS (sBec s k) li o))) →
    ∀ c, c < ch → wgV c vf ((osL (wFo li cf c10 ch wf p (sBec s k)) ch (nOf (sBec s k))).map (enE K (sBec s k) li (wFo li cf c10 ch wf p (sBec s k)))) = w k c
/-- what an entry list comes to -/
def EvH (cnt : Int32) (ch : Nat) (F : Nat → Int32 → Int32) (W : Nat → Int32 → Nat → Int32) (K : List Int32) (B : Nat) (k : Int32) (E : List (Nat × Sc)) : Prop :=
  ∀ (i : Nat) (vf : Sc), (∀ t, tIn (K.take B) t → vf (plc K t) = rvT cnt (F i) t) → ∀ c, c < ch → wgV c vf E = W i k c
theorem tIn_idx {K : List Int32} {B : Nat} {k : Int32} (h : k ∈ K.take B) (hn : K.Nodup) : K.idxOf k < B ∧ K.idxOf k < K.length ∧ kAt K (K.idxOf k) = k := by
  have hm : k ∈ K := List.mem_of_mem_take h
  have h1 : K.idxOf k < K.length := List.idxOf_lt_length_iff.mpr hm
  have e : kAt K (K.idxOf k) = k := by
    unfold kAt
    rw [List.getD, List.getElem?_eq_getElem h1, Option.getD_some]
    exact List.getElem_idxOf h1
  refine ⟨?_, h1, e⟩
  obtain ⟨z, hz, hz2⟩ := List.mem_iff_getElem.mp h
  have hz3 : z < B ∧ z < K.length := by
    rw [List.length_take] at hz
    omega
  have e2 : kAt K z = k := by
    unfold kAt
    rw [List.getD, List.getElem?_eq_getElem hz3.2, Option.getD_some, ← hz2, List.getElem_take]
  have := kAt_inj hn h1 hz3.2 (e.trans e2.symm)
  omega
/-- the entries of all that was spread, and what they come to -/
theorem od_ent {GK : Int32 → Prop} {s0 li cf yf : Sc} {Rl : Nat → RLs} {c10 cnt : Int32} {ch u y Nb Np : Nat} {K : List Int32} {pf bf : Sc} {Bd : Nat → Nat} {F : Nat → Int32 → Int32} {W : Nat → Int32 → Nat → Int32} (hR : SpR s0 li cf yf Rl c10 ch K pf bf u y Bd) (hG : ∀ k ∈ K, GK k) (hy : y ≤ K.length) (hu : u ≤ Np) (hNb : K.length + 5 ≤ Nb) (hS : ∀ i, StH GK s0 li cf yf Rl c10 ch cnt (F i) (W i)) : ∃ E : Nat → List (Nat × Sc), ∀ j, j < y → EnO ch Nb Np (4 + K.length) bf pf (E (4 + j)) (4 + j) ∧ EvH cnt ch F W K (Bd j) (kAt K j) (E (4 + j)) := by
  have h1 : ∀ j, j < y → ∃ E, EnO ch Nb Np (4 + K.length) bf pf E (4 + j) ∧ EvH cnt ch F W K (Bd j) (kAt K j) E := by
    intro j hj
    obtain ⟨e, ⟨s, wf, p, j0, a1, a2, a3, a4, a5, a6, a7, a8⟩, b2, b3⟩ := hR.1 j hj
    refine ⟨(osL (wFo li cf c10 ch wf p (sBec s (kAt K j))) ch (nOf (sBec s (kAt K j)))).map (enE K (sBec s (kAt K j)) li (wFo li cf c10 ch wf p (sBec s (kAt K j)))), ⟨j0, a4, ?_, a7.1, ?_, by omega⟩, ?_⟩
    · rw [List.length_map, ← a6]; exact a5
    · rw [List.length_map, ← a6]; omega
    · intro i vf hv c hc
      exact hS i s wf vf (kAt K j) p K a1 (hG _ (kAt_mem (by omega))) a2 a3 (fun o ho => hv _ (a8 o ho)) c hc
  have h2 : ∀ j, ∃ E : List (Nat × Sc), j < y → EnO ch Nb Np (4 + K.length) bf pf E (4 + j) ∧ EvH cnt ch F W K (Bd j) (kAt K j) E := by
    intro j
    by_cases hj : j < y
    · obtain ⟨E, hE⟩ := h1 j hj
      exact ⟨E, fun _ => hE⟩
    · exact ⟨[], fun h => absurd h hj⟩
  obtain ⟨f, hf⟩ := Classical.axiomOfChoice h2
  refine ⟨fun p => f (p - 4), fun j hj => ?_⟩
  show EnO ch Nb Np (4 + K.length) bf pf (f (4 + j - 4)) (4 + j) ∧ EvH cnt ch F W K (Bd j) (kAt K j) (f (4 + j - 4))
  rw [show 4 + j - 4 = j by omega]
  exact hf j hj
theorem cp_lt {f h : Sc} {n k : Nat} (hk : k < n) : cp f h n k = h k := if_pos hk
theorem cp_ge {f h : Sc} {n k : Nat} (hk : ¬ k < n) : cp f h n k = f k := if_neg hk
/-- the rows, level by level -/
theorem od_lev {cnt : Int32} {ch n y : Nat} {K : List Int32} {ef : Sc} {D Bd : Nat → Nat} {F : Nat → Int32 → Int32} {W : Nat → Int32 → Nat → Int32} {E : Nat → List (Nat × Sc)} (hn : K.Nodup) (hL : LvO ef D Bd n y) (hy : y ≤ K.length) (hB : ∀ j, j < y → Bd j ≤ K.length) (hE : ∀ j, j < y → EvH cnt ch F W K (Bd j) (kAt K j) (E (4 + j))) (hF0 : ∀ k, F 0 k = 0) (hF : ∀ i k, k ∈ K → F (i + 1) k = moW (W i k) ch) (u1 v1 : Sc) :
    ∀ i, i ≤ n → (∀ w, w < 4 → (lvS E ch (fun k => 4 + D (n - (k + 1))) i (lv0 u1 v1 cnt K.length)).1 w = eV cnt w ∧ (lvS E ch (fun k => 4 + D (n - (k + 1))) i (lv0 u1 v1 cnt K.length)).2 w = eV cnt w) ∧ (∀ j, (i = 0 ∧ j < K.length ∨ 0 < i ∧ j < D (n - i)) → (lvS E ch (fun k => 4 + D (n - (k + 1))) i (lv0 u1 v1 cnt K.length)).2 (4 + j) = F i (kAt K j)) ∧ (0 < i → ∀ j, j < D (n - i) → ∀ c, c < ch → wgV c (lvS E ch (fun k => 4 + D (n - (k + 1))) i (lv0 u1 v1 cnt K.length)).1 (E (4 + j)) = W (i - 1) (kAt K j) c)
  | 0, _ => by
    refine ⟨fun w hw => ⟨cp_lt hw, cp_lt hw⟩, fun j hj => ?_, fun h => absurd h (Nat.lt_irrefl _)⟩
    have hj2 : j < K.length := by omega
    show cp (cpA v1 (fun _ => 0) 4 (4 + K.length)) (eV cnt) 4 (4 + j) = _
    rw [cp_ge (by omega), hF0]
    exact if_pos ⟨by omega, by omega⟩
  | i + 1, hi => by
    obtain ⟨g1, g2, g3⟩ := od_lev hn hL hy hB hE hF0 hF u1 v1 i (by omega)
    have hs : lvS E ch (fun k => 4 + D (n - (k + 1))) (i + 1) (lv0 u1 v1 cnt K.length) = ((lvS E ch (fun k => 4 + D (n - (k + 1))) i (lv0 u1 v1 cnt K.length)).2, cpA (lvS E ch (fun k => 4 + D (n - (k + 1))) i (lv0 u1 v1 cnt K.length)).1 (fun p => moV (lvS E ch (fun k => 4 + D (n - (k + 1))) i (lv0 u1 v1 cnt K.length)).2 (E p) ch) 4 (4 + D (n - (i + 1)))) := rfl
    rw [hs]
    generalize lvS E ch (fun k => 4 + D (n - (k + 1))) i (lv0 u1 v1 cnt K.length) = x at *
    obtain ⟨x1, x2⟩ := x
    dsimp only at *
    have hD := hL.1 (n - (i + 1)) (by omega)
    have hW : ∀ j, j < D (n - (i + 1)) → ∀ c, c < ch → wgV c x2 (E (4 + j)) = W i (kAt K j) c := by
      intro j hj
      refine hE j (by omega) i x2 fun t ht => ?_
      cases t with
      | inl w => exact (g1 w ht).2
      | inr k =>
        obtain ⟨b1, b2, b3⟩ := tIn_idx (k := k) ht hn
        show x2 (4 + K.idxOf k) = F i k
        rw [g2 (K.idxOf k) ?_, b3]
        by_cases hi0 : i = 0
        · exact Or.inl ⟨hi0, b2⟩
        · refine Or.inr ⟨by omega, ?_⟩
          have := (hL.2.1 (n - (i + 1)) (by omega)).2 j hj
          rw [show n - (i + 1) + 1 = n - i by omega] at this
          omega
    refine ⟨fun w hw => ⟨(g1 w hw).2, ?_⟩, fun j hj => ?_, fun _ j hj c hc => hW j hj c hc⟩
    · show (if 4 ≤ w ∧ w < 4 + D (n - (i + 1)) then moV x2 (E w) ch else x1 w) = _
      rw [if_neg (by omega)]
      exact (g1 w hw).1
    · have hj2 : j < D (n - (i + 1)) := by omega
      show (if 4 ≤ 4 + j ∧ 4 + j < 4 + D (n - (i + 1)) then moV x2 (E (4 + j)) ch else x1 (4 + j)) = _
      rw [if_pos ⟨by omega, by omega⟩, moV_W ch (hW j hj2), hF i (kAt K j) (kAt_mem (by omega))]
/-- a run of Odds without a taker: what weighAll wants, and the values that come out at the places of the beginning -/
theorem od_run {GK : Int32 → Prop} {s0 li cf yf : Sc} {Rl : Nat → RLs} {c10 : Int32} {ch n : Nat} {P : PlS} {PL : List RuR} {z : SaS} (hz : SaO GK s0 li cf yf Rl c10 ch (-1) n P PL z) : ∃ (U : Nat → Nat) (um : Nat), (∀ k, k < n → z.2.2.2.1.2.2.2 (n - (k + 1)) = nI (U k) ∧ 4 ≤ U k ∧ U k ≤ um) ∧ um ≤ 4 + (plK z.2.1).length ∧ ∀ (cnt : Int32) (F : Nat → Int32 → Int32) (W : Nat → Int32 → Nat → Int32), (∀ i, StH GK s0 li cf yf Rl c10 ch cnt (F i) (W i)) → (∀ k, F 0 k = 0) → (∀ i k, GK k → F (i + 1) k = moW (W i k) ch) → ∃ E : Nat → List (Nat × Sc), (∀ p, 4 ≤ p → p < um → EnO ch z.1.1.2.1 z.1.2.2.2.1 (4 + (plK z.2.1).length) z.1.1.2.2 z.1.2.2.2.2 (E p) p) ∧ ∀ (u1 v1 : Sc) (j : Nat), j < (plK P).length → (lvS E ch U n (lv0 u1 v1 cnt (plK z.2.1).length)).2 (4 + j) = F n (kAt (plK P) j) ∧ (0 < n → 4 + j < um ∧ ∀ c, c < ch → wgV c (lvS E ch U n (lv0 u1 v1 cnt (plK z.2.1).length)).1 (E (4 + j)) = W (n - 1) (kAt (plK P) j) c) := by
  obtain ⟨⟨hPB, ⟨L, hKL⟩, hGK⟩, ⟨hb1, hb2⟩, _, ⟨hpo, hu⟩, hf, hsp, D, Bd, y, hy, hR, hL, _, hD0⟩ := hz
  have hnd := hPB.1.2.1.2.1
  have hKN := hPB.1.2.1.1
  have hu60 := hR.2.1
  refine ⟨fun k => 4 + D (n - (k + 1)), 4 + y, fun k hk => ?_, by omega, fun cnt F W hS hF0 hF => ?_⟩
  · have := hL.1 (n - (k + 1)) (by omega)
    exact ⟨this.1, by show 4 ≤ 4 + D (n - (k + 1)); omega, by show 4 + D (n - (k + 1)) ≤ 4 + y; omega⟩
  · obtain ⟨E, hE⟩ := od_ent (F := F) (W := W) (Nb := z.1.1.2.1) (Np := z.1.2.2.2.1) hR hGK hy hu (by omega) hS
    refine ⟨E, fun p h1 h2 => ?_, fun u1 v1 j hj => ?_⟩
    · have := (hE (p - 4) (by omega)).1
      rw [show 4 + (p - 4) = p by omega] at this
      exact this
    · obtain ⟨_, g2, g3⟩ := od_lev (u1 := u1) (v1 := v1) hnd hL hy hR.2.2 (fun j hj => (hE j hj).2) hF0 (fun i k hk => hF i k (hGK k hk)) n (Nat.le_refl _)
      have ek : kAt (plK z.2.1) j = kAt (plK P) j := by rw [hKL, kAt_ext hj]
      have hjl : j < (plK z.2.1).length := by rw [hKL, List.length_append]; omega
      refine ⟨?_, fun h0 => ?_⟩
      · rw [← ek]
        refine g2 j ?_
        rcases Nat.eq_zero_or_pos n with e | e
        · exact Or.inl ⟨e, hjl⟩
        · refine Or.inr ⟨e, ?_⟩
          have := hD0 e
          rw [Nat.sub_self]
          omega
      · have h1 := hD0 h0
        have h2 := (hL.1 0 h0).2
        refine ⟨by omega, fun c hc => ?_⟩
        rw [← ek]
        exact g3 h0 j (by rw [Nat.sub_self]; omega) c hc

