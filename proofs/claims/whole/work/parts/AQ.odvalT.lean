/-! ===== Odds with a taker: what its rows come to; ChaseCourt.saves ===== -/
/-- the rows with a taker, level by level -/
theorem od_levT {cnt : Int32} {ch n y : Nat} {K : List Int32} {ef : Sc} {D Bd tk : Nat → Nat} {F G : Nat → Int32 → Int32} {W X : Nat → Int32 → Nat → Int32} {TV : Nat → Int32 → Int32} {E : Nat → List (Nat × Sc)} (hn : K.Nodup) (hL : LvO ef D Bd n y) (hy : y ≤ K.length) (hE : ∀ j, j < y → EvH cnt ch F W K (Bd j) (kAt K j) (E (4 + j))) (hE2 : ∀ j, j < y → EvH cnt ch G X K (Bd j) (kAt K j) (E (4 + j))) (hT : ∀ d, d < n → ∀ j, j < D d → ∃ t, tk (4 + j) = plc K t ∧ tIn (K.take (D d)) t ∧ ∀ i, rvT cnt (F i) t = TV i (kAt K j)) (hF0 : ∀ k, F 0 k = 0) (hG0 : ∀ k, G 0 k = 0) (hF : ∀ i k, k ∈ K → F (i + 1) k = moW (W i k) ch) (hG : ∀ i k, k ∈ K → G (i + 1) k = iMax (moW (X i k) ch) (TV (i + 1) k)) (u1 v1 u2 v2 : Sc) :
    ∀ i, i ≤ n → (∀ w, w < 4 → ((lvT E ch (fun k => 4 + D (n - (k + 1))) tk i (lv0 u1 v1 cnt K.length, lv0 u2 v2 cnt K.length)).1.1 w = eV cnt w ∧ (lvT E ch (fun k => 4 + D (n - (k + 1))) tk i (lv0 u1 v1 cnt K.length, lv0 u2 v2 cnt K.length)).1.2 w = eV cnt w) ∧ (lvT E ch (fun k => 4 + D (n - (k + 1))) tk i (lv0 u1 v1 cnt K.length, lv0 u2 v2 cnt K.length)).2.1 w = eV cnt w ∧ (lvT E ch (fun k => 4 + D (n - (k + 1))) tk i (lv0 u1 v1 cnt K.length, lv0 u2 v2 cnt K.length)).2.2 w = eV cnt w) ∧ (∀ j, (i = 0 ∧ j < K.length ∨ 0 < i ∧ j < D (n - i)) → (lvT E ch (fun k => 4 + D (n - (k + 1))) tk i (lv0 u1 v1 cnt K.length, lv0 u2 v2 cnt K.length)).1.2 (4 + j) = F i (kAt K j) ∧ (lvT E ch (fun k => 4 + D (n - (k + 1))) tk i (lv0 u1 v1 cnt K.length, lv0 u2 v2 cnt K.length)).2.2 (4 + j) = G i (kAt K j)) ∧ (0 < i → ∀ j, j < D (n - i) → (∀ c, c < ch → wgV c (lvT E ch (fun k => 4 + D (n - (k + 1))) tk i (lv0 u1 v1 cnt K.length, lv0 u2 v2 cnt K.length)).2.1 (E (4 + j)) = X (i - 1) (kAt K j) c) ∧ (lvT E ch (fun k => 4 + D (n - (k + 1))) tk i (lv0 u1 v1 cnt K.length, lv0 u2 v2 cnt K.length)).1.2 (tk (4 + j)) = TV i (kAt K j))
  | 0, _ => by
    refine ⟨fun w hw => ⟨⟨cp_lt hw, cp_lt hw⟩, cp_lt hw, cp_lt hw⟩, fun j hj => ?_, fun h => absurd h (Nat.lt_irrefl _)⟩
    have hj2 : j < K.length := by omega
    refine ⟨?_, ?_⟩
    · show cp (cpA v1 (fun _ => 0) 4 (4 + K.length)) (eV cnt) 4 (4 + j) = _
      rw [cp_ge (by omega), hF0]
      exact if_pos ⟨by omega, by omega⟩
    · show cp (cpA v2 (fun _ => 0) 4 (4 + K.length)) (eV cnt) 4 (4 + j) = _
      rw [cp_ge (by omega), hG0]
      exact if_pos ⟨by omega, by omega⟩
  | i + 1, hi => by
    obtain ⟨g1, g2, g3⟩ := od_levT hn hL hy hE hE2 hT hF0 hG0 hF hG u1 v1 u2 v2 i (by omega)
    have hs : lvT E ch (fun k => 4 + D (n - (k + 1))) tk (i + 1) (lv0 u1 v1 cnt K.length, lv0 u2 v2 cnt K.length) = (((lvT E ch (fun k => 4 + D (n - (k + 1))) tk i (lv0 u1 v1 cnt K.length, lv0 u2 v2 cnt K.length)).1.2, lvN E ch (4 + D (n - (i + 1))) (lvT E ch (fun k => 4 + D (n - (k + 1))) tk i (lv0 u1 v1 cnt K.length, lv0 u2 v2 cnt K.length)).1), ((lvT E ch (fun k => 4 + D (n - (k + 1))) tk i (lv0 u1 v1 cnt K.length, lv0 u2 v2 cnt K.length)).2.2, cpA (lvT E ch (fun k => 4 + D (n - (k + 1))) tk i (lv0 u1 v1 cnt K.length, lv0 u2 v2 cnt K.length)).2.1 (fun p => iMax (moV (lvT E ch (fun k => 4 + D (n - (k + 1))) tk i (lv0 u1 v1 cnt K.length, lv0 u2 v2 cnt K.length)).2.2 (E p) ch) (lvN E ch (4 + D (n - (i + 1))) (lvT E ch (fun k => 4 + D (n - (k + 1))) tk i (lv0 u1 v1 cnt K.length, lv0 u2 v2 cnt K.length)).1 (tk p))) 4 (4 + D (n - (i + 1))))) := rfl
    rw [hs]
    generalize lvT E ch (fun k => 4 + D (n - (k + 1))) tk i (lv0 u1 v1 cnt K.length, lv0 u2 v2 cnt K.length) = x at *
    obtain ⟨⟨x1, x2⟩, x3, x4⟩ := x
    dsimp only at *
    have hD := hL.1 (n - (i + 1)) (by omega)
    have hix : ∀ j, j < D (n - (i + 1)) → ∀ k, k ∈ K.take (Bd j) → x2 (4 + K.idxOf k) = F i k ∧ x4 (4 + K.idxOf k) = G i k := by
      intro j hj k hk
      obtain ⟨b1, b2, b3⟩ := tIn_idx (k := k) hk hn
      have := g2 (K.idxOf k) (by
        by_cases hi0 : i = 0
        · exact Or.inl ⟨hi0, b2⟩
        · refine Or.inr ⟨by omega, ?_⟩
          have := (hL.2.1 (n - (i + 1)) (by omega)).2 j hj
          rw [show n - (i + 1) + 1 = n - i by omega] at this
          omega)
      rw [b3] at this
      exact this
    have hW : ∀ j, j < D (n - (i + 1)) → ∀ c, c < ch → wgV c x2 (E (4 + j)) = W i (kAt K j) c := by
      intro j hj
      refine hE j (by omega) i x2 fun t ht => ?_
      cases t with
      | inl w => exact (g1 w ht).1.2
      | inr k => exact (hix j hj k ht).1
    have hX : ∀ j, j < D (n - (i + 1)) → ∀ c, c < ch → wgV c x4 (E (4 + j)) = X i (kAt K j) c := by
      intro j hj
      refine hE2 j (by omega) i x4 fun t ht => ?_
      cases t with
      | inl w => exact (g1 w ht).2.2
      | inr k => exact (hix j hj k ht).2
    have hN4 : ∀ w, w < 4 → lvN E ch (4 + D (n - (i + 1))) (x1, x2) w = eV cnt w := fun w hw => by
      show (if 4 ≤ w ∧ w < 4 + D (n - (i + 1)) then moV x2 (E w) ch else x1 w) = _
      rw [if_neg (by omega)]
      exact (g1 w hw).1.1
    have hNj : ∀ j, j < D (n - (i + 1)) → lvN E ch (4 + D (n - (i + 1))) (x1, x2) (4 + j) = F (i + 1) (kAt K j) := fun j hj => by
      show (if 4 ≤ 4 + j ∧ 4 + j < 4 + D (n - (i + 1)) then moV x2 (E (4 + j)) ch else x1 (4 + j)) = _
      rw [if_pos ⟨by omega, by omega⟩, moV_W ch (hW j hj), hF i (kAt K j) (kAt_mem (by omega))]
    have hNt : ∀ j, j < D (n - (i + 1)) → lvN E ch (4 + D (n - (i + 1))) (x1, x2) (tk (4 + j)) = TV (i + 1) (kAt K j) := fun j hj => by
      obtain ⟨t, t1, t2, t3⟩ := hT (n - (i + 1)) (by omega) j hj
      rw [t1, ← t3 (i + 1)]
      cases t with
      | inl w => exact hN4 w t2
      | inr k =>
        obtain ⟨b1, b2, b3⟩ := tIn_idx (k := k) t2 hn
        show lvN E ch (4 + D (n - (i + 1))) (x1, x2) (4 + K.idxOf k) = F (i + 1) k
        rw [hNj _ b1, b3]
    refine ⟨fun w hw => ⟨⟨(g1 w hw).1.2, hN4 w hw⟩, (g1 w hw).2.2, ?_⟩, fun j hj => ?_, fun _ j hj => ⟨fun c hc => hX j hj c hc, hNt j hj⟩⟩
    · show (if 4 ≤ w ∧ w < 4 + D (n - (i + 1)) then _ else x3 w) = _
      rw [if_neg (by omega)]
      exact (g1 w hw).2.1
    · have hj2 : j < D (n - (i + 1)) := by omega
      refine ⟨hNj j hj2, ?_⟩
      show (if 4 ≤ 4 + j ∧ 4 + j < 4 + D (n - (i + 1)) then iMax (moV x4 (E (4 + j)) ch) (lvN E ch (4 + D (n - (i + 1))) (x1, x2) (tk (4 + j))) else x3 (4 + j)) = _
      rw [if_pos ⟨by omega, by omega⟩, moV_W ch (hX j hj2), hNt j hj2, hG i (kAt K j) (kAt_mem (by omega))]
/-- a run of Odds with a taker -/
theorem od_runT {GK : Int32 → Prop} {s0 li cf yf : Sc} {Rl : Nat → RLs} {c10 tk : Int32} {ch n : Nat} {P : PlS} {PL : List RuR} {z : SaS} (htk : ¬ tk = -1) (hn0 : 0 < n) (hz : SaO GK s0 li cf yf Rl c10 ch tk n P PL z) (cnt : Int32) (F G : Nat → Int32 → Int32) (W X : Nat → Int32 → Nat → Int32) (TV : Nat → Int32 → Int32) (hS : ∀ i, StH GK s0 li cf yf Rl c10 ch cnt (F i) (W i)) (hS2 : ∀ i, StH GK s0 li cf yf Rl c10 ch cnt (G i) (X i)) (hTV : ∀ s k i, FrO s0 s → GK k → rvT cnt (F i) (tgB li tk s k) = TV i k) (hF0 : ∀ k, F 0 k = 0) (hG0 : ∀ k, G 0 k = 0) (hF : ∀ i k, GK k → F (i + 1) k = moW (W i k) ch) (hG : ∀ i k, GK k → G (i + 1) k = iMax (moW (X i k) ch) (TV (i + 1) k)) : ∃ (U T : Nat → Nat) (um : Nat) (E : Nat → List (Nat × Sc)), (∀ k, k < n → z.2.2.2.1.2.2.2 (n - (k + 1)) = nI (U k) ∧ 4 ≤ U k ∧ U k ≤ um) ∧ um ≤ 4 + (plK z.2.1).length ∧ (∀ p, 4 ≤ p → p < um → EnO ch z.1.1.2.1 z.1.2.2.2.1 (4 + (plK z.2.1).length) z.1.1.2.2 z.1.2.2.2.2 (E p) p) ∧ (∀ p, 4 ≤ p → p < um → z.1.2.1.2.2 p = nI (T p) ∧ T p < 4 + (plK z.2.1).length) ∧ ∀ (u1 v1 u2 v2 : Sc) (j : Nat), j < (plK P).length → (lvT E ch U T n (lv0 u1 v1 cnt (plK z.2.1).length, lv0 u2 v2 cnt (plK z.2.1).length)).1.2 (4 + j) = F n (kAt (plK P) j) ∧ (lvT E ch U T n (lv0 u1 v1 cnt (plK z.2.1).length, lv0 u2 v2 cnt (plK z.2.1).length)).2.2 (4 + j) = G n (kAt (plK P) j) ∧ 4 + j < um ∧ (∀ c, c < ch → wgV c (lvT E ch U T n (lv0 u1 v1 cnt (plK z.2.1).length, lv0 u2 v2 cnt (plK z.2.1).length)).2.1 (E (4 + j)) = X (n - 1) (kAt (plK P) j) c) ∧ (lvT E ch U T n (lv0 u1 v1 cnt (plK z.2.1).length, lv0 u2 v2 cnt (plK z.2.1).length)).1.2 (T (4 + j)) = TV n (kAt (plK P) j) := by
  obtain ⟨⟨hPB, ⟨L, hKL⟩, hGK⟩, ⟨hb1, hb2⟩, _, ⟨hpo, hu⟩, hf, hsp, D, Bd, y, hy, hR, hL, hTk, hD0⟩ := hz
  have hTk := hTk htk
  have hD0 := hD0 hn0
  have hnd := hPB.1.2.1.2.1
  have hKN := hPB.1.2.1.1
  have hyD : D (n - 1) = y := hL.2.2.1 hn0
  have h1 : ∀ j, ∃ E : List (Nat × Sc), j < y → EnO ch z.1.1.2.1 z.1.2.2.2.1 (4 + (plK z.2.1).length) z.1.1.2.2 z.1.2.2.2.2 E (4 + j) ∧ EvH cnt ch F W (plK z.2.1) (Bd j) (kAt (plK z.2.1) j) E ∧ EvH cnt ch G X (plK z.2.1) (Bd j) (kAt (plK z.2.1) j) E := by
    intro j
    by_cases hj : j < y
    · obtain ⟨e, ⟨s, wf, p, j0, a1, a2, a3, a4, a5, a6, a7, a8⟩, b2, b3⟩ := hR.1 j hj
      refine ⟨(osL (wFo li cf c10 ch wf p (sBec s (kAt (plK z.2.1) j))) ch (nOf (sBec s (kAt (plK z.2.1) j)))).map (enE (plK z.2.1) (sBec s (kAt (plK z.2.1) j)) li (wFo li cf c10 ch wf p (sBec s (kAt (plK z.2.1) j)))), fun _ => ⟨⟨j0, a4, ?_, a7.1, ?_, by omega⟩, ?_, ?_⟩⟩
      · rw [List.length_map, ← a6]; exact a5
      · rw [List.length_map, ← a6]; omega
      · intro i vf hv c hc
        exact hS i s wf vf _ p _ a1 (hGK _ (kAt_mem (by omega))) a2 a3 (fun o ho => hv _ (a8 o ho)) c hc
      · intro i vf hv c hc
        exact hS2 i s wf vf _ p _ a1 (hGK _ (kAt_mem (by omega))) a2 a3 (fun o ho => hv _ (a8 o ho)) c hc
    · exact ⟨[], fun h => absurd h hj⟩
  obtain ⟨f, hf9⟩ := Classical.axiomOfChoice h1
  have hE : ∀ j, j < y → EnO ch z.1.1.2.1 z.1.2.2.2.1 (4 + (plK z.2.1).length) z.1.1.2.2 z.1.2.2.2.2 (f (4 + j - 4)) (4 + j) ∧ EvH cnt ch F W (plK z.2.1) (Bd j) (kAt (plK z.2.1) j) (f (4 + j - 4)) ∧ EvH cnt ch G X (plK z.2.1) (Bd j) (kAt (plK z.2.1) j) (f (4 + j - 4)) := by
    intro j hj
    rw [show 4 + j - 4 = j by omega]
    exact hf9 j hj
  have hTt : ∀ d, d < n → ∀ j, j < D d → ∃ t, (z.1.2.1.2.2 (4 + j)).toNatClampNeg = plc (plK z.2.1) t ∧ z.1.2.1.2.2 (4 + j) = nI (plc (plK z.2.1) t) ∧ tIn ((plK z.2.1).take (D d)) t ∧ ∀ i, rvT cnt (F i) t = TV i (kAt (plK z.2.1) j) := by
    intro d hd j hj
    obtain ⟨s, e1, e2, e3⟩ := hTk d hd j hj
    have hj2 := (hL.1 d hd).2
    refine ⟨tgB li tk s (kAt (plK z.2.1) j), ?_, e2, e3, fun i => hTV s _ i e1 (hGK _ (kAt_mem (by omega)))⟩
    rw [e2]
    refine nI_clamp ?_
    have hlt : plc (plK z.2.1) (tgB li tk s (kAt (plK z.2.1) j)) < 4 + (plK z.2.1).length := by
      have e4 := tIn_take e3
      generalize tgB li tk s (kAt (plK z.2.1) j) = t at *
      cases t with
      | inl w => show w < _; have : w < 4 := e4; omega
      | inr k => show 4 + (plK z.2.1).idxOf k < _; have := List.idxOf_lt_length_iff.mpr (show k ∈ plK z.2.1 from e4); omega
    have := hPB.2.1
    omega
  refine ⟨fun k => 4 + D (n - (k + 1)), fun p => (z.1.2.1.2.2 p).toNatClampNeg, 4 + y, fun p => f (p - 4), fun k hk => ?_, by omega, fun p h1 h2 => ?_, fun p h1 h2 => ?_, fun u1 v1 u2 v2 j hj => ?_⟩
  · have := hL.1 (n - (k + 1)) (by omega)
    exact ⟨this.1, by show 4 ≤ 4 + D (n - (k + 1)); omega, by show 4 + D (n - (k + 1)) ≤ 4 + y; omega⟩
  · have := (hE (p - 4) (by omega)).1
    rw [show 4 + (p - 4) = p by omega] at this
    exact this
  · obtain ⟨t, t1, t2, t3, _⟩ := hTt (n - 1) (by omega) (p - 4) (by omega)
    rw [show 4 + (p - 4) = p by omega] at t1 t2
    show z.1.2.1.2.2 p = nI (z.1.2.1.2.2 p).toNatClampNeg ∧ (z.1.2.1.2.2 p).toNatClampNeg < 4 + (plK z.2.1).length
    refine ⟨by rw [t1]; exact t2, ?_⟩
    rw [t1]
    have e4 := tIn_take t3
    cases t with
    | inl w => show w < _; have : w < 4 := e4; omega
    | inr k => show 4 + (plK z.2.1).idxOf k < _; have := List.idxOf_lt_length_iff.mpr (show k ∈ plK z.2.1 from e4); omega
  · obtain ⟨_, g2, g3⟩ := od_levT (E := fun p => f (p - 4)) (tk := fun p => (z.1.2.1.2.2 p).toNatClampNeg) (F := F) (G := G) (W := W) (X := X) (TV := TV) (u1 := u1) (v1 := v1) (u2 := u2) (v2 := v2) hnd hL hy (fun j hj => (hE j hj).2.1) (fun j hj => (hE j hj).2.2) (fun d hd j hj => by obtain ⟨t, t1, _, t3, t4⟩ := hTt d hd j hj; exact ⟨t, t1, t3, t4⟩) hF0 hG0 (fun i k hk => hF i k (hGK k hk)) (fun i k hk => hG i k (hGK k hk)) n (Nat.le_refl _)
    have ek : kAt (plK z.2.1) j = kAt (plK P) j := by rw [hKL, kAt_ext hj]
    have hy0 := (hL.1 0 hn0).2
    have hjD : j < D (n - n) := by rw [Nat.sub_self]; omega
    have a1 := g2 j (Or.inr ⟨hn0, hjD⟩)
    have a2 := g3 hn0 j hjD
    rw [ek] at a1 a2
    exact ⟨a1.1, a1.2, by omega, a2.1, a2.2⟩

