/-! ===== tokens against the reference's reading ===== -/
def sgs : List Int32 := [40, 41, 43, 59, 60, 62]
/-- what the token t tells of the text at its place; b is the place of the next -/
def TkK (T : Sc) (e : Nat) (t : Tok) (b : Nat) : Prop :=
  (∀ w ∈ wds, (t.1 = w.2 ↔ isW T e t.2.1 w.1) ∧ (t.1 = w.2 → sk T e (t.2.1 + w.1.length) = b)) ∧
  (t.1 = 1 ↔ isD T e t.2.1) ∧
  (t.1 = 1 → ∀ lo hi : Int32, hi ≤ 999 → (figBad T e t.2.1 lo hi ↔ ¬ (¬ t.2.2 < lo ∧ t.2.2 ≤ hi))) ∧
  (t.1 = 1 → t.2.2 ≤ 999 → (∃ v : Nat, v < 1000 ∧ t.2.2 = nI v) ∧ figV T e t.2.1 = t.2.2 ∧ sk T e (figE T e t.2.1) = b) ∧
  (¬ t.1 = 1 → figE T e t.2.1 = t.2.1) ∧
  (∀ c ∈ sgs, (t.1 = 100 + c ↔ T t.2.1 = c) ∧ (T t.2.1 = c → sk T e (t.2.1 + 1) = b)) ∧ ¬ t.1 = 0
def TkB (T : Sc) (e : Nat) (L : List Tok) : Prop := (tA L e 0).2.1 = sk T e 0 ∧ (∀ k, L.length ≤ k → tA L e k = dT e) ∧ ∀ k, k < L.length → (tA L e k).2.1 < e ∧ ¬ T (tA L e k).2.1 = 32 ∧ TkK T e (tA L e k) (tA L e (k + 1)).2.1
theorem sg_asc : ∀ c ∈ sgs, (0 ≤ c ∧ c ≤ 127) := by decide +kernel
theorem TkK.cg {T U : Sc} {e b : Nat} {t : Tok} (h : Cg e T U) (hp : t.2.1 < e) (hk : TkK T e t b) : TkK U e t b := by
  obtain ⟨k1, k2, k3, k4, k5, k6, k7⟩ := hk
  refine ⟨fun w hw => ⟨?_, ?_⟩, ?_, fun h1 lo hi h2 => ?_, fun h1 h2 => ?_, fun h1 => ?_, fun c hc => ⟨?_, ?_⟩, k7⟩
  · rw [← isW_cgI h hw]; exact (k1 w hw).1
  · rw [← sk_cg h]; exact (k1 w hw).2
  · rw [k2]; unfold isD; rw [h.rin hp (by decide) (by decide)]
  · rw [← k3 h1 lo hi h2]; unfold figBad; rw [figE_cg h, figV_cg h, sk_cg h]
  · rw [← figE_cg h, ← figV_cg h, ← sk_cg h]; exact k4 h1 h2
  · rw [← figE_cg h]; exact k5 h1
  · rw [(k6 c hc).1]; exact h.eq hp (sg_asc c hc)
  · rw [← sk_cg h, ← h.eq hp (sg_asc c hc)]; exact (k6 c hc).2
theorem TkB.cg {T U : Sc} {e : Nat} {L : List Tok} (h : Cg e T U) (hk : TkB T e L) : TkB U e L := by
  obtain ⟨a, b, c⟩ := hk
  refine ⟨by rw [← sk_cg h]; exact a, b, fun k hk => ?_⟩
  obtain ⟨c1, c2, c3⟩ := c k hk
  exact ⟨c1, fun z => c2 ((h.eq c1 ⟨by decide, by decide⟩).mpr z), c3.cg h c1⟩
theorem let_fin {v : Int32} (h : ¬ rIn v 97 122 = 0) : rIn v 48 57 = 0 ∧ ¬ v ∈ sgs := by
  rw [rIn_ne] at h
  obtain ⟨d, h1, rfl⟩ := nat_to (n := 122) (Int32.le_trans (by decide) h.1) h.2 (by decide)
  have h9 : 97 ≤ d := (nI_leI (a := 97) (by decide) (by omega)).mp h.1
  have : ∀ d : Nat, d ≤ 122 → 97 ≤ d → rIn (nI d) 48 57 = 0 ∧ ¬ nI d ∈ sgs := by decide +kernel
  exact this d h1 h9
theorem dig_fin {v : Int32} (h : ¬ rIn v 48 57 = 0) : rIn v 97 122 = 0 ∧ ¬ v ∈ sgs := by
  rw [rIn_ne] at h
  obtain ⟨d, h1, rfl⟩ := nat_to (n := 57) (Int32.le_trans (by decide) h.1) h.2 (by decide)
  have h9 : 48 ≤ d := (nI_leI (a := 48) (by decide) (by omega)).mp h.1
  have : ∀ d : Nat, d ≤ 57 → 48 ≤ d → rIn (nI d) 97 122 = 0 ∧ ¬ nI d ∈ sgs := by decide +kernel
  exact this d h1 h9
theorem wd_small {T : Sc} {p e : Nat} : wdK T p e < 100 ∧ 2 ≤ wdK T p e := by
  rcases wdK_to (T := T) (p := p) (e := e) with h | ⟨w, hw, h, _⟩
  · rw [h]; decide
  · rw [h]; exact ⟨Int32.lt_of_le_of_lt (wds_rng w hw).2 (by decide), (wds_rng w hw).1⟩
theorem sg_rng : ∀ b : Nat, b < 256 → 100 ≤ 100 + (nI b : Int32) ∧ ∀ c ∈ sgs, (100 + (nI b : Int32) = 100 + c ↔ nI b = c) := by decide +kernel
theorem sg_and : ∀ c ∈ sgs, c &&& 255 = c := by decide +kernel
theorem and255 (v : Int32) : ∃ b : Nat, b < 256 ∧ v &&& 255 = nI b := by
  obtain ⟨j, hj, e⟩ := pk_andE v (m := 255) 8 (by decide)
  exact ⟨j, by omega, e⟩
/-- a byte, signed or not -/
def BvO (v : Int32) : Prop := ∃ b : Nat, b < 256 ∧ (v = nI b ∨ v = nI b - 256)
theorem bv_fin : ∀ b : Nat, b < 256 → ∀ c ∈ sgs, (nI b &&& 255 = c ↔ nI b = c) ∧ ((128 ≤ b) → ((nI b - 256) &&& 255 = c ↔ nI b - 256 = c)) := by decide +kernel
theorem TkK_of {T : Sc} {e p : Nat} (hp : p < e) (hs : ¬ T p = 32) (hb : ∀ c ∈ sgs, (T p &&& 255 = c ↔ T p = c)) : TkK T e (tk1 T e p) (sk T e (tkE T e p)) := by
  have hsk : sk T e p = p := sk_end (fun z => hs z.2)
  unfold TkK tk1 tkT tkE
  dsimp only
  by_cases hl : rIn (T p) 97 122 = 0
  · have hwe : we T e p = p := we_end (fun z => z.2 hl)
    have hnw : ∀ w ∈ wds, ¬ isW T e p w.1 := by
      intro w hw h
      have := h.1
      have := (wds_len w hw).1
      omega
    rw [if_pos hl, if_pos hl]
    by_cases hd : rIn (T p) 48 57 = 0
    · rw [if_pos hd, if_pos hd]
      obtain ⟨b, hb1, hb2⟩ := and255 (T p)
      obtain ⟨r1, r2⟩ := sg_rng b hb1
      have hfe : figE T e p = p := by
        unfold figE
        rw [hsk, dgs_de _ _ _ (by omega), de_end (fun z => z.2 hd), Nat.sub_self, Nat.min_zero]; rfl
      refine ⟨fun w hw => ⟨⟨fun h => ?_, fun h => absurd h (hnw w hw)⟩, fun h => ?_⟩, ⟨fun h => ?_, fun h => absurd hd h.2⟩, fun h => ?_, fun h => ?_, fun _ => hfe, fun c hc => ⟨?_, fun _ => rfl⟩, ?_⟩
      · rw [hb2] at h; have := (wds_rng w hw).2; rw [← h] at this; exact absurd (Int32.le_trans r1 this) (by decide)
      · rw [hb2] at h; have := (wds_rng w hw).2; rw [← h] at this; exact absurd (Int32.le_trans r1 this) (by decide)
      · rw [hb2] at h; rw [h] at r1; exact absurd r1 (by decide)
      · rw [hb2] at h; rw [h] at r1; exact absurd r1 (by decide)
      · rw [hb2] at h; rw [h] at r1; exact absurd r1 (by decide)
      · rw [hb2, r2 c hc, ← hb2]; exact hb c hc
      · rw [hb2]; intro h; rw [h] at r1; exact absurd r1 (by decide)
    · rw [if_neg hd, if_neg hd]
      have hgo := de_go hp hd
      have hge := de_ge T e (p + 1)
      have hE : figE T e p = p + min 4 (de T e (p + 1) - p) := by unfold figE; rw [hsk, dgs_de _ _ _ (by omega), hgo]
      have hV : figV T e p = dgV T p 0 (min 4 (de T e (p + 1) - p)) := by unfold figV; rw [hsk, dgs_de _ _ _ (by omega), hgo]
      have hnm : nmV T p (de T e (p + 1)) = if 3 < de T e (p + 1) - p then 1000 else nmS T p (de T e (p + 1) - p) := rfl
      have hall := de_all (T := T) (e := e) _ p rfl
      rw [hgo] at hall
      refine ⟨fun w hw => ⟨⟨fun h => ?_, fun h => absurd h (hnw w hw)⟩, fun h => ?_⟩, ⟨fun _ => ⟨hp, hd⟩, fun _ => rfl⟩, fun _ lo hi h9 => ?_, fun _ h9 => ?_, fun h => absurd rfl h, fun c hc => ⟨⟨fun h => ?_, fun h => ?_⟩, fun h => ?_⟩, by decide⟩
      · have := (wds_rng w hw).1; rw [← h] at this; exact absurd this (by decide)
      · have := (wds_rng w hw).1; rw [← h] at this; exact absurd this (by decide)
      · rw [hnm]
        unfold figBad
        rw [hsk, hE]
        by_cases h3 : 3 < de T e (p + 1) - p
        · rw [if_pos h3]
          refine ⟨fun _ z => ?_, fun _ => Or.inr (Or.inl (by omega))⟩
          exact absurd (Int32.le_trans z.2 h9) (by decide)
        · rw [if_neg h3, hV, show min 4 (de T e (p + 1) - p) = de T e (p + 1) - p from by omega, ← nmS_dgV]
          constructor
          · rintro (h | h | h | h)
            · omega
            · omega
            · exact fun z => z.1 h
            · exact fun z => absurd z.2 (Int32.not_le.mpr h)
          · intro h
            by_cases h4 : nmS T p (de T e (p + 1) - p) < lo
            · exact Or.inr (Or.inr (Or.inl h4))
            · refine Or.inr (Or.inr (Or.inr ?_))
              exact Int32.not_le.mp (fun z => h ⟨h4, z⟩)
      · rw [hnm] at h9 ⊢
        by_cases h3 : 3 < de T e (p + 1) - p
        · rw [if_pos h3] at h9; exact absurd h9 (by decide)
        · rw [if_neg h3]
          obtain ⟨v, hv, ev⟩ := nmS_rng (T := T) (p := p) (de T e (p + 1) - p) (by omega) (fun i hi => (hall (p + i) (by omega) (by omega)).2)
          have hv2 : v < 1000 := Nat.lt_of_lt_of_le hv (Nat.le_trans (Nat.pow_le_pow_right (by decide) (show de T e (p + 1) - p ≤ 3 by omega)) (by decide))
          rw [hE, hV, show min 4 (de T e (p + 1) - p) = de T e (p + 1) - p from by omega, ← nmS_dgV]
          exact ⟨⟨v, hv2, ev⟩, rfl, by congr 1; omega⟩
      · have : ∀ c ∈ sgs, ¬ (1 : Int32) = 100 + c := by decide
        exact absurd h (this c hc)
      · exact absurd (h ▸ hc) (dig_fin hd).2
      · exact absurd (h ▸ hc) (dig_fin hd).2
  · rw [if_neg hl, if_neg hl]
    obtain ⟨f1, f2⟩ := let_fin hl
    have hgo := we_go hp hl
    obtain ⟨w1, w2⟩ := wd_small (T := T) (p := p) (e := we T e (p + 1))
    have hfe : figE T e p = p := by
      unfold figE
      rw [hsk, dgs_de _ _ _ (by omega), de_end (fun z => z.2 f1), Nat.sub_self, Nat.min_zero]; rfl
    have hiff : ∀ w ∈ wds, (wdK T p (we T e (p + 1)) = w.2 ↔ isW T e p w.1) := by
      intro w hw
      rw [wdK_iff hw]
      unfold spW isW
      rw [hgo]
    refine ⟨fun w hw => ⟨hiff w hw, fun h => ?_⟩, ⟨fun h => ?_, fun h => absurd f1 h.2⟩, fun h => ?_, fun h => ?_, fun _ => hfe, fun c hc => ⟨⟨fun h => ?_, fun h => absurd (h ▸ hc) f2⟩, fun h => absurd (h ▸ hc) f2⟩, fun h => ?_⟩
    · have := ((hiff w hw).mp h).1
      rw [← this, hgo]
    · rw [h] at w2; exact absurd w2 (by decide)
    · rw [h] at w2; exact absurd w2 (by decide)
    · rw [h] at w2; exact absurd w2 (by decide)
    · rw [h] at w1
      have : ∀ c ∈ sgs, ¬ 100 + c < (100 : Int32) := by decide
      exact absurd w1 (this c hc)
    · rw [h] at w2; exact absurd w2 (by decide)
theorem by_sg : ∀ b : Nat, b < 256 → ∀ c ∈ sgs, ((if b < 128 then nI b else nI b - 256) &&& 255 = c ↔ (if b < 128 then nI b else nI b - 256) = c) := by decide +kernel
/-- the tokens of the class's text, told of the reference's -/
theorem TkB_toks {T U V : Sc} {e : Nat} (he : e ≤ 400) (hb : ∀ k, k < e → ByA (T k) (U k)) (hv : ∀ k, k < e → U k = V k) : TkB V e (toks T e) := by
  refine TkB.cg ((Cg.by hb).tr (Cg.of hv)) ?_
  obtain ⟨a, b, c⟩ := TkJ_toks T he
  refine ⟨a, b, fun k hk => ?_⟩
  obtain ⟨c1, c2, c3, c4⟩ := c k hk
  refine ⟨c1, c2, ?_⟩
  rw [c4, c3]
  refine TkK_of c1 c2 (fun s hs => ?_)
  obtain ⟨x, hx, e1, e2⟩ := hb _ c1
  show T (tA (toks T e) e k).2.1 &&& 255 = s ↔ T (tA (toks T e) e k).2.1 = s
  rw [e2]
  exact by_sg x hx s hs

