/-! ===== log: class = reference ===== -/
/-- a byte of the class's tape (signed) and of the reference's (0..255) -/
def ByA (c r : Int32) : Prop := ∃ b : Nat, b < 256 ∧ r = nI b ∧ c = (if b < 128 then nI b else nI b - 256)
theorem by_fin1 : ∀ b : Nat, b < 256 → hoW (if b < 128 then nI b else nI b - 256) = hoW (nI b) := by decide +kernel
theorem by_fin2 : ∀ b : Nat, b < 256 → (¬ (if b < 128 then nI b else nI b - 256) < 48 ∧ ¬ 57 < (if b < 128 then nI b else nI b - 256) ↔ ¬ rIn (nI b) 48 57 = 0) ∧ (¬ (if b < 128 then nI b else nI b - 256) < 48 ∧ ¬ 48 < (if b < 128 then nI b else nI b - 256) ↔ ¬ rIn (nI b) 48 48 = 0) := by decide +kernel
theorem by_fin3 : ∀ b : Nat, b < 256 → ¬ rIn (nI b) 48 57 = 0 → b < 128 := by decide +kernel
theorem ho_fin : ∀ b : Nat, b < 256 → (hoW (nI b) = 2 ↔ nI b = 100) ∧ (hoW (nI b) = 0 ↔ nI b = 119) ∧ (hoW (nI b) = 1 ↔ nI b = 108) ∧ (¬ hoW (nI b) = -1 ↔ nI b = 100 ∨ nI b = 119 ∨ nI b = 108) := by decide +kernel
theorem okLg_iff {Tc tp : Sc} {k : Nat} (h0 : ByA (Tc (2 * k)) (tp (2 * k))) (h1 : ByA (Tc (2 * k + 1)) (tp (2 * k + 1))) : okLg Tc k ↔ lgK tp (2 * k) := by
  obtain ⟨a, ha, ra, ca⟩ := h0
  obtain ⟨b, hb, rb, cb⟩ := h1
  unfold okLg lgK
  rw [ra, ca, rb, cb, by_fin1 a ha]
  obtain ⟨f1, f2⟩ := by_fin2 b hb
  obtain ⟨g1, g2, g3, g4⟩ := ho_fin a ha
  rw [← f1, ← f2, g4]
  by_cases hd : nI a = 100
  · rw [if_pos (g1.mpr hd)]
    constructor
    · rintro ⟨_, h⟩; exact Or.inl ⟨hd, h⟩
    · rintro (⟨_, h⟩ | ⟨h, _⟩)
      · exact ⟨Or.inl hd, h⟩
      · rw [hd] at h; exact absurd h (by decide)
  · rw [if_neg (fun h => hd (g1.mp h))]
    constructor
    · rintro ⟨h, h2⟩; exact Or.inr ⟨h.resolve_left hd, h2⟩
    · rintro (⟨h, _⟩ | ⟨h, h2⟩)
      · exact absurd h hd
      · exact ⟨Or.inr h, h2⟩
theorem lgB_iff {tp : Sc} : ∀ (c k : Nat), (¬ lgB tp c (2 * k) = 0) ↔ ∀ j, j < c → lgK tp (2 * (k + j))
  | 0, k => ⟨fun _ j hj => absurd hj (by omega), fun _ => by rw [lgB]; decide⟩
  | c + 1, k => by
    rw [lgB]
    by_cases hk : lgK tp (2 * k)
    · rw [if_pos hk, show 2 * k + 2 = 2 * (k + 1) from by omega, lgB_iff c (k + 1)]
      constructor
      · intro h j hj
        match j, hj with
        | 0, _ => exact hk
        | j + 1, hj => have := h j (by omega); rwa [show k + 1 + j = k + (j + 1) from by omega] at this
      · intro h j hj
        have := h (j + 1) (by omega)
        rwa [show k + (j + 1) = k + 1 + j from by omega] at this
    · rw [if_neg hk]
      exact ⟨fun h => absurd rfl h, fun h => absurd (h 0 (by omega)) hk⟩
theorem lgOK_iff {Tc tp : Sc} {e : Nat} (hB : ∀ k, k < e → ByA (Tc k) (tp k)) : lgOK Tc e ↔ ¬ lgV tp e = 0 := by
  unfold lgOK lgV
  by_cases h1 : e % 2 = 1
  · rw [if_pos h1]; exact ⟨fun h => absurd h.1 (by omega), fun h => absurd rfl h⟩
  · rw [if_neg h1]
    by_cases h2 : 60 < e
    · rw [if_pos h2]; exact ⟨fun h => absurd h.2.1 (by omega), fun h => absurd rfl h⟩
    · rw [if_neg h2]
      have hb := lgB_iff (tp := tp) (e / 2) 0
      rw [show 2 * 0 = 0 from rfl] at hb
      rw [hb]
      constructor
      · rintro ⟨_, _, h⟩ j hj
        have := h j (by omega)
        rw [okLg_iff (hB _ (by omega)) (hB _ (by omega))] at this
        rwa [Nat.zero_add]
      · intro h
        refine ⟨by omega, by omega, fun k hk => ?_⟩
        rw [okLg_iff (hB _ (by omega)) (hB _ (by omega))]
        have := h k (by omega)
        rwa [Nat.zero_add] at this
/-- how and line of a rally that a log tells -/
theorem lg_how {Tc tp : Sc} {k : Nat} (h0 : ByA (Tc (2 * k)) (tp (2 * k))) (h1 : ByA (Tc (2 * k + 1)) (tp (2 * k + 1))) (hk : lgK tp (2 * k)) : (hoW (Tc (2 * k)) = 0 ∨ hoW (Tc (2 * k)) = 1 ∨ hoW (Tc (2 * k)) = 2 ∧ lnOK (Tc (2 * k + 1) - 48)) ∧ hwF tp (2 * k) = raH (hoW (Tc (2 * k))) (Tc (2 * k + 1) - 48) := by
  obtain ⟨a, ha, ra, ca⟩ := h0
  obtain ⟨b, hb, rb, cb⟩ := h1
  obtain ⟨g1, g2, g3, g4⟩ := ho_fin a ha
  have ew : hoW (Tc (2 * k)) = hoW (nI a) := by rw [ca]; exact by_fin1 a ha
  rw [ew]
  have hl := hwF_ln hk
  unfold hwF at *
  unfold lgK at hk
  rw [ra, rb] at hl hk ⊢
  rcases hk with ⟨hd, hi⟩ | ⟨hx, hi⟩
  · have hb1 := by_fin3 b hb hi
    have hb2 : ¬ (nI b : Int32) < 48 := ((by_fin2 b hb).1.mpr hi).1 |> fun h => by rwa [if_pos hb1] at h
    have h48 : 48 ≤ b := by
      rcases Nat.lt_or_ge b 48 with h | h
      · exact absurd (nI_lt9 48 (by decide) h (by decide)) hb2
      · exact h
    rw [if_pos hb1] at cb
    have e2 := g1.mpr hd
    have n1 : ¬ nI a = 119 := by rw [hd]; decide
    have n2 : ¬ nI a = 108 := by rw [hd]; decide
    rw [if_neg n1, if_neg n2] at hl ⊢
    have es : (2 : Int32) + nI b - 48 = 2 + (nI b - 48) := by rw [Int32.sub_eq_add_neg, Int32.sub_eq_add_neg, Int32.add_assoc]
    rw [es] at hl ⊢
    have en : nI b - 48 = nI (b - 48) := by rw [show (48 : Int32) = nI 48 by decide, pk_sub h48]
    have h3 : ¬ (2 : Int32) + (nI b - 48) < 2 := by rw [en, show (2 : Int32) = nI 2 by decide, nI_add]; exact nI_nlt (by omega) (by omega)
    have hl2 := hl h3
    have ec : (2 : Int32) + (nI b - 48) - 2 = nI b - 48 := by rw [Int32.add_comm, Int32.add_sub_cancel]
    rw [ec] at hl2
    rw [cb, e2]
    exact ⟨Or.inr (Or.inr ⟨rfl, hl2⟩), by unfold raH; rw [if_pos rfl]⟩
  · rcases hx with hx | hx
    · rw [if_pos hx, g2.mpr hx]
      exact ⟨Or.inl rfl, by unfold raH; rw [if_neg (by decide)]⟩
    · have n1 : ¬ nI a = 119 := by rw [hx]; decide
      rw [if_neg n1, if_pos hx, g3.mpr hx]
      exact ⟨Or.inr (Or.inl rfl), by unfold raH; rw [if_neg (by decide)]⟩
theorem raH_ln {how ln : Int32} (hh : how = 0 ∨ how = 1 ∨ how = 2 ∧ lnOK ln) : ¬ raH how ln < 2 → lnOK (raH how ln - 2) := by
  unfold raH
  rcases hh with rfl | rfl | ⟨rfl, h⟩
  · rw [if_neg (by decide)]; intro h; exact absurd (by decide) h
  · rw [if_neg (by decide)]; intro h; exact absurd (by decide) h
  · rw [if_pos rfl, show (2 : Int32) + ln - 2 = ln from by rw [Int32.add_comm, Int32.add_sub_cancel]]; exact fun _ => h
theorem lg_run {m li Tc tp s : Sc} (hl : LwA m li) (hH : HOK m) : ∀ (c k : Nat) (x : Sc), (∀ j, j < 2 * (k + c) → ByA (Tc j) (tp j)) → (∀ j, j < k + c → lgK tp (2 * j)) → SA m (lgS li Tc s k) x → Val x →
    ((∀ j, k ≤ j → j < k + c → sOver (lgS li Tc s j) li = 0) ∧ (lgR m tp c (2 * k) x).1 = 0 ∧ SA m (lgS li Tc s (k + c)) (lgR m tp c (2 * k) x).2 ∧ Val (lgR m tp c (2 * k) x).2) ∨
    (∃ N, k ≤ N ∧ N < k + c ∧ (∀ j, k ≤ j → j < N → sOver (lgS li Tc s j) li = 0) ∧ ¬ sOver (lgS li Tc s N) li = 0 ∧ (lgR m tp c (2 * k) x).1 = 2)
  | 0, k, x, _, _, hs, hx => Or.inl ⟨fun j h1 h2 => absurd h2 (by omega), by rw [lgR], by rw [lgR]; exact hs, by rw [lgR]; exact hx⟩
  | c + 1, k, x, hB, hK, hs, hx => by
    have eo := over_eq hl hs.2.1 hs.2.2.1
    rw [lgR]
    by_cases ho : rOver m x = 0
    · rw [if_pos ho]
      obtain ⟨hh, e⟩ := lg_how (hB (2 * k) (by omega)) (hB (2 * k + 1) (by omega)) (hK k (by omega))
      have hs2 := SA.strike hl hH hs hx hh
      have hv2 : Val (rRal m x (raH (hoW (Tc (2 * k))) (Tc (2 * k + 1) - 48))) := Val_rRal hH hx (fun _ => raH_ln hh)
      rw [e, show 2 * k + 2 = 2 * (k + 1) from by omega]
      rcases lg_run (s := s) hl hH c (k + 1) _ (fun j hj => hB j (by omega)) (fun j hj => hK j (by omega)) hs2 hv2 with ⟨h1, h2, h3, h4⟩ | ⟨N, h1, h2, h3, h4, h5⟩
      · refine Or.inl ⟨fun j hj hj2 => ?_, h2, ?_, h4⟩
        · rcases Nat.eq_or_lt_of_le hj with rfl | hj
          · rw [eo]; exact ho
          · exact h1 j hj (by omega)
        · rw [show k + (c + 1) = k + 1 + c from by omega]; exact h3
      · refine Or.inr ⟨N, by omega, by omega, fun j hj hj2 => ?_, h4, h5⟩
        rcases Nat.eq_or_lt_of_le hj with rfl | hj
        · rw [eo]; exact ho
        · exact h3 j hj hj2
    · rw [if_neg ho]
      exact Or.inr ⟨k, Nat.le_refl _, by omega, fun j h1 h2 => absurd h2 (by omega), by rw [eo]; exact ho, rfl⟩
/-- the log's answers -/
theorem an_log {m li Tc tp s : Sc} {e : Nat} (hl : LwA m li) (hH : HOK m) (hs : SA m s (S m)) (hx : Val (S m)) (hB : ∀ k, k < e → ByA (Tc k) (tp k)) (h : lgOK Tc e) :
    ((∀ j, j < e / 2 → sOver (lgS li Tc s j) li = 0) ∧ (lgR m tp (e / 2) 0 (S m)).1 = 0 ∧ ∀ w, w < 10 → sTell (lgS li Tc s (e / 2)) w = rTold (lgR m tp (e / 2) 0 (S m)).2 w) ∨
    (∃ N, N < e / 2 ∧ (∀ j, j < N → sOver (lgS li Tc s j) li = 0) ∧ ¬ sOver (lgS li Tc s N) li = 0 ∧ (lgR m tp (e / 2) 0 (S m)).1 = 2) := by
  have he := h.1
  have hk : ∀ j, j < e / 2 → lgK tp (2 * j) := fun j hj => (okLg_iff (hB _ (by omega)) (hB _ (by omega))).mp (h.2.2 j (by omega))
  rcases lg_run (s := s) hl hH (e / 2) 0 (S m) (fun j hj => hB j (by omega)) (fun j hj => hk j (by omega)) hs hx with ⟨h1, h2, h3, h4⟩ | ⟨N, h1, h2, h3, h4, h5⟩
  · rw [Nat.zero_add] at h3
    exact Or.inl ⟨fun j hj => h1 j (by omega) (by omega), h2, fun w hw => tell_eq h3 h4 hw⟩
  · exact Or.inr ⟨N, by omega, fun j hj => h3 j (by omega) hj, h4, h5⟩

