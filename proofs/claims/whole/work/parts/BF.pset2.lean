/-! ===== set: the table ===== -/
def seY (m : Sc) (n : Nat) (s : Nat) : Nat := bg0 m (b01 s)
theorem b01_n {k : Nat} (h : k ≤ 1) : b01 k = nI k := by
  obtain rfl | rfl : k = 0 ∨ k = 1 := by omega
  · decide
  · decide
theorem bg0_lt {m : Sc} (hH : HOK m) {v : Int32} (hv : v = 0 ∨ v = 1) : bg0 m v < 15488 := by
  obtain ⟨k, hk, e, _⟩ := num_of (m := m) (bn_Val hH hv)
  unfold bg0
  rw [e, nI_clamp (by omega)]
  exact hk
theorem b01_or (k : Nat) : b01 k = 0 ∨ b01 k = 1 := by unfold b01; split <;> simp
/-- the chances of the ways from a game's begin -/
theorem wy_N {m : Sc} (hH : HOK m) (hc : ChO m) (hst : stOK (svA m)) {n s : Nat} (hs : s < 2) : (∀ k, k < 4 → wyF m (svA m) n (4 * s + k) = lN (w4N m n (bg0 m (b01 s)) k) ∧ w4N m n (bg0 m (b01 s)) k ≤ 1000000000) ∧ w4N m n (bg0 m (b01 s)) 0 + w4N m n (bg0 m (b01 s)) 1 + w4N m n (bg0 m (b01 s)) 2 + w4N m n (bg0 m (b01 s)) 3 ≤ 1000000000 := by
  have hj := bg0_lt (m := m) hH (b01_or s)
  refine ⟨fun k hk => ?_, w4_sum hH hc hst n _ hj⟩
  have h := w4_v hH hc hst (n := n) hj k
  refine ⟨?_, h.2⟩
  unfold wyF
  rw [show (4 * s + k) % 4 / 2 = k / 2 by omega, show (4 * s + k) % 2 = k % 2 by omega, show (4 * s + k) / 4 = s by omega, h.1, nI_l (by omega)]
theorem sgB_N (G : Nat) (p : Int32) (a b : Nat) : ∃ v, v ≤ 1000000000 ∧ sgB G p a b = lN v := by
  unfold sgB
  by_cases h : G ≤ (if p = 0 then a else b)
  · rw [if_pos h]; exact ⟨1000000000, Nat.le_refl _, by decide⟩
  · rw [if_neg h]; exact ⟨0, by omega, by decide⟩
/-- the table's values lie between 0 and the whole -/
theorem sgV_N {m : Sc} (hH : HOK m) (hc : ChO m) (hst : stOK (svA m)) {n G : Nat} {p : Int32} : ∀ c a b s, s < 2 → ∃ v, v ≤ 1000000000 ∧ sgV G (wyF m (svA m) n) p c a b s = lN v
  | 0, a, b, s, _ => by
    exact sgB_N G p a b
  | c + 1, a, b, s, hs => by
    rw [sgV]
    by_cases h : G ≤ a ∨ G ≤ b
    · rw [if_pos h]
      exact sgB_N G p a b
    · rw [if_neg h]
      have ih : ∀ k, ∃ v, v ≤ 1000000000 ∧ sgV G (wyF m (svA m) n) p c (if k < 2 then a + 1 else a) (if k < 2 then b else b + 1) (k % 2) = lN v := fun k => sgV_N hH hc hst c _ _ (k % 2) (Nat.mod_lt _ (by decide))
      obtain ⟨f, hf⟩ := Classical.axiomOfChoice ih
      obtain ⟨hw, hsum⟩ := wy_N hH hc hst (n := n) hs
      rw [sg_N hw (fun k _ => ⟨(hf k).2, (hf k).1⟩) 4 (Nat.le_refl _)]
      refine ⟨_, ?_, rfl⟩
      have l0 := share_le (w := w4N m n (bg0 m (b01 s)) 0) (hf 0).1
      have l1 := share_le (w := w4N m n (bg0 m (b01 s)) 1) (hf 1).1
      have l2 := share_le (w := w4N m n (bg0 m (b01 s)) 2) (hf 2).1
      have l3 := share_le (w := w4N m n (bg0 m (b01 s)) 3) (hf 3).1
      simp only [sN]
      omega
/-- more fuel changes nothing -/
theorem sgV_f {G : Nat} {wy : Nat → Int64} {p : Int32} : ∀ c a b s d, (G - a) + (G - b) ≤ c + 1 → sgV G wy p (c + d) a b s = sgV G wy p c a b s
  | 0, a, b, s, 0, _ => rfl
  | 0, a, b, s, d + 1, h => by
    rw [show 0 + (d + 1) = d + 1 by omega]
    show (if G ≤ a ∨ G ≤ b then sgB G p a b else _) = sgB G p a b
    rw [if_pos (by omega)]
  | c + 1, a, b, s, d, h => by
    rw [show c + 1 + d = (c + d) + 1 by omega, sgV, sgV]
    by_cases hg : G ≤ a ∨ G ≤ b
    · rw [if_pos hg, if_pos hg]
    · rw [if_neg hg, if_neg hg]
      congr 1
      funext k
      exact sgV_f c _ _ _ d (by split <;> omega)
def seT (m : Sc) (n G : Nat) (p : Int32) (a b c : Nat) : Int32 := if a = G ∨ b = G then suV G p a else (sgV G (wyF m (svA m) n) p 11 a b c).toInt32
/-- what stands in the table, as a long -/
theorem seT_l {m : Sc} (hH : HOK m) (hc : ChO m) (hst : stOK (svA m)) {n G : Nat} {p : Int32} (hp : p = 0 ∨ p = 1) {a b c : Nat} (ha : a ≤ G) (hb : b ≤ G) (hab : ¬ (a = G ∧ b = G)) (hc2 : c < 2) : (seT m n G p a b c).toInt64 = sgV G (wyF m (svA m) n) p 11 a b c := by
  unfold seT
  by_cases h : a = G ∨ b = G
  · rw [if_pos h, show sgV G (wyF m (svA m) n) p 11 a b c = if G ≤ a ∨ G ≤ b then sgB G p a b else _ from rfl, if_pos (by omega)]
    unfold suV sgB
    rcases hp with rfl | rfl
    · rw [if_pos rfl]
      by_cases hG : a = G
      · rw [if_pos (by simp [hG]), if_pos (by omega)]; decide
      · rw [if_neg (by simp [hG]), if_neg (by omega)]; decide
    · rw [if_neg (show ¬ (1 : Int32) = 0 by decide)]
      by_cases hG : a = G
      · rw [if_neg (by simp [hG]), if_neg (by omega)]; decide
      · rw [if_pos (by simp [hG]), if_pos (by omega)]; decide
  · rw [if_neg h]
    obtain ⟨v, h1, h2⟩ := sgV_N hH hc hst (n := n) (G := G) (p := p) 11 a b c hc2
    rw [h2, lN_i, nI_l (by omega)]
theorem seF_at {m s : Sc} {n : Nat} (hH : HOK m) (h9 : s 9 = m 197) (h10 : s 10 = m 198) {c w : Nat} (hc : c < 2) (hw : w < 4) : (seF (fun k i => plF m (nI (k / 2)) (nI (k % 2)) i) n (sCode (ngS s 0)) (sCode (ngS s 1)) (4 * c + w)).toInt64 = wyF m (svA m) n (4 * c + w) := by
  unfold seF wyF
  rw [show (4 * c + w) % 4 / 2 = w / 2 by omega, show (4 * c + w) % 2 = w % 2 by omega, show (4 * c + w) / 4 = c by omega, b01_n (k := w / 2) (by omega), b01_n (k := w % 2) (by omega)]
  obtain rfl | rfl : c = 0 ∨ c = 1 := by omega
  · rw [if_pos (by omega), show 4 * 0 + w = w by omega]
    dsimp only
    rw [(an_ways hH (Or.inl rfl) h9 h10).1]
    rfl
  · rw [if_neg (by omega), show 4 * 1 + w - 4 = w by omega]
    dsimp only
    rw [(an_ways hH (Or.inr rfl) h9 h10).1]
    rfl
theorem ss_sg {V : Nat → Nat → Nat → Int32} {rf : Sc} {wy f : Nat → Int64} {b s a0 b0 : Nat} (hr : ∀ w, w < 4 → (rf (b + w)).toInt64 = wy (4 * s + w)) (hV : ∀ w, w < 4 → (V (a0 + 1 - w / 2) (b0 + w / 2) (w % 2)).toInt64 = f w) : ∀ n, n ≤ 4 → ssV V rf b a0 b0 n = sgS wy s f n
  | 0, _ => rfl
  | n + 1, hn => by rw [ssV, sgS_s, ss_sg hr hV n (by omega), hr n (by omega), hV n (by omega)]
theorem an_set {m s : Sc} {p : Int32} {n G g0 g1 : Nat} (hp : p = 0 ∨ p = 1) (hH : HOK m) (hc : ChO m) (hst : stOK (svA m)) (h : SA m s (S m)) (hv : Val (S m)) (hG6 : G ≤ 6) (hG : m 194 = nI G) (h7 : m 208 = nI g0) (h8 : m 209 = nI g1) (hg0 : g0 < G) (hg1 : g1 < G) :
    (∀ f t c, f < G → t < G → c ≤ 1 → seT m n G p f t c = (ssV (seT m n G p) (seF (fun k i => plF m (nI (k / 2)) (nI (k % 2)) i) n (sCode (ngS s 0)) (sCode (ngS s 1))) (4 * c) f t 4).toInt32) ∧ (ssV (seT m n G p) (seH (fun k i => plF m (nI (k / 2)) (nI (k % 2)) i) n (sCode s)) 0 g0 g1 4).toInt32 = seV m (svA m) p n (at0 m) := by
  have h9 : s 9 = m 197 := h.2.2.2.1
  have h10 : s 10 = m 198 := h.2.2.2.2
  have hnext : ∀ f t, f < G → t < G → ∀ w, w < 4 → (seT m n G p (f + 1 - w / 2) (t + w / 2) (w % 2)).toInt64 = sgV G (wyF m (svA m) n) p 11 (if w < 2 then f + 1 else f) (if w < 2 then t else t + 1) (w % 2) := by
    intro f t hf ht w hw
    rw [seT_l hH hc hst hp (by omega) (by omega) (by omega) (Nat.mod_lt _ (by decide))]
    by_cases h2 : w < 2
    · rw [if_pos h2, if_pos h2, show f + 1 - w / 2 = f + 1 by omega, show t + w / 2 = t by omega]
    · rw [if_neg h2, if_neg h2, show f + 1 - w / 2 = f by omega, show t + w / 2 = t + 1 by omega]
  refine ⟨fun f t c hf ht hc2 => ?_, ?_⟩
  · rw [ss_sg (s := c) (wy := wyF m (svA m) n) (fun w hw => seF_at hH h9 h10 (by omega) hw) (hnext f t hf ht) 4 (Nat.le_refl _)]
    unfold seT
    rw [if_neg (by omega)]
    congr 1
    rw [← sgV_f 11 f t c 1 (by omega), show 11 + 1 = 12 from rfl, sgV, if_neg (by omega)]
  · obtain ⟨e, hk⟩ := at0_c h hv
    have hr : ∀ w, w < 4 → (seH (fun k i => plF m (nI (k / 2)) (nI (k % 2)) i) n (sCode s) (0 + w)).toInt64 = fsF m (svA m) n (at0 m) (4 * 0 + w) := by
      intro w hw
      unfold seH fsF
      rw [show 0 + w = w by omega, b01_n (k := w / 2) (by omega), b01_n (k := w % 2) (by omega)]
      dsimp only
      rw [an_chance h hv]
    rw [ss_sg hr (hnext g0 g1 hg0 hg1) 4 (Nat.le_refl _)]
    unfold seV
    rw [hG, h7, h8, nI_clamp (by omega), nI_clamp (by omega), nI_clamp (by omega)]

