/-! ===== mends: how many scores there can be ===== -/
/-- the chases that can stand, by the last two lines that were told -/
def Knd (m : Sc) (sr : Int32 × Int32 × Bool) (x : Sc) : Prop := x 3 = 0 ∨ (sr.2.2 = true ∧ ((x 3 = 1 ∧ x 4 = sr.2.1 ∧ x 6 = loff m (x 0) (x 1)) ∨ (x 3 = 2 ∧ x 4 = sr.1 ∧ x 5 = sr.2.1) ∨ (x 3 = 1 ∧ x 4 = sr.1 ∧ x 6 = 1))) ∨ (sr.2.2 = false ∧ x 3 = 1 ∧ x 4 = sr.2.1)
def srN (sr : Int32 × Int32 × Bool) (how : Int32) : Int32 × Int32 × Bool := if how < 2 then (sr.1, sr.2.1, false) else (sr.2.1, how - 2, true)
theorem Knd.q {m x : Sc} {sr : Int32 × Int32 × Bool} (h : Knd m sr x) (h3 : x 3 = 1) (h6 : x 6 = 0) : x 4 = sr.2.1 := by
  rcases h with h | ⟨_, h | h | h⟩ | h
  · rw [h3] at h; exact absurd h (by decide)
  · exact h.2.1
  · rw [h3] at h; exact absurd h.1 (by decide)
  · rw [h6] at h; exact absurd h.2.2 (by decide)
  · exact h.2.2
theorem Knd.two {m x : Sc} {sr : Int32 × Int32 × Bool} (h : Knd m sr x) (h3 : x 3 = 2) : x 5 = sr.2.1 := by
  rcases h with h | ⟨_, h | h | h⟩ | h
  · rw [h3] at h; exact absurd h (by decide)
  · rw [h3] at h; exact absurd h.1 (by decide)
  · exact h.2.2
  · rw [h3] at h; exact absurd h.1 (by decide)
  · rw [h3] at h; exact absurd h.2.1 (by decide)
theorem Knd.step {m x : Sc} {sr : Int32 × Int32 × Bool} {how o : Int32} (hH : HOK m) (hx : Val x) (h : Knd m sr x) (ho : o = how ∨ (2 ≤ how ∧ x 6 = 1)) : Knd m (srN sr how) (rRal m x o) := by
  rcases ral_shape (how := o) hH hx with ⟨s6, s1, s2, s3⟩ | ⟨s6, s1, s2, s3⟩ | ⟨s6, s2, s3⟩
  · have e : o = how := ho.resolve_right (fun z => by rw [s6] at z; exact absurd z.2 (by decide))
    subst e
    unfold srN
    rw [if_pos s1]
    rcases s3 with s3 | ⟨a, b, c⟩
    · exact Or.inl s3
    · exact Or.inr (Or.inr ⟨rfl, b, c.trans (h.q a s6)⟩)
  · have e : o = how := ho.resolve_right (fun z => by rw [s6] at z; exact absurd z.2 (by decide))
    subst e
    unfold srN
    rw [if_neg s1]
    rcases s3 with ⟨a, b, c, d⟩ | ⟨a, b, c, d⟩
    · exact Or.inr (Or.inl ⟨rfl, Or.inl ⟨b, c, by rw [d, s2.1, s2.2.1]⟩⟩)
    · exact Or.inr (Or.inl ⟨rfl, Or.inr (Or.inl ⟨b, c.trans (h.q a s6), d⟩)⟩)
  · rcases s3 with ⟨a, b⟩ | ⟨a, b, c, d⟩
    · exact Or.inl a
    · have q := h.two a
      unfold srN
      by_cases hw : how < 2
      · rw [if_pos hw]; exact Or.inr (Or.inr ⟨rfl, b, c.trans q⟩)
      · rw [if_neg hw]; exact Or.inr (Or.inl ⟨rfl, Or.inr (Or.inr ⟨b, c.trans q, d⟩)⟩)
theorem ch_0 {x : Sc} (h : x 3 = 0) : chz x = 0 := by unfold chz; rw [h]; decide
theorem ch_1 {x : Sc} (h : x 3 = 1) : chz x = 1 := by unfold chz; rw [h]; decide
theorem ch_2 {x : Sc} (h : x 3 = 2) : chz x = 2 := by unfold chz; rw [h]; decide
theorem ch_v {x : Sc} (hx : Val x) : (x 3 = 0 ∧ chz x = 0) ∨ (x 3 = 1 ∧ chz x = 1) ∨ (x 3 = 2 ∧ chz x = 2) := by
  rcases hx.2.2 with c | c | c
  · exact Or.inl ⟨c.1, ch_0 c.1⟩
  · exact Or.inr (Or.inl ⟨c.1, ch_1 c.1⟩)
  · exact Or.inr (Or.inr ⟨c.1, ch_2 c.1⟩)
theorem ch_step {m x : Sc} {how o : Int32} (hH : HOK m) (hx : Val x) (ho : o = how ∨ (2 ≤ how ∧ x 6 = 1)) : (how < 2 → chz (rRal m x o) ≤ chz x) ∧ (¬ how < 2 → x 6 = 0 → chz (rRal m x o) = chz x + 1) ∧ (x 6 = 1 → chz (rRal m x o) + 1 ≤ chz x) := by
  rcases ral_shape (how := o) hH hx with ⟨s6, s1, s2, s3⟩ | ⟨s6, s1, s2, s3⟩ | ⟨s6, s2, s3⟩
  · have e : o = how := ho.resolve_right (fun z => by rw [s6] at z; exact absurd z.2 (by decide))
    subst e
    refine ⟨fun _ => ?_, fun z => absurd s1 z, fun z => by rw [s6] at z; exact absurd z (by decide)⟩
    rcases s3 with s3 | ⟨a, b, c⟩
    · rw [ch_0 s3]; exact Nat.zero_le _
    · rw [ch_1 b, ch_1 a]; exact Nat.le_refl _
  · have e : o = how := ho.resolve_right (fun z => by rw [s6] at z; exact absurd z.2 (by decide))
    subst e
    refine ⟨fun z => absurd z s1, fun _ _ => ?_, fun z => by rw [s6] at z; exact absurd z (by decide)⟩
    rcases s3 with ⟨a, b, c, d⟩ | ⟨a, b, c, d⟩
    · rw [ch_1 b, ch_0 a]
    · rw [ch_2 b, ch_1 a]
  · have k : chz (rRal m x o) + 1 ≤ chz x := by
      rcases s3 with ⟨a, b⟩ | ⟨a, b, c, d⟩
      · rw [ch_0 a]
        rcases ch_v hx with c | c | c
        · exact absurd c.1 b
        · rw [c.2]; exact Nat.le_refl _
        · rw [c.2]; decide
      · rw [ch_1 b, ch_2 a]; exact Nat.le_refl _
    exact ⟨fun _ => by omega, fun _ z => by rw [s6] at z; exact absurd z (by decide), fun _ => k⟩
def InvB (m : Sc) (o gv g0 h0 q : Nat) (sr : Int32 × Int32 × Bool) (x : Sc) : Prop := Knd m sr x ∧ ∃ n, 2 * n + chz x ≤ q ∧ PT o gv g0 h0 (gzN x) (zN x) (aN x) (bN x) n
theorem Pt0.v {x y : Sc} (h : Pt0 x y) : gzN y = gzN x ∧ zN y = zN x ∧ aN y = aN x ∧ bN y = bN x := by
  obtain ⟨h0, h1, h7, h8⟩ := h
  unfold gzN zN aN bN
  rw [h0, h1, h7, h8]
  exact ⟨rfl, rfl, rfl, rfl⟩
theorem InvB.step {m x : Sc} {o gv g0 h0 q : Nat} {sr : Int32 × Int32 × Bool} {how o' : Int32} (hH : HOK m) (eo : o = (m 197).toNatClampNeg) (eg : gv = (m 198).toNatClampNeg) (hx : VG x) (ho : o' = how ∨ (2 ≤ how ∧ x 6 = 1)) (H : InvB m o gv g0 h0 q sr x) : InvB m o gv g0 h0 (if how < 2 then q + 2 else q + 1) (srN sr how) (rRal m x o') := by
  obtain ⟨hk, n, hn, hp⟩ := H
  refine ⟨hk.step hH hx.1 ho, ?_⟩
  obtain ⟨c1, c2, c3⟩ := ch_step hH hx.1 ho
  have k0 : Pt0 x (rRal m x o') → PT o gv g0 h0 (gzN (rRal m x o')) (zN (rRal m x o')) (aN (rRal m x o')) (bN (rRal m x o')) n := by
    intro z
    obtain ⟨a, b, c, d⟩ := z.v
    rw [a, b, c, d]; exact hp
  have k1 : Pt1 m x (rRal m x o') → PT o gv g0 h0 (gzN (rRal m x o')) (zN (rRal m x o')) (aN (rRal m x o')) (bN (rRal m x o')) (n + 1) := by
    rintro ⟨p, hpp, z⟩
    obtain ⟨a, b, c, d⟩ := z.v
    rw [a, b, c, d]; exact hp.pt hH eo eg hx hpp
  rcases ral_shape (how := o') hH hx.1 with ⟨s6, s1, s2, s3⟩ | ⟨s6, s1, s2, s3⟩ | ⟨s6, s2, s3⟩
  · have e : o' = how := ho.resolve_right (fun z => by rw [s6] at z; exact absurd z.2 (by decide))
    subst e
    rw [if_pos s1]
    have := c1 s1
    exact ⟨n + 1, by omega, k1 s2⟩
  · have e : o' = how := ho.resolve_right (fun z => by rw [s6] at z; exact absurd z.2 (by decide))
    subst e
    rw [if_neg s1]
    have := c2 s1 s6
    exact ⟨n, by omega, k0 s2⟩
  · have c4 := c3 s6
    have hq : 2 * (n + 1) + chz (rRal m x o') ≤ (if how < 2 then q + 2 else q + 1) := by split <;> omega
    rcases s2 with s2 | s2
    · exact ⟨n + 1, hq, (k0 s2).mono (by omega)⟩
    · exact ⟨n + 1, hq, k1 s2⟩
theorem InvB.al {m x y : Sc} {o gv g0 h0 q : Nat} {sr : Int32 × Int32 × Bool} (H : InvB m o gv g0 h0 q sr y) (hA : AlkG x y) : InvB m o gv g0 h0 q sr x := by
  obtain ⟨⟨a0, a1, a2, a3, a6, a4, a5⟩, a7, a8⟩ := hA
  obtain ⟨hk, n, hn, hp⟩ := H
  refine ⟨?_, n, ?_, ?_⟩
  · rcases hk with h | ⟨h1, h | h | h⟩ | h
    · exact Or.inl (a3.trans h)
    · exact Or.inr (Or.inl ⟨h1, Or.inl ⟨a3.trans h.1, (a4 (by rw [a3, h.1]; decide)).trans h.2.1, by rw [a6, a0, a1]; exact h.2.2⟩⟩)
    · exact Or.inr (Or.inl ⟨h1, Or.inr (Or.inl ⟨a3.trans h.1, (a4 (by rw [a3, h.1]; decide)).trans h.2.1, (a5 (a3.trans h.1)).trans h.2.2⟩)⟩)
    · exact Or.inr (Or.inl ⟨h1, Or.inr (Or.inr ⟨a3.trans h.1, (a4 (by rw [a3, h.1]; decide)).trans h.2.1, a6.trans h.2.2⟩)⟩)
    · exact Or.inr (Or.inr ⟨h.1, a3.trans h.2.1, (a4 (by rw [a3, h.2.1]; decide)).trans h.2.2⟩)
  · unfold chz at *; rw [a3]; exact hn
  · unfold gzN zN aN bN at *; rw [a0, a1, a7, a8]; exact hp
theorem suc_mem {m : Sc} {how : Int32} {c G : Nat} (hH : HOK m) (hG : m 194 = nI G) (hG6 : G ≤ 6) (hh : hOK how) (hc : cOK c) : ∀ t ∈ sucR m how c, ∃ o, (o = how ∨ (2 ≤ how ∧ UW m c 6 = 1)) ∧ AlkG (UW m t.1) (rRal m (UW m c) o) ∧ VG (rRal m (UW m c) o) ∧ t.1 = wC (rRal m (UW m c) o) := by
  intro t ht
  have hx := UW_VG m hc
  unfold sucR at ht
  split at ht
  · rename_i ho
    rcases List.mem_cons.mp ht with h | h
    · have hv := VG_rRal (how := how) hH hG hG6 hx ho (fun _ => hh)
      rw [h]; exact ⟨how, Or.inl rfl, (wh_of (m := m) hv).2.2, hv, rfl⟩
    · split at h
      · rename_i h6
        obtain ⟨o, _, h2⟩ := List.mem_map.mp h
        have hv := VG_rRal (how := o) hH hG hG6 hx ho (fun z => absurd z (by rw [h6.2]; decide))
        rw [← h2]; exact ⟨o, Or.inr h6, (wh_of (m := m) hv).2.2, hv, rfl⟩
      · simp at h
  · simp at ht
theorem suc_one {m : Sc} {how : Int32} {c : Nat} (h : ¬ (2 ≤ how ∧ UW m c 6 = 1)) : (sucR m how c).length ≤ 1 := by
  unfold sucR
  rw [if_neg h]
  split
  · exact Nat.le_refl _
  · exact Nat.zero_le _
def qK (m tp : Sc) : Nat → Nat
  | 0 => chz (S m)
  | k + 1 => if hwF tp (2 * k) < 2 then qK m tp k + 2 else qK m tp k + 1
def dK (tp : Sc) : Nat → Nat
  | 0 => 0
  | k + 1 => if hwF tp (2 * k) < 2 then dK tp k else dK tp k + 1
def sK (m tp : Sc) : Nat → Int32 × Int32 × Bool
  | 0 => if S m 3 = 2 then (S m 4, S m 5, true) else (0, S m 4, false)
  | k + 1 => srN (sK m tp k) (hwF tp (2 * k))
theorem q_d (m tp : Sc) : ∀ k, qK m tp k + dK tp k = 2 * k + chz (S m)
  | 0 => by rw [qK, dK]; omega
  | k + 1 => by
    have := q_d m tp k
    rw [qK, dK]
    split <;> omega
theorem al_all {m tp : Sc} {G N : Nat} (hH : HOK m) (hG : m 194 = nI G) (hG6 : G ≤ 6) (hV : VG (S m)) (hh : ∀ j, j < N → hOK (hwF tp (2 * j))) : ∀ k, k ≤ N → AlN k (mdLN m tp k)
  | 0, _ => by
    refine ⟨by simp [mdLN], fun x hx => ?_⟩
    rw [mdLN, List.mem_singleton] at hx
    rw [hx]
    exact ⟨(wh_of (m := m) hV).1, 0, Nat.le_refl _, by simp⟩
  | k + 1, h => by
    rw [mdLN]
    exact (al_all hH hG hG6 hV hh k (by omega)).step hH hG hG6 (hh k (by omega))
theorem inv_all {m tp : Sc} {G N o gv : Nat} (hH : HOK m) (hG : m 194 = nI G) (hG6 : G ≤ 6) (hV : VG (S m)) (eo : o = (m 197).toNatClampNeg) (eg : gv = (m 198).toNatClampNeg) (hh : ∀ j, j < N → hOK (hwF tp (2 * j))) : ∀ k, k ≤ N → ∀ e ∈ mdLN m tp k, ∃ y, VG y ∧ e.1 = wC y ∧ InvB m o gv (gzN (S m)) (zN (S m)) (qK m tp k) (sK m tp k) y
  | 0, _ => by
    intro e he
    rw [mdLN, List.mem_singleton] at he
    rw [he]
    refine ⟨S m, hV, rfl, ?_, 0, ?_, Or.inl ⟨rfl, rfl⟩⟩
    · rw [sK]
      rcases hV.1.2.2 with c | c | c
      · exact Or.inl c.1
      · rw [if_neg (by rw [c.1]; decide)]
        exact Or.inr (Or.inr ⟨rfl, c.1, rfl⟩)
      · rw [if_pos c.1]
        exact Or.inr (Or.inl ⟨rfl, Or.inr (Or.inl ⟨c.1, rfl, rfl⟩)⟩)
    · rw [qK]; omega
  | k + 1, h => by
    have ih := inv_all hH hG hG6 hV eo eg hh k (by omega)
    have ha := al_all hH hG hG6 hV hh k (by omega)
    rw [mdLN]
    refine fold_all (A := fun c _ => ∃ y, VG y ∧ c = wC y ∧ InvB m o gv (gzN (S m)) (zN (S m)) (qK m tp (k + 1)) (sK m tp (k + 1)) y) (fun _ _ _ h _ => h) _ (fun _ h => by simp at h) (fun x hx => ?_)
    obtain ⟨e, he, hx⟩ := List.mem_flatMap.mp hx
    unfold conN at hx
    obtain ⟨t, ht, hx⟩ := List.mem_map.mp hx
    obtain ⟨o', h1, h2, h3, h4⟩ := suc_mem hH hG hG6 (hh k (by omega)) (ha.2 e he).1 t ht
    obtain ⟨y, hy, ey, iy⟩ := ih e he
    have ix : InvB m o gv (gzN (S m)) (zN (S m)) (qK m tp k) (sK m tp k) (UW m e.1) := by
      rw [ey]
      exact iy.al (wh_of (m := m) hy).2.2
    rw [← hx, qK, sK]
    exact ⟨_, h3, h4, ix.step hH eo eg (UW_VG m (ha.2 e he).1) h1⟩
/-! few rallies that died: by weights -/
def wK (m : Sc) (R c : Nat) : Nat := 3 ^ ((R + chz (UW m c)) / 2)
theorem wt_le {w : Nat → Nat} {B : Nat} {f : Nat × Nat → Nat → Nat} : ∀ (T : List (Nat × Nat)), (∀ t ∈ T, w t.1 ≤ B) → wtS w (T.map (fun t => (t.1, f t))) ≤ T.length * B
  | [], _ => by rw [List.map_nil, wtS]; exact Nat.zero_le _
  | t :: T, h => by
    rw [List.map_cons, wtS, List.length_cons, Nat.add_mul, Nat.one_mul]
    have h1 := wt_le (w := w) (B := B) (f := f) T (fun x hx => h x (by simp [hx]))
    have h2 := h t (by simp)
    dsimp only
    omega
theorem p3 {a b : Nat} (h : a ≤ b) : 3 ^ a ≤ 3 ^ b := Nat.pow_le_pow_right (by decide) h
theorem wt_suc {m : Sc} {how : Int32} {c G R : Nat} {N : Nat → Nat} (hH : HOK m) (hG : m 194 = nI G) (hG6 : G ≤ 6) (hh : hOK how) (hc : cOK c) : wtS (wK m R) (conN m how (c, N)) ≤ wK m (R + if how < 2 then 0 else 1) c := by
  have hx := (UW_VG m hc).1
  have hch : ∀ t ∈ sucR m how c, ∃ o, (o = how ∨ (2 ≤ how ∧ UW m c 6 = 1)) ∧ chz (UW m t.1) = chz (rRal m (UW m c) o) := by
    intro t ht
    obtain ⟨o, h1, h2, _⟩ := suc_mem hH hG hG6 hh hc t ht
    exact ⟨o, h1, by unfold chz; rw [h2.1.2.2.2.1]⟩
  unfold conN
  dsimp only
  by_cases hb : 2 ≤ how ∧ UW m c 6 = 1
  · have hB : ∀ t ∈ sucR m how c, wK m R t.1 ≤ 3 ^ ((R + (chz (UW m c) - 1)) / 2) := by
      intro t ht
      obtain ⟨o, h1, h2⟩ := hch t ht
      have h3 := (ch_step hH hx h1).2.2 hb.2
      unfold wK
      rw [h2]
      exact p3 (by omega)
    have h1 := wt_le (f := fun t => shN N t.2) _ hB
    have h2 := Nat.mul_le_mul_right (3 ^ ((R + (chz (UW m c) - 1)) / 2)) (suc_len m how c)
    have h0 : 1 ≤ chz (UW m c) := by
      rcases hx.2.2 with z | z | z
      · rw [hb.2] at z; exact absurd z.2 (by decide)
      · rw [ch_1 z.1]; exact Nat.le_refl _
      · rw [ch_2 z.1]; decide
    rw [if_neg (Int32.not_lt.mpr hb.1)]
    have e : wK m (R + 1) c = 3 * 3 ^ ((R + (chz (UW m c) - 1)) / 2) := by
      unfold wK
      rw [show (R + 1 + chz (UW m c)) / 2 = (R + (chz (UW m c) - 1)) / 2 + 1 by omega, Nat.pow_succ, Nat.mul_comm]
    omega
  · have hB : ∀ t ∈ sucR m how c, wK m R t.1 ≤ wK m (R + if how < 2 then 0 else 1) c := by
      intro t ht
      obtain ⟨o, h1, h2⟩ := hch t ht
      obtain ⟨c1, c2, c3⟩ := ch_step hH hx h1
      unfold wK
      rw [h2]
      refine p3 ?_
      by_cases hw : how < 2
      · have := c1 hw
        rw [if_pos hw]; omega
      · have h60 : UW m c 6 = 0 := by
          rcases hx.2.2 with z | z | z
          · exact z.2
          · exact z.2.2.resolve_right (fun y => hb ⟨Int32.not_lt.mp hw, y⟩)
          · exact absurd ⟨Int32.not_lt.mp hw, z.2.2.2⟩ hb
        have := c2 hw h60
        rw [if_neg hw]; omega
    have h1 := wt_le (f := fun t => shN N t.2) _ hB
    have h2 := Nat.mul_le_mul_right (wK m (R + if how < 2 then 0 else 1) c) (suc_one hb)
    omega
theorem wt_con {m : Sc} {how : Int32} {G R : Nat} (hH : HOK m) (hG : m 194 = nI G) (hG6 : G ≤ 6) (hh : hOK how) : ∀ L : StN, (∀ x ∈ L, cOK x.1) → wtS (wK m R) (L.flatMap (conN m how)) ≤ wtS (wK m (R + if how < 2 then 0 else 1)) L
  | [], _ => by rw [List.flatMap_nil, wtS, wtS]; exact Nat.le_refl _
  | e :: L, h => by
    rw [List.flatMap_cons, wt_app, wtS]
    have h1 := wt_con (R := R) hH hG hG6 hh L (fun x hx => h x (by simp [hx]))
    have h2 := wt_suc (R := R) (N := e.2) hH hG hG6 hh (h e (by simp))
    have e1 : (e.1, e.2) = e := rfl
    rw [e1] at h2
    omega
theorem wt_all {m tp : Sc} {G N : Nat} (hH : HOK m) (hG : m 194 = nI G) (hG6 : G ≤ 6) (hV : VG (S m)) (hh : ∀ j, j < N → hOK (hwF tp (2 * j))) : ∀ k, k ≤ N → ∀ R, wtS (wK m R) (mdLN m tp k) ≤ 3 ^ ((R + dK tp k + chz (S m)) / 2)
  | 0, _, R => by
    rw [mdLN, wtS, wtS]
    unfold wK chz
    dsimp only
    rw [(wh_of (m := m) hV).2.2.1.2.2.2.1]
    exact Nat.le_refl _
  | k + 1, h, R => by
    have ha := al_all hH hG hG6 hV hh k (by omega)
    have ih := wt_all hH hG hG6 hV hh k (by omega) (R + if hwF tp (2 * k) < 2 then 0 else 1)
    have h1 := wt_con (R := R) hH hG hG6 (hh k (by omega)) (mdLN m tp k) (fun x hx => (ha.2 x hx).1)
    have h2 := wt_fold (op := adN) (w := wK m R) ((mdLN m tp k).flatMap (conN m (hwF tp (2 * k)))) []
    rw [mdLN]
    have e0 : wtS (wK m R) ([] : StN) = 0 := rfl
    have h3 : (R + (if hwF tp (2 * k) < 2 then 0 else 1) + dK tp k + chz (S m)) / 2 = (R + dK tp (k + 1) + chz (S m)) / 2 := by
      rw [dK]
      split <;> omega
    rw [h3] at ih
    omega
/-! many: by their number -/
def okq (o gv i j A B n : Nat) : Bool := ((Nat.ble A 6 && Nat.ble B 6) || (A == 7 && B == 6) || (A == 6 && B == 7)) && ((i == 0 && j == 0) || (Nat.ble 3 (A + o) && Nat.ble (3 + gv) B && Nat.ble (bs (c0N o gv) (c1N gv) i j + (A + o - 3) + (B - 3 - gv)) n))
def QL (o gv n : Nat) : List (Nat × Nat × Nat) := (List.range 7).flatMap (fun i => (List.range 7).flatMap (fun j => ((List.range 64).filter (fun w => okq o gv i j (w / 8) (w % 8) n)).map (fun w => (i, j, w))))
def QC (o gv n : Nat) : Nat := ((List.range 7).map (fun i => ((List.range 7).map (fun j => ((List.range 64).filter (fun w => okq o gv i j (w / 8) (w % 8) n)).length)).sum)).sum
theorem QL_C (o gv n : Nat) : (QL o gv n).length = QC o gv n := by
  unfold QL QC
  simp only [List.length_flatMap, List.length_map]
theorem QC_le : ∀ o, o < 4 → ∀ gv, gv < 4 → 2 * QC o gv 24 + 6 * QC o gv 23 ≤ 4000 := by decide +kernel
theorem QL_mem {o gv n i j A B : Nat} (hi : i < 7) (hj : j < 7) (hA : A < 8) (hB : B < 8) (h : okq o gv i j A B n = true) : (i, j, A * 8 + B) ∈ QL o gv n := by
  unfold QL
  refine List.mem_flatMap.mpr ⟨i, List.mem_range.mpr hi, List.mem_flatMap.mpr ⟨j, List.mem_range.mpr hj, List.mem_map.mpr ⟨A * 8 + B, List.mem_filter.mpr ⟨List.mem_range.mpr (by omega), ?_⟩, rfl⟩⟩⟩
  rw [show (A * 8 + B) / 8 = A by omega, show (A * 8 + B) % 8 = B by omega]
  exact h
def cdI (a b s c g h : Int32) : Int32 := ((((a + 3) * 8 + b + 3) * 242 + 121 * s + c) * 8 + g) * 8 + h
def ckK (m : Sc) (sr : Int32 × Int32 × Bool) (a b : Int32) : Nat → Int32
  | 0 => 0
  | 1 => if sr.2.2 = true then (if loff m a b = 1 then 11 + sr.2.1 else 1 + sr.2.1) else 1 + sr.2.1
  | 2 => if sr.2.2 = true then 21 + 10 * sr.1 + sr.2.1 else 11 + sr.2.1
  | _ => 11 + sr.1
theorem ckK_1 (m : Sc) (sr : Int32 × Int32 × Bool) (a b : Int32) : ckK m sr a b 1 = if sr.2.2 = true then (if loff m a b = 1 then 11 + sr.2.1 else 1 + sr.2.1) else 1 + sr.2.1 := rfl
theorem ckK_2 (m : Sc) (sr : Int32 × Int32 × Bool) (a b : Int32) : ckK m sr a b 2 = if sr.2.2 = true then 21 + 10 * sr.1 + sr.2.1 else 11 + sr.2.1 := rfl
theorem Knd.ck {m x : Sc} {sr : Int32 × Int32 × Bool} (hx : Val x) (h : Knd m sr x) : (x 3 = 0 ∧ rCk x = ckK m sr (x 0) (x 1) 0) ∨ (1 ≤ chz x ∧ (rCk x = ckK m sr (x 0) (x 1) 1 ∨ rCk x = ckK m sr (x 0) (x 1) 2 ∨ rCk x = ckK m sr (x 0) (x 1) 3)) := by
  rcases h with h | ⟨h1, h | h | h⟩ | h
  · left
    refine ⟨h, ?_⟩
    unfold rCk
    rw [if_pos h]
    rfl
  · right
    refine ⟨by rw [ch_1 h.1]; exact Nat.le_refl _, Or.inl ?_⟩
    rw [ckK_1]
    unfold rCk
    rw [if_neg (by rw [h.1]; decide), if_neg (by rw [h.1]; decide), if_pos h1, h.2.2, h.2.1]
  · right
    refine ⟨by rw [ch_2 h.1]; decide, Or.inr (Or.inl ?_)⟩
    rw [ckK_2]
    unfold rCk
    rw [if_neg (by rw [h.1]; decide), if_pos h.1, if_pos h1, h.2.1, h.2.2]
  · right
    refine ⟨by rw [ch_1 h.1]; exact Nat.le_refl _, Or.inr (Or.inr ?_)⟩
    unfold rCk
    rw [if_neg (by rw [h.1]; decide), if_neg (by rw [h.1]; decide), if_pos h.2.2, h.2.1]
    rfl
  · right
    refine ⟨by rw [ch_1 h.2.1]; exact Nat.le_refl _, ?_⟩
    have hf : ¬ sr.2.2 = true := by rw [h.1]; decide
    unfold rCk
    rw [if_neg (by rw [h.2.1]; decide), if_neg (by rw [h.2.1]; decide), h.2.2]
    by_cases h6 : x 6 = 1
    · rw [if_pos h6]
      right; left
      rw [ckK_2, if_neg hf]
    · rw [if_neg h6]
      left
      rw [ckK_1, if_neg hf]
def cdZ (m : Sc) (sr : Int32 × Int32 × Bool) (g0 h0 : Nat) (z : Nat × Nat × Nat) (s : Int32) (kd : Nat) : Nat := (cdI (nI (z.2.2 / 8) - 3) (nI (z.2.2 % 8) - 3) s (ckK m sr (nI (z.2.2 / 8) - 3) (nI (z.2.2 % 8) - 3) kd) (nI (g0 + z.1)) (nI (h0 + z.2.1))).toNatClampNeg
def MB (m : Sc) (sr : Int32 × Int32 × Bool) (g0 h0 o gv : Nat) : List Nat := (QL o gv 24).flatMap (fun z => [cdZ m sr g0 h0 z 0 0, cdZ m sr g0 h0 z 1 0]) ++ (QL o gv 23).flatMap (fun z => [cdZ m sr g0 h0 z 0 1, cdZ m sr g0 h0 z 1 1, cdZ m sr g0 h0 z 0 2, cdZ m sr g0 h0 z 1 2, cdZ m sr g0 h0 z 0 3, cdZ m sr g0 h0 z 1 3])
theorem fmp_len {α β : Type} {f : α → List β} {c : Nat} (h : ∀ x, (f x).length = c) : ∀ L : List α, (L.flatMap f).length = c * L.length
  | [] => by simp
  | x :: L => by rw [List.flatMap_cons, List.length_append, fmp_len h L, h x, List.length_cons, Nat.mul_succ, Nat.add_comm]
theorem MB_len {m : Sc} {sr : Int32 × Int32 × Bool} {g0 h0 o gv : Nat} (ho : o < 4) (hg : gv < 4) : (MB m sr g0 h0 o gv).length ≤ 4000 := by
  unfold MB
  rw [List.length_append, fmp_len (c := 2) (fun _ => rfl), fmp_len (c := 6) (fun _ => rfl), QL_C, QL_C]
  exact QC_le o ho gv hg
theorem ok_fin : ∀ a ∈ l8, ∀ b ∈ l8, ptOK a b → (((a + 3).toNatClampNeg ≤ 6 ∧ (b + 3).toNatClampNeg ≤ 6) ∨ ((a + 3).toNatClampNeg = 7 ∧ (b + 3).toNatClampNeg = 6) ∨ ((a + 3).toNatClampNeg = 6 ∧ (b + 3).toNatClampNeg = 7)) ∧ nI (a + 3).toNatClampNeg - 3 = a ∧ nI (b + 3).toNatClampNeg - 3 = b := by decide +kernel
theorem PT.ok {o gv g0 h0 g h A B n : Nat} (hAB : (A ≤ 6 ∧ B ≤ 6) ∨ (A = 7 ∧ B = 6) ∨ (A = 6 ∧ B = 7)) (hg : g ≤ 6) (hh : h ≤ 6) (H : PT o gv g0 h0 g h A B n) : ∃ i j, i < 7 ∧ j < 7 ∧ g = g0 + i ∧ h = h0 + j ∧ ∀ k, n ≤ k → okq o gv i j A B k = true := by
  have h1 : ((Nat.ble A 6 && Nat.ble B 6) || (A == 7 && B == 6) || (A == 6 && B == 7)) = true := by
    rcases hAB with ⟨a, b⟩ | ⟨a, b⟩ | ⟨a, b⟩
    · rw [Nat.ble_eq.mpr a, Nat.ble_eq.mpr b]; rfl
    · subst a; subst b; rfl
    · subst a; subst b; rfl
  rcases H with ⟨a, b⟩ | ⟨i, j, z1, z2, z3, z4, z5, z6⟩
  · refine ⟨0, 0, by decide, by decide, by omega, by omega, fun k _ => ?_⟩
    unfold okq
    rw [h1]
    rfl
  · refine ⟨i, j, by omega, by omega, z2, z3, fun k hk => ?_⟩
    unfold okq
    rw [h1, Nat.ble_eq.mpr z4, Nat.ble_eq.mpr z5, Nat.ble_eq.mpr (Nat.le_trans z6 hk)]
    simp
theorem MB_mem {m x : Sc} {sr : Int32 × Int32 × Bool} {g0 h0 o gv : Nat} (hx : VG x) (H : InvB m o gv g0 h0 48 sr x) : wC x ∈ MB m sr g0 h0 o gv := by
  obtain ⟨hk, n, hn, hp⟩ := H
  obtain ⟨hv, ⟨a, ha, ea⟩, ⟨b, hb, eb⟩⟩ := hx
  obtain ⟨la, lb⟩ := pt_l8 hv.1
  obtain ⟨f1, f2, f3⟩ := ok_fin _ la _ lb hv.1
  rw [gzN_1 ha ea, zN_1 hb eb] at hp
  unfold aN bN at hp
  obtain ⟨i, j, hi, hj, eg, eh, hok⟩ := hp.ok f1 ha hb
  have hA : (x 0 + 3).toNatClampNeg < 8 := by omega
  have hB : (x 1 + 3).toNatClampNeg < 8 := by omega
  have ew : ∀ kd s, x 2 = s → rCk x = ckK m sr (x 0) (x 1) kd → wC x = cdZ m sr g0 h0 (i, j, (x 0 + 3).toNatClampNeg * 8 + (x 1 + 3).toNatClampNeg) s kd := by
    intro kd s e2 ec
    unfold wC cdZ
    dsimp only
    rw [show ((x 0 + 3).toNatClampNeg * 8 + (x 1 + 3).toNatClampNeg) / 8 = (x 0 + 3).toNatClampNeg by omega, show ((x 0 + 3).toNatClampNeg * 8 + (x 1 + 3).toNatClampNeg) % 8 = (x 1 + 3).toNatClampNeg by omega, f2, f3, ← eg, ← eh, ← ea, ← eb, ← e2, ← ec]
    rfl
  unfold MB
  rcases hk.ck hv with ⟨h3, ec⟩ | ⟨h1, ec⟩
  · refine List.mem_append.mpr (Or.inl (List.mem_flatMap.mpr ⟨_, QL_mem hi hj hA hB (hok 24 (by omega)), ?_⟩))
    rcases hv.2.1 with e2 | e2
    · rw [ew 0 0 e2 ec]; simp
    · rw [ew 0 1 e2 ec]; simp
  · refine List.mem_append.mpr (Or.inr (List.mem_flatMap.mpr ⟨_, QL_mem hi hj hA hB (hok 23 (by omega)), ?_⟩))
    rcases hv.2.1 with e2 | e2
    · rcases ec with ec | ec | ec
      · rw [ew 1 0 e2 ec]; simp
      · rw [ew 2 0 e2 ec]; simp
      · rw [ew 3 0 e2 ec]; simp
    · rcases ec with ec | ec | ec
      · rw [ew 1 1 e2 ec]; simp
      · rw [ew 2 1 e2 ec]; simp
      · rw [ew 3 1 e2 ec]; simp
theorem md_len {m tp : Sc} {G N : Nat} (hH : HOK m) (hG : m 194 = nI G) (hG6 : G ≤ 6) (hV : VG (S m)) (h30 : N ≤ 30) (hh : ∀ j, j < N → hOK (hwF tp (2 * j))) : ∀ k, k ≤ N → (mdLN m tp k).length ≤ 4000 := by
  intro k hk
  have hc2 : chz (S m) ≤ 2 := by
    rcases ch_v hV.1 with c | c | c <;> omega
  rcases Nat.lt_or_ge (dK tp k + chz (S m)) 16 with h | h
  · have h1 := wt_all hH hG hG6 hV hh k hk 0
    have h2 := wt_len (w := wK m 0) (fun c => Nat.pos_of_ne_zero (by unfold wK; exact Nat.ne_of_gt (Nat.pow_pos (by decide)))) (mdLN m tp k)
    have h3 : 3 ^ ((0 + dK tp k + chz (S m)) / 2) ≤ 3 ^ 7 := p3 (by omega)
    have h4 : (3 : Nat) ^ 7 ≤ 4000 := by decide
    omega
  · have ha := al_all hH hG hG6 hV hh k hk
    have hi := inv_all hH hG hG6 hV rfl rfl hh k hk
    have hq : qK m tp k ≤ 48 := by have := q_d m tp k; omega
    have f3 := (h_fin _ (l4_of hH.1)).2.2
    have k3 := (h_fin _ (l4_of hH.2)).2.2
    have hl := nodup_sub (M := MB m (sK m tp k) (gzN (S m)) (zN (S m)) (m 197).toNatClampNeg (m 198).toNatClampNeg) ha.1 (fun c hc => by
      obtain ⟨e, he, rfl⟩ := List.mem_map.mp hc
      obtain ⟨y, hy, ey, z1, n, z2, z3⟩ := hi e he
      rw [ey]
      exact MB_mem hy ⟨z1, n, Nat.le_trans z2 hq, z3⟩)
    rw [List.length_map] at hl
    exact Nat.le_trans hl (MB_len (by omega) (by omega))

