/-! ===== set: class = reference ===== -/
theorem hdV_A {m tb : Sc} {p th : Int32} {j S H : Nat} (hH : HOK m) (hc : ChO m) (ht : RgT tb) (hj : j < 15488) (hcan : ¬ rCan (nI j) = 0) (hS : S < 4) (hH4 : H < 4) : hdV m tb p th j S H = nI (sN (fun w => chN m (12 * (4 * S + H) + w) * (RT m tb p th (U m (nI j)) (nI w)).toNatClampNeg) 12 / 100) := by
  have hr : ∀ w, w < 12 → RT m tb p th (U m (nI j)) (nI w) = nI (RT m tb p th (U m (nI j)) (nI w)).toNatClampNeg ∧ (RT m tb p th (U m (nI j)) (nI w)).toNatClampNeg ≤ 1000000000 := by
    intro w hw
    obtain ⟨n, h1, h2⟩ := RT_N (p := p) (th := th) hH ht hj hcan hw
    rw [h2, nI_clamp (by omega)]
    exact ⟨rfl, h1⟩
  have hs : ∀ n, n ≤ 12 → hdS m tb p th j S H n = lN (sN (fun w => chN m (12 * (4 * S + H) + w) * (RT m tb p th (U m (nI j)) (nI w)).toNatClampNeg) n) := by
    intro n
    induction n with
    | zero => intro _; rfl
    | succ n ih =>
      intro hn
      have e1 := (hc.1 (12 * (4 * S + H) + n) (by omega))
      have e2 := hr n (by omega)
      rw [hdS, sN, ih (by omega), hdT_RT, ← lN_add]
      congr 1
      unfold hdC
      rw [e1.1, e2.1, nI_l (by omega), nI_l (by omega), lN_mul, nI_clamp (by omega)]
  have hle := sN_le (f := fun w => chN m (12 * (4 * S + H) + w)) (g := fun w => (RT m tb p th (U m (nI j)) (nI w)).toNatClampNeg) (B := 1000000000) 12 (fun w hw => (hr w hw).2)
  rw [hc.2 (4 * S + H) (by omega)] at hle
  unfold hdV
  rw [hs 12 (Nat.le_refl _)]
  generalize sN (fun w => chN m (12 * (4 * S + H) + w) * (RT m tb p th (U m (nI j)) (nI w)).toNatClampNeg) 12 = A at *
  have e : lN A / 100 = lN (A / 100) := (Int64.ofNat_div (b := 100) (by omega) (by decide)).symm
  rw [e, lN_i]
theorem sN_add {f g : Nat → Nat} : ∀ n, sN (fun w => f w + g w) n = sN f n + sN g n
  | 0 => rfl
  | n + 1 => by rw [sN, sN, sN, sN_add n]; omega
theorem sN_congr {f g : Nat → Nat} : ∀ n, (∀ w, w < n → f w = g w) → sN f n = sN g n
  | 0, _ => rfl
  | n + 1, h => by rw [sN, sN, sN_congr n (fun w hw => h w (by omega)), h n (by omega)]
/-- the four ways together -/
def w4N (m : Sc) (n j : Nat) (k : Nat) : Nat := (plR m (svA m) (b01 (k / 2)) (b01 (k % 2)) n j).toNatClampNeg
theorem w4_v {m : Sc} (hH : HOK m) (hc : ChO m) (hst : stOK (svA m)) {n j : Nat} (hj : j < 15488) (k : Nat) : plR m (svA m) (b01 (k / 2)) (b01 (k % 2)) n j = nI (w4N m n j k) ∧ w4N m n j k ≤ 1000000000 := by
  obtain ⟨a, h1, h2⟩ := plR_N (p := b01 (k / 2)) (th := b01 (k % 2)) hH hc hst n j hj
  unfold w4N
  rw [h2, nI_clamp (by omega)]
  exact ⟨rfl, h1⟩
theorem w4_sum {m : Sc} (hH : HOK m) (hc : ChO m) (hst : stOK (svA m)) : ∀ n j, j < 15488 → w4N m n j 0 + w4N m n j 1 + w4N m n j 2 + w4N m n j 3 ≤ 1000000000
  | 0, j, _ => by
    have h : ∀ k, w4N m 0 j k = 0 := fun k => rfl
    rw [h, h, h, h]; omega
  | n + 1, j, hj => by
    have ih := w4_sum hH hc hst n
    by_cases hcan : rCan (nI j) = 0
    · have h : ∀ k, w4N m (n + 1) j k = 0 := fun k => by unfold w4N; rw [plR_s, if_pos hcan]; rfl
      rw [h, h, h, h]; omega
    · obtain ⟨s1, h1, e1⟩ := hst (2 * j + j / 121 % 2) (by omega)
      obtain ⟨s2, h2, e2⟩ := hst (2 * j + 1 - j / 121 % 2) (by omega)
      have hA : ∀ k, w4N m (n + 1) j k = sN (fun w => chN m (12 * (4 * s1 + s2) + w) * (RT m (plR m (svA m) (b01 (k / 2)) (b01 (k % 2)) n) (b01 (k / 2)) (b01 (k % 2)) (U m (nI j)) (nI w)).toNatClampNeg) 12 / 100 := by
        intro k
        have hb := hdV_A (p := b01 (k / 2)) (th := b01 (k % 2)) hH hc (plR_N (p := b01 (k / 2)) (th := b01 (k % 2)) hH hc hst n) hj hcan h1 h2
        have hle : sN (fun w => chN m (12 * (4 * s1 + s2) + w) * (RT m (plR m (svA m) (b01 (k / 2)) (b01 (k % 2)) n) (b01 (k / 2)) (b01 (k % 2)) (U m (nI j)) (nI w)).toNatClampNeg) 12 ≤ 100 * 1000000000 := by
          have := sN_le (f := fun w => chN m (12 * (4 * s1 + s2) + w)) (g := fun w => (RT m (plR m (svA m) (b01 (k / 2)) (b01 (k % 2)) n) (b01 (k / 2)) (b01 (k % 2)) (U m (nI j)) (nI w)).toNatClampNeg) (B := 1000000000) 12 (fun w hw => by
            obtain ⟨a, g1, g2⟩ := RT_N (p := b01 (k / 2)) (th := b01 (k % 2)) hH (plR_N (p := b01 (k / 2)) (th := b01 (k % 2)) hH hc hst n) hj hcan hw
            rw [g2, nI_clamp (by omega)]; exact g1)
          rw [hc.2 (4 * s1 + s2) (by omega)] at this
          exact this
        unfold w4N
        rw [plR_s, if_neg hcan]
        unfold hdB
        rw [e1, e2, nI_clamp (by omega), nI_clamp (by omega), hb, nI_clamp (by omega)]
      rw [hA, hA, hA, hA]
      have hR : ∀ w, w < 12 → (RT m (plR m (svA m) 0 0 n) 0 0 (U m (nI j)) (nI w)).toNatClampNeg + (RT m (plR m (svA m) 0 1 n) 0 1 (U m (nI j)) (nI w)).toNatClampNeg + (RT m (plR m (svA m) 1 0 n) 1 0 (U m (nI j)) (nI w)).toNatClampNeg + (RT m (plR m (svA m) 1 1 n) 1 1 (U m (nI j)) (nI w)).toNatClampNeg ≤ 1000000000 := by
        intro w hw
        have hv := U_Val m hj hcan
        obtain ⟨hm1, _⟩ := min_raH w hw
        have hvy : Val (rRal m (U m (nI j)) (nI w)) := Val_rRal hH hv (fun _ hlt => by
          rcases hm1 with h | h | h
          · rw [h.2] at hlt; exact absurd (by decide) hlt
          · rw [h.2] at hlt; exact absurd (by decide) hlt
          · exact h.2)
        unfold RT
        have hwn := wnW_or hv.2.1 (rWho m (U m (nI j)) (nI w))
        rw [← rWn_W] at hwn
        rcases hwn with h | h | h
        · rw [h, if_pos rfl, if_pos rfl, if_pos rfl, if_pos rfl]
          obtain ⟨k, hk, e, _⟩ := num_of (m := m) hvy
          rw [e, nI_clamp (by omega)]
          exact ih k hk
        · rw [h]
          simp only [if_neg (show ¬ (0 : Int32) = -1 by decide)]
          rcases hvy.2.1 with g | g <;> rw [g] <;> decide
        · rw [h]
          simp only [if_neg (show ¬ (1 : Int32) = -1 by decide)]
          rcases hvy.2.1 with g | g <;> rw [g] <;> decide
      have hcomb : sN (fun w => chN m (12 * (4 * s1 + s2) + w) * (RT m (plR m (svA m) 0 0 n) 0 0 (U m (nI j)) (nI w)).toNatClampNeg) 12 + sN (fun w => chN m (12 * (4 * s1 + s2) + w) * (RT m (plR m (svA m) 0 1 n) 0 1 (U m (nI j)) (nI w)).toNatClampNeg) 12 + sN (fun w => chN m (12 * (4 * s1 + s2) + w) * (RT m (plR m (svA m) 1 0 n) 1 0 (U m (nI j)) (nI w)).toNatClampNeg) 12 + sN (fun w => chN m (12 * (4 * s1 + s2) + w) * (RT m (plR m (svA m) 1 1 n) 1 1 (U m (nI j)) (nI w)).toNatClampNeg) 12 ≤ 100 * 1000000000 := by
        rw [← sN_add, ← sN_add, ← sN_add]
        have := sN_le (f := fun w => chN m (12 * (4 * s1 + s2) + w)) (g := fun w => (RT m (plR m (svA m) 0 0 n) 0 0 (U m (nI j)) (nI w)).toNatClampNeg + (RT m (plR m (svA m) 0 1 n) 0 1 (U m (nI j)) (nI w)).toNatClampNeg + (RT m (plR m (svA m) 1 0 n) 1 0 (U m (nI j)) (nI w)).toNatClampNeg + (RT m (plR m (svA m) 1 1 n) 1 1 (U m (nI j)) (nI w)).toNatClampNeg) (B := 1000000000) 12 hR
        rw [hc.2 (4 * s1 + s2) (by omega)] at this
        refine Nat.le_trans (Nat.le_of_eq ?_) this
        refine sN_congr 12 fun w _ => ?_
        simp only [Nat.mul_add]
      show sN (fun w => chN m (12 * (4 * s1 + s2) + w) * (RT m (plR m (svA m) 0 0 n) 0 0 (U m (nI j)) (nI w)).toNatClampNeg) 12 / 100 + sN (fun w => chN m (12 * (4 * s1 + s2) + w) * (RT m (plR m (svA m) 0 1 n) 0 1 (U m (nI j)) (nI w)).toNatClampNeg) 12 / 100 + sN (fun w => chN m (12 * (4 * s1 + s2) + w) * (RT m (plR m (svA m) 1 0 n) 1 0 (U m (nI j)) (nI w)).toNatClampNeg) 12 / 100 + sN (fun w => chN m (12 * (4 * s1 + s2) + w) * (RT m (plR m (svA m) 1 1 n) 1 1 (U m (nI j)) (nI w)).toNatClampNeg) 12 / 100 ≤ 1000000000
      omega
/-- sums of shares -/
theorem sg_N {wy : Nat → Int64} {s : Nat} {f : Nat → Int64} {w : Nat → Nat} {v : Nat → Nat} (hw : ∀ k, k < 4 → wy (4 * s + k) = lN (w k) ∧ w k ≤ 1000000000) (hf : ∀ k, k < 4 → f k = lN (v k) ∧ v k ≤ 1000000000) : ∀ n, n ≤ 4 → sgS wy s f n = lN (sN (fun k => w k * v k / 1000000000) n)
  | 0, _ => rfl
  | n + 1, hn => by
    have ih := sg_N hw hf n (by omega)
    obtain ⟨a1, a2⟩ := hw n (by omega)
    obtain ⟨b1, b2⟩ := hf n (by omega)
    rw [sgS_s, sN, ih, a1, b1, lN_mul, ← lN_add]
    congr 1
    have hb : w n * v n ≤ 1000000000 * 1000000000 := Nat.mul_le_mul a2 b2
    exact (Int64.ofNat_div (b := 1000000000) (by omega) (by decide)).symm
theorem share_le {w v : Nat} (hv : v ≤ 1000000000) : w * v / 1000000000 ≤ w := by
  have : w * v ≤ w * 1000000000 := Nat.mul_le_mul_left _ hv
  omega

