/-! ===== feed: class = reference ===== -/
theorem nar_byte (x : Int8) : vp_nar .byte (x.toInt32) = x.toInt32 := by
  show (x.toInt32.toInt8).toInt32 = x.toInt32
  rw [Int8.toInt8_toInt32]
theorem by_sx : ∀ b : Nat, b < 256 → ((BitVec.ofNat 8 b).signExtend 32 : BitVec 32) = (if b < 128 then nI b else nI b - 256).toBitVec := by decide +kernel
theorem by_255 : ∀ i : Nat, i < 32 → (255 : BitVec 32).getLsbD i = decide (i < 8) := by decide +kernel
theorem by_sh : ∀ c : Nat, c < 4 → ((nI (8 * c) &&& 31 : Int32).toBitVec.smod 32).toNat = 8 * c ∧ (8 * c) % 32 = 8 * c := by decide +kernel
theorem by_us : ∀ k : Nat, k < 20 → ((24 - 8 * (nI k - nI k / 4 * 4)).toUInt32 &&& Int32.toUInt32 31).toBitVec.toNat % 32 = 8 * (3 - k % 4) := by decide +kernel
theorem by_v (a : Int32) (sh : Nat) (hs : sh + 8 ≤ 32) (u : BitVec 32) (hu : ∀ i, i < 8 → u.getLsbD i = a.toBitVec.getLsbD (sh + i)) : u.toNat % 256 = (a.toBitVec.extractLsb' sh 8).toNat := by
  have : u.setWidth 8 = a.toBitVec.extractLsb' sh 8 := by
    apply BitVec.eq_of_getLsbD_eq
    intro i hi
    rw [BitVec.getLsbD_setWidth, BitVec.getLsbD_extractLsb', hu i hi]
  rw [← this, BitVec.toNat_setWidth]
theorem ap_by (a : Int32) {c : Nat} (hc : c < 4) : apB a c = (if (a.toBitVec.extractLsb' (8 * c) 8).toNat < 128 then nI (a.toBitVec.extractLsb' (8 * c) 8).toNat else nI (a.toBitVec.extractLsb' (8 * c) 8).toNat - 256) := by
  unfold apB
  rw [nar_byte]
  apply Int32.toBitVec_inj.mp
  rw [← by_sx _ (BitVec.isLt _)]
  have e : (a >>> (nI (8 * c) &&& 31)).toInt8.toBitVec = a.toBitVec.extractLsb' (8 * c) 8 := by
    show BitVec.signExtend 8 (a >>> (nI (8 * c) &&& 31)).toBitVec = _
    rw [Int32.toBitVec_shiftRight]
    apply BitVec.eq_of_getLsbD_eq
    intro i hi
    rw [BitVec.getLsbD_signExtend, BitVec.getLsbD_extractLsb', BitVec.sshiftRight_eq', (by_sh c hc).1, BitVec.getLsbD_sshiftRight]
    simp [hi, show i < 32 from by omega, show ¬ 32 ≤ i from by omega, show 8 * c + i < 32 from by omega]
  show BitVec.signExtend 32 (a >>> (nI (8 * c) &&& 31)).toInt8.toBitVec = _
  rw [e, BitVec.ofNat_toNat, BitVec.setWidth_eq]
theorem fd_by (a : Int32) {k : Nat} (hk : k < 20) : fdB a (nI k) = nI (a.toBitVec.extractLsb' (8 * (3 - k % 4)) 8).toNat := by
  unfold fdB
  apply Int32.toBitVec_inj.mp
  rw [Int32.toBitVec_and]
  apply BitVec.eq_of_toNat_eq
  have e1 : ((a.toUInt32 >>> ((24 - 8 * (nI k - nI k / 4 * 4)).toUInt32 &&& Int32.toUInt32 31)).toInt32.toBitVec) = a.toBitVec >>> (8 * (3 - k % 4)) := by
    show (a.toUInt32 >>> ((24 - 8 * (nI k - nI k / 4 * 4)).toUInt32 &&& Int32.toUInt32 31)).toBitVec = _
    rw [UInt32.toBitVec_shiftRight]
    show a.toBitVec >>> (BitVec.umod _ _) = _
    rw [BitVec.ushiftRight_eq']
    congr 1
    have := by_us k hk
    rw [← this]
    exact BitVec.toNat_umod
  rw [e1]
  have e2 := by_v a (8 * (3 - k % 4)) (by omega) (a.toBitVec >>> (8 * (3 - k % 4)) &&& (255 : Int32).toBitVec) (fun i hi => by
    rw [BitVec.getLsbD_and, show (255 : Int32).toBitVec = (255 : BitVec 32) from rfl, by_255 i (by omega), BitVec.getLsbD_ushiftRight]
    simp [hi])
  have e3 : (a.toBitVec >>> (8 * (3 - k % 4)) &&& (255 : Int32).toBitVec).toNat < 256 := by
    rw [BitVec.toNat_and, show ((255 : Int32).toBitVec).toNat = 255 from rfl]
    have := @Nat.and_le_right (a.toBitVec >>> (8 * (3 - k % 4))).toNat 255
    omega
  rw [← e2, Nat.mod_eq_of_lt e3]
  show _ = (BitVec.ofNat 32 _).toNat
  rw [BitVec.toNat_ofNat]
  omega
theorem apT_at (a : Int32) : ∀ (c t : Nat) (tp : Sc) (k : Nat), apT a c t tp k = (if t ≤ k ∧ k < t + c then apB a (c - 1 - (k - t)) else tp k)
  | 0, t, tp, k => by rw [apT, if_neg (by omega)]
  | c + 1, t, tp, k => by
    rw [apT, apT_at a c (t + 1)]
    by_cases h : k = t
    · subst h
      rw [if_neg (by omega), if_pos (by omega), pk_us]
      congr 1
      omega
    · by_cases h2 : t + 1 ≤ k ∧ k < t + 1 + c
      · rw [if_pos h2, if_pos (by omega)]
        congr 1
        omega
      · rw [if_neg h2, if_neg (by omega), pk_un h]
theorem fdW_at (a1 a2 a3 a4 a5 : Int32) (k : Nat) (hk : k < 20) : fdW a1 a2 a3 a4 a5 (nI k) = (if k < 4 then a1 else if k < 8 then a2 else if k < 12 then a3 else if k < 16 then a4 else a5) := by
  have e : ∀ c : Nat, c < 400 → ((nI c : Int32) ≤ nI k ↔ c ≤ k) := fun c hc => nI_leI (by omega) (by omega)
  unfold fdW
  rw [show (4 : Int32) = nI 4 by decide, show (8 : Int32) = nI 8 by decide, show (12 : Int32) = nI 12 by decide, show (16 : Int32) = nI 16 by decide]
  simp only [e 4 (by decide), e 8 (by decide), e 12 (by decide), e 16 (by decide)]
  by_cases h4 : k < 4
  · rw [if_neg (by omega), if_pos h4]
  · rw [if_pos (by omega), if_neg h4]
    by_cases h8 : k < 8
    · rw [if_neg (by omega), if_pos h8]
    · rw [if_pos (by omega), if_neg h8]
      by_cases h12 : k < 12
      · rw [if_neg (by omega), if_pos h12]
      · rw [if_pos (by omega), if_neg h12]
        by_cases h16 : k < 16
        · rw [if_neg (by omega), if_pos h16]
        · rw [if_pos (by omega), if_neg h16]
theorem by_one (a : Int32) {k c : Nat} (hk : k < 20) (hc : c < 4) (e : c = 3 - k % 4) : ByA (apB a c) (fdB a (nI k)) := by
  subst e
  exact ⟨(a.toBitVec.extractLsb' (8 * (3 - k % 4)) 8).toNat, BitVec.isLt _, fd_by a hk, ap_by a (by omega)⟩
/-- the tapes stay alike when they are fed -/
theorem an_feed {Tc tp : Sc} {a1 a2 a3 a4 a5 : Int32} {t : Nat} (h : ∀ k, k < 400 → ByA (Tc k) (tp k)) : ∀ k, k < 400 → ByA (apT a5 4 (t + 16) (apT a4 4 (t + 12) (apT a3 4 (t + 8) (apT a2 4 (t + 4) (apT a1 4 t Tc)))) k) (fdP tp a1 a2 a3 a4 a5 t 20 k) := by
  intro k hk
  rw [apT_at, apT_at, apT_at, apT_at, apT_at]
  unfold fdP
  by_cases h0 : t ≤ k ∧ k < t + 20
  · rw [if_pos h0, fdW_at _ _ _ _ _ _ (by omega)]
    by_cases h5 : t + 16 ≤ k
    · rw [if_pos (by omega), if_neg (by omega), if_neg (by omega), if_neg (by omega), if_neg (by omega)]
      exact by_one a5 (by omega) (by omega) (by omega)
    · rw [if_neg (by omega)]
      by_cases h4 : t + 12 ≤ k
      · rw [if_pos (by omega), if_neg (by omega), if_neg (by omega), if_neg (by omega), if_pos (by omega)]
        exact by_one a4 (by omega) (by omega) (by omega)
      · rw [if_neg (by omega)]
        by_cases h3 : t + 8 ≤ k
        · rw [if_pos (by omega), if_neg (by omega), if_neg (by omega), if_pos (by omega)]
          exact by_one a3 (by omega) (by omega) (by omega)
        · rw [if_neg (by omega)]
          by_cases h2 : t + 4 ≤ k
          · rw [if_pos (by omega), if_neg (by omega), if_pos (by omega)]
            exact by_one a2 (by omega) (by omega) (by omega)
          · rw [if_neg (by omega), if_pos (by omega), if_pos (by omega)]
            exact by_one a1 (by omega) (by omega) (by omega)
  · rw [if_neg h0, if_neg (by omega), if_neg (by omega), if_neg (by omega), if_neg (by omega), if_neg (by omega)]
    exact h k hk

