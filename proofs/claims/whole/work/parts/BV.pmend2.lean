/-! ===== mends: codes; the class's step ===== -/
def kyN (c : Nat) : Nat := c / 64 * 49 + (c / 8 % 8 * 7 + c % 8)
def kyC (c : Nat) : Int32 := nI (kyN c)
def dcC (k : Int32) : Nat := k.toNatClampNeg / 49 * 64 + k.toNatClampNeg / 7 % 7 * 8 + k.toNatClampNeg % 7
theorem kyN_lt {c : Nat} (h : cOK c) : kyN c < 758912 := by obtain ⟨h1, _, h3, h4⟩ := h; unfold kyN; omega
theorem dcC_ky {c : Nat} (h : cOK c) : dcC (kyC c) = c := by
  have h1 := kyN_lt h
  obtain ⟨_, _, h3, h4⟩ := h
  unfold dcC kyC
  rw [nI_clamp (by omega)]
  unfold kyN
  omega
theorem ky_inj {a b : Nat} (ha : cOK a) (hb : cOK b) (h : kyC a = kyC b) : a = b := by rw [← dcC_ky ha, ← dcC_ky hb, h]
/-- handicaps alike -/
def HcA (m s : Sc) : Prop := s 9 = m 197 ∧ s 10 = m 198
theorem U_o (m M : Sc) (k : Int32) : ∀ j, j < 7 → U m k j = U M k j := by
  intro j hj
  unfold U rUn
  have h7 : ¬ j = 7 := by omega
  have h8 : ¬ j = 8 := by omega
  simp only [upd_at, if_neg h7, if_neg h8]
theorem fe_eq {m s : Sc} {c : Nat} (hs : HcA m s) (hc : cOK c) : SA m (feM s (kyC c)) (UW m c) ∧ HcA m (feM s (kyC c)) := by
  have hk := kyN_lt hc
  obtain ⟨h1, h2, h3, h4⟩ := hc
  have e1 : kyC c / 49 = nI (c / 64) := by
    unfold kyC
    rw [nI_div (d := 49) (by decide) (by omega) (by decide) (by decide)]
    congr 1
    unfold kyN
    omega
  have e7 : kyC c / 7 = nI (kyN c / 7) := by unfold kyC; exact nI_div (d := 7) (by decide) (by omega) (by decide) (by decide)
  have e2 : kyC c / 7 - kyC c / 7 / 7 * 7 = nI (c / 8 % 8) := by
    rw [e7, nI_rem (d := 7) (by decide) (by omega) (by decide) (by decide)]
    congr 1
    unfold kyN
    omega
  have e3 : kyC c - kyC c / 7 * 7 = nI (c % 8) := by
    show nI (kyN c) - nI (kyN c) / 7 * 7 = _
    rw [nI_rem (d := 7) (by decide) (by omega) (by decide) (by decide)]
    congr 1
    unfold kyN
    omega
  have hb := bec_eq (m := upd (upd m 208 (s 7)) 209 (s 8)) (s := s) (by simp [upd_at]) (by simp [upd_at]) (by simp [upd_at, hs.1]) (by simp [upd_at, hs.2]) (j := c / 64) (by omega)
  have uo := U_o (upd (upd m 208 (s 7)) 209 (s 8)) m (nI (c / 64))
  obtain ⟨⟨a0, a1, a2, a3, a6, a4, a5⟩, a7, a8, a9, a10⟩ := hb
  rw [uo 0 (by omega)] at a0; rw [uo 1 (by omega)] at a1; rw [uo 2 (by omega)] at a2; rw [uo 3 (by omega)] at a3
  rw [uo 4 (by omega)] at a4; rw [uo 5 (by omega)] at a5; rw [uo 6 (by omega)] at a6
  have a9' : sBec s (nI (c / 64)) 9 = m 197 := by rw [a9]; simp [upd_at]
  have a10' : sBec s (nI (c / 64)) 10 = m 198 := by rw [a10]; simp [upd_at]
  unfold feM
  rw [e1, e2, e3]
  unfold UW
  simp only [SA, Alk, HcA, upd_at]
  simp [a0, a1, a2, a3, a6, a9', a10']
  exact ⟨fun z => a4 (by rw [a3]; exact z), fun z => a5 (by rw [a3]; exact z)⟩
theorem ky_eq {m s x : Sc} (h : SA m s x) (hx : VG x) : kyM s = kyC (wC x) := by
  have ec := code_eq h.1 hx.1
  obtain ⟨hv, ⟨a, ha, ea⟩, ⟨b, hb, eb⟩⟩ := hx
  obtain ⟨j, h1, h2, h3, h4⟩ := num_of (m := m) hv
  have e : rWh x = nI ((j * 8 + a) * 8 + b) := by
    unfold rWh
    rw [h2, ea, eb, show (8 : Int32) = nI 8 from by decide, pk_mul, nI_add, pk_mul, nI_add]
  have ew : wC x = (j * 8 + a) * 8 + b := by unfold wC; rw [e, nI_clamp (by omega)]
  unfold kyM kyC kyN
  rw [ec, h2, h.2.1, h.2.2.1, ea, eb, ew, show (49 : Int32) = nI 49 from by decide, show (7 : Int32) = nI 7 from by decide, pk_mul, pk_mul, nI_add, nI_add]
  congr 1
  omega
/-- the same, as the class goes -/
def sucC (m : Sc) (how : Int32) (c : Nat) : List (Nat × Nat) :=
  if rOver m (UW m c) = 0 then (if 2 ≤ how ∧ UW m c 6 = 1 then ([12, 14, 13] : List Int32).map (fun o => (wC (rRal m (UW m c) o), if o = as0 (UW m c) how then 0 else 1)) else [(wC (rRal m (UW m c) how), 0)]) else []
theorem as0_or (x : Sc) (how : Int32) : as0 x how = 12 ∨ as0 x how = 13 ∨ as0 x how = 14 := by
  unfold as0
  split
  · exact Or.inl rfl
  · split
    · exact Or.inr (Or.inl rfl)
    · exact Or.inr (Or.inr rfl)
theorem ral_as {m x : Sc} {how : Int32} (h6 : x 6 = 1) (h2 : 2 ≤ how) (h12 : ¬ 12 ≤ how) : rRal m x how = rRal m x (as0 x how) := by
  have ha : rAs x how = as0 x how := by unfold rAs as0; rw [if_neg h12]
  have hb : rAs x (as0 x how) = as0 x how := by
    unfold rAs
    rw [if_pos (by rcases as0_or x how with h | h | h <;> rw [h] <;> decide)]
  have h60 : ¬ x 6 = 0 := by rw [h6]; decide
  have hlt : ¬ as0 x how < 2 := by rcases as0_or x how with h | h | h <;> rw [h] <;> decide
  have e1 : rWho m x how = if as0 x how = 12 then 2 else if as0 x how = 13 ∨ m 196 = 1 then 1 else 0 := by unfold rWho; rw [if_neg (Int32.not_lt.mpr h2), if_neg h60, ha]
  have e2 : rWho m x (as0 x how) = if as0 x how = 12 then 2 else if as0 x how = 13 ∨ m 196 = 1 then 1 else 0 := by unfold rWho; rw [if_neg hlt, if_neg h60, hb]
  have hw : rWho m x how = rWho m x (as0 x how) := e1.trans e2.symm
  unfold rRal
  rw [if_neg (by rw [h6]; decide), if_neg (by rw [h6]; decide), hw]
theorem suc_perm {m : Sc} {how : Int32} {c : Nat} (hh : hOK how) : (sucC m how c).Perm (sucR m how c) := by
  unfold sucC sucR
  by_cases ho : rOver m (UW m c) = 0
  · rw [if_pos ho, if_pos ho]
    by_cases h2 : 2 ≤ how ∧ UW m c 6 = 1
    · rw [if_pos h2, if_pos h2, ral_as h2.2 h2.1 (hOK_lt hh (Int32.not_lt.mpr h2.1))]
      generalize UW m c = x
      rcases as0_or x how with h | h | h
      · rw [h]
        show ([(wC (rRal m x 12), 0), (wC (rRal m x 14), 1), (wC (rRal m x 13), 1)] : List (Nat × Nat)).Perm [(wC (rRal m x 12), 0), (wC (rRal m x 13), 1), (wC (rRal m x 14), 1)]
        exact List.Perm.cons _ (List.Perm.swap _ _ _)
      · rw [h]
        show ([(wC (rRal m x 12), 1), (wC (rRal m x 14), 1), (wC (rRal m x 13), 0)] : List (Nat × Nat)).Perm [(wC (rRal m x 13), 0), (wC (rRal m x 12), 1), (wC (rRal m x 14), 1)]
        exact (List.Perm.cons _ (List.Perm.swap _ _ _)).trans (List.Perm.swap _ _ _)
      · rw [h]
        show ([(wC (rRal m x 12), 1), (wC (rRal m x 14), 0), (wC (rRal m x 13), 1)] : List (Nat × Nat)).Perm [(wC (rRal m x 14), 0), (wC (rRal m x 12), 1), (wC (rRal m x 13), 1)]
        exact List.Perm.swap _ _ _
    · rw [if_neg h2, if_neg h2]
  · rw [if_neg ho, if_neg ho]
/-- what an entry of the class's list gives to the next -/
def conC (m : Sc) (how : Int32) (e : Int32 × Int32 × Int64) : ME := (sucC m how (dcC e.1)).map (fun t => (kyC t.1, if t.2 = 0 then e.2.1 else e.2.1 + 1, e.2.2))
theorem by_eq {m x li : Sc} (hl : LwA m li) (h6 : x 6 = 1) : lBy li (nI 0 - 1) = rWho m x 12 ∧ lBy li (nI 1 - 1) = rWho m x 14 ∧ lBy li (nI 2 - 1) = rWho m x 13 := by
  have a : ∀ o : Int32, 12 ≤ o → rAs x o = o := fun o h => by unfold rAs; rw [if_pos h]
  unfold lBy rWho
  rw [hl.2.2, a 12 (by decide), a 13 (by decide), a 14 (by decide), h6]
  rw [show (nI 0 - 1 : Int32) = -1 by decide, show (nI 1 - 1 : Int32) = 0 by decide, show (nI 2 - 1 : Int32) = 1 by decide]
  by_cases h : m 196 = 1
  · simp only [h]; decide
  · simp only [h, or_false, if_false]; decide
theorem cmp_as {x : Sc} {ln : Int32} : (iCmp ln (x 4) = nI 0 - 1 ↔ as0 x (2 + ln) = 12) ∧ (iCmp ln (x 4) = nI 1 - 1 ↔ as0 x (2 + ln) = 14) ∧ (iCmp ln (x 4) = nI 2 - 1 ↔ as0 x (2 + ln) = 13) := by
  have e : (2 : Int32) + ln - 2 = ln := by rw [Int32.add_comm, Int32.add_sub_cancel]
  unfold iCmp as0
  rw [e]
  rcases i32_tri ln (x 4) with h | h | h
  · rw [if_pos h, if_pos h]; decide
  · rw [if_neg (by rw [h]; exact Int32.lt_irrefl), if_pos h, if_neg (by rw [h]; exact Int32.lt_irrefl), if_neg (by rw [h]; exact Int32.lt_irrefl)]; decide
  · obtain ⟨h1, h2, h3⟩ := i32_asy h
    rw [if_neg h1, if_neg h2, if_neg h1, if_pos h]; decide
theorem ofE_eq {m s x li : Sc} (hl : LwA m li) (h : SA m s x) (hx : Val x) (h6 : x 6 = 1) {o : Int32} (ho : 12 ≤ o) {w : Int32} (hw : w = rWho m x o) : SA m (sPlayOff s w) (rRal m x o) := by
  obtain ⟨hp, hv, hc⟩ := hx
  have h3 : x 3 = 1 ∨ x 3 = 2 := by
    rcases hc with ⟨_, a⟩ | ⟨a, _, b⟩ | ⟨a, _, _, b⟩
    · rw [h6] at a; exact absurd a (by decide)
    · exact Or.inl a
    · exact Or.inr a
  unfold rRal
  rw [if_neg (by rw [h6]; decide), hw]
  exact h.off h6 h3 _
theorem meF_ins {m li s : Sc} {how ln : Int32} {c G : Nat} {A : ME} {co : Int32} {wy : Int64} (hl : LwA m li) (hH : HOK m) (hG : m 194 = nI G) (hG6 : G ≤ 6) (hs : HcA m s) (hc : cOK c) (ho : rOver m (UW m c) = 0) (hh : how = 0 ∨ how = 1 ∨ how = 2 ∧ lnOK ln) : meF li how ln (feM s (kyC c)) A co wy = (conC m (raH how ln) (kyC c, co, wy)).foldl (ins meOp) A := by
  obtain ⟨hsa, _⟩ := fe_eq hs hc
  have hx := UW_VG m hc
  have hval := hx.1
  unfold meF conC sucC
  rw [dcC_ky hc, if_pos ho, hsa.1.2.2.2.2.1]
  have hrl := raH_ln hh
  by_cases hd : how = 2 ∧ ¬ UW m c 6 = 0
  · have h61 : UW m c 6 = 1 := by
      rcases hval.2.2 with ⟨_, a⟩ | ⟨_, _, a⟩ | ⟨_, _, _, a⟩
      · exact absurd a hd.2
      · exact a.resolve_left hd.2
      · exact a
    have hln : lnOK ln := by
      rcases hh with h | h | h
      · rw [hd.1] at h; exact absurd h (by decide)
      · rw [hd.1] at h; exact absurd h (by decide)
      · exact h.2
    have er : raH how ln = 2 + ln := by unfold raH; rw [if_pos hd.1]
    have h2 : 2 ≤ 2 + ln := by
      obtain ⟨k, hk, rfl⟩ := nat_to (n := 9) hln.1 hln.2 (by decide)
      rw [show (2 : Int32) = nI 2 by decide, nI_add]
      exact nI_le (by omega) (by omega)
    rw [if_pos hd, er, if_pos ⟨h2, h61⟩]
    have h30 : ¬ UW m c 3 = 0 := by
      rcases hval.2.2 with ⟨_, a⟩ | ⟨a, _⟩ | ⟨a, _⟩
      · exact absurd a hd.2
      · rw [a]; decide
      · rw [a]; decide
    rw [hsa.1.2.2.2.2.2.1 (by rw [hsa.1.2.2.2.1]; exact h30)]
    obtain ⟨b0, b1, b2⟩ := by_eq hl h61
    obtain ⟨c0, c1, c2⟩ := cmp_as (x := UW m c) (ln := ln)
    have g0 := ofE_eq hl hsa hval h61 (o := 12) (by decide) b0
    have g1 := ofE_eq hl hsa hval h61 (o := 14) (by decide) b1
    have g2 := ofE_eq hl hsa hval h61 (o := 13) (by decide) b2
    have v0 := VG_rRal (how := 12) hH hG hG6 hx ho (fun z => absurd z (by rw [h61]; decide))
    have v1 := VG_rRal (how := 14) hH hG hG6 hx ho (fun z => absurd z (by rw [h61]; decide))
    have v2 := VG_rRal (how := 13) hH hG hG6 hx ho (fun z => absurd z (by rw [h61]; decide))
    have st : ∀ o, meO li (feM s (kyC c)) (iCmp ln (UW m c 4)) A co wy (o + 1) = ins meOp (meO li (feM s (kyC c)) (iCmp ln (UW m c 4)) A co wy o) (kyM (sPlayOff (feM s (kyC c)) (lBy li (nI o - 1))), if nI o - 1 = iCmp ln (UW m c 4) then co else co + 1, wy) := by
      intro o
      rw [meO, meR_ins]
    rw [show (3 : Nat) = 2 + 1 from rfl, st, show (2 : Nat) = 1 + 1 from rfl, st, show meO li (feM s (kyC c)) (iCmp ln (UW m c 4)) A co wy 1 = _ from st 0, show meO li (feM s (kyC c)) (iCmp ln (UW m c 4)) A co wy 0 = A from rfl]
    rw [show (1 + 1 : Nat) = 2 from rfl, ky_eq g0 v0, ky_eq g1 v1, ky_eq g2 v2]
    simp only [List.map_cons, List.map_nil, List.foldl_cons, List.foldl_nil]
    have q0 : (if nI 0 - 1 = iCmp ln (UW m c 4) then co else co + 1) = (if (if (12 : Int32) = as0 (UW m c) (2 + ln) then 0 else 1) = 0 then co else co + 1) := by
      by_cases z : as0 (UW m c) (2 + ln) = 12
      · rw [if_pos (c0.mpr z).symm, z]; rfl
      · have w : ¬ (12 : Int32) = as0 (UW m c) (2 + ln) := fun y => z y.symm
        rw [if_neg (fun y => z (c0.mp y.symm)), if_neg w]; rfl
    have q1 : (if nI 1 - 1 = iCmp ln (UW m c 4) then co else co + 1) = (if (if (14 : Int32) = as0 (UW m c) (2 + ln) then 0 else 1) = 0 then co else co + 1) := by
      by_cases z : as0 (UW m c) (2 + ln) = 14
      · rw [if_pos (c1.mpr z).symm, z]; rfl
      · have w : ¬ (14 : Int32) = as0 (UW m c) (2 + ln) := fun y => z y.symm
        rw [if_neg (fun y => z (c1.mp y.symm)), if_neg w]; rfl
    have q2 : (if nI 2 - 1 = iCmp ln (UW m c 4) then co else co + 1) = (if (if (13 : Int32) = as0 (UW m c) (2 + ln) then 0 else 1) = 0 then co else co + 1) := by
      by_cases z : as0 (UW m c) (2 + ln) = 13
      · rw [if_pos (c2.mpr z).symm, z]; rfl
      · have w : ¬ (13 : Int32) = as0 (UW m c) (2 + ln) := fun y => z y.symm
        rw [if_neg (fun y => z (c2.mp y.symm)), if_neg w]; rfl
    rw [q0, q1, q2]
  · have hn2 : ¬ (2 ≤ raH how ln ∧ UW m c 6 = 1) := by
      rintro ⟨z1, z2⟩
      have : ¬ how = 2 := fun y => hd ⟨y, by rw [z2]; decide⟩
      unfold raH at z1
      rw [if_neg this] at z1
      rcases hh with h | h | h
      · rw [h] at z1; exact absurd z1 (by decide)
      · rw [h] at z1; exact absurd z1 (by decide)
      · exact this h.1
    have hs2 := SA.strike hl hH hsa hval hh
    have v := VG_rRal (how := raH how ln) hH hG hG6 hx ho (fun _ => hrl)
    rw [if_neg hd, if_neg hn2, meR_ins, ky_eq hs2 v]
    rfl
theorem meG_ins {m li s0 : Sc} {how ln : Int32} {G : Nat} {E : ME} (hl : LwA m li) (hH : HOK m) (hG : m 194 = nI G) (hG6 : G ≤ 6) (hs : HcA m s0) (hE : ∀ x ∈ E, ∃ c, cOK c ∧ x.1 = kyC c) (hh : how = 0 ∨ how = 1 ∨ how = 2 ∧ lnOK ln) : ∀ n, n ≤ E.length → HcA m (meG li how ln E s0 n).1 ∧ (meG li how ln E s0 n).2 = ((E.take n).flatMap (conC m (raH how ln))).foldl (ins meOp) []
  | 0, _ => ⟨hs, rfl⟩
  | n + 1, h => by
    obtain ⟨i1, i2⟩ := meG_ins hl hH hG hG6 hs hE hh n (by omega)
    have eg : E.getD n e0M = E[n]'(by omega) := by simp [List.getD, List.getElem?_eq_getElem (show n < E.length by omega)]
    obtain ⟨c, hc, ek⟩ := hE (E[n]'(by omega)) (List.getElem_mem _)
    obtain ⟨f1, f2⟩ := fe_eq i1 hc
    have eo := over_eq hl f1.2.1 f1.2.2.1
    rw [meG, eg, List.take_succ_eq_append_getElem (by omega), List.flatMap_append, List.foldl_append]
    rw [ek]
    refine ⟨f2, ?_⟩
    dsimp only
    rw [eo, i2]
    have es : ∀ B : ME, B.foldl (ins meOp) (((E.take n).flatMap (conC m (raH how ln))).foldl (ins meOp) []) = B.foldl (ins meOp) (meG li how ln E s0 n).2 := fun B => by rw [i2]
    have et : (kyC c, (E[n]'(by omega)).2.1, (E[n]'(by omega)).2.2) = E[n]'(by omega) := Prod.ext ek.symm rfl
    by_cases ho : rOver m (UW m c) = 0
    · rw [if_pos ho, meF_ins hl hH hG hG6 i1 hc ho hh, et]
      simp
    · rw [if_neg ho]
      have : conC m (raH how ln) (E[n]'(by omega)) = [] := by
        unfold conC sucC
        rw [ek, dcC_ky hc, if_neg ho]
        rfl
      simp [this]

