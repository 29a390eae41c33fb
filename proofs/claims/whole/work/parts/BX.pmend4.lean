/-! ===== mends: the answer ===== -/
abbrev mP (m : Sc) (a b c d : Int32) (k : Nat) : Prop := UW m k 0 = a ∧ UW m k 1 = b ∧ UW m k 7 = c ∧ UW m k 8 = d
def foN (m : Sc) (a b c d : Int32) (o : Option (Nat → Nat)) (e : Nat × (Nat → Nat)) : Option (Nat → Nat) := if mP m a b c d e.1 then opO adN o e.2 else o
def foC (m : Sc) (a b c d : Int32) (o : Option (Int32 × Int64)) (e : Int32 × Int32 × Int64) : Option (Int32 × Int64) := if mP m a b c d (dcC e.1) then opO meOp o e.2 else o
def vO (o : Option (Nat → Nat)) (i : Nat) : Nat := match o with
  | none => 0
  | some N => N i
def tO (o : Option (Int32 × Int64)) : Int32 × Int64 := match o with
  | none => (-1, 0)
  | some x => x
theorem vO_op (o : Option (Nat → Nat)) (f : Nat → Nat) (i : Nat) : vO (opO adN o f) i = vO o i + f i := by
  cases o with
  | none => show f i = 0 + f i; omega
  | some N => rfl
theorem mdV_sum (m : Sc) (L : StN) (a b c d : Int32) (i : Nat) : ∀ n, n ≤ L.length → mdV m (L.map csJ) a b c d i n = J (vO ((L.take n).foldl (foN m a b c d) none) i)
  | 0, _ => by rw [mdV]; rfl
  | n + 1, h => by
    have eg : (L.map csJ).getD n d0 = csJ (L[n]'(by omega)) := by simp [List.getD, List.getElem?_eq_getElem (show n < L.length by omega)]
    rw [mdV, eg, mdV_sum m L a b c d i n (by omega), List.take_succ_eq_append_getElem (by omega), List.foldl_append]
    show (if mP m a b c d (L[n]'(by omega)).1 then _ + J ((L[n]'(by omega)).2 i) else _) = J (vO (foN m a b c d _ (L[n]'(by omega))) i)
    unfold foN
    by_cases hp : mP m a b c d (L[n]'(by omega)).1
    · rw [if_pos hp, if_pos hp, vO_op, J_add]
    · rw [if_neg hp, if_neg hp]
theorem meOp_ne {x y : Int32 × Int64} (hx : ¬ x.1 = -1) (hy : ¬ y.1 = -1) : ¬ (meOp x y).1 = -1 := by
  unfold meOp
  split
  · exact hy
  · split
    · exact hx
    · exact hx
theorem taM_op (x y : Int32 × Int64) (hx : ¬ x.1 = -1) : taM x.1 x.2 y.1 y.2 = meOp x y := by
  unfold taM meOp
  by_cases h : y.1 < x.1
  · rw [if_pos (Or.inr h), if_pos h]
  · rw [if_neg (by simp [hx, h]), if_neg h]
theorem meT_fold {m s0 : Sc} {a b c d : Int32} {E : ME} (hs : HcA m s0) (hE : ∀ x ∈ E, (∃ k, cOK k ∧ x.1 = kyC k) ∧ ¬ x.2.1 = -1) : ∀ n, n ≤ E.length → HcA m (meT a b c d E s0 n).1 ∧ (meT a b c d E s0 n).2 = tO ((E.take n).foldl (foC m a b c d) none) ∧ ∀ x, (E.take n).foldl (foC m a b c d) none = some x → ¬ x.1 = -1
  | 0, _ => ⟨hs, rfl, fun x hx => by rw [List.take_zero, List.foldl_nil] at hx; cases hx⟩
  | n + 1, h => by
    obtain ⟨i1, i2, i3⟩ := meT_fold (a := a) (b := b) (c := c) (d := d) hs hE n (by omega)
    have eg : E.getD n e0M = E[n]'(by omega) := by simp [List.getD, List.getElem?_eq_getElem (show n < E.length by omega)]
    obtain ⟨⟨k, hk, ek⟩, hn⟩ := hE (E[n]'(by omega)) (List.getElem_mem _)
    obtain ⟨f1, f2⟩ := fe_eq i1 hk
    rw [meT, eg, List.take_succ_eq_append_getElem (by omega), List.foldl_append]
    dsimp only
    rw [ek, f1.1.1, f1.1.2.1, f1.2.1, f1.2.2.1, i2]
    generalize (E.take n).foldl (foC m a b c d) none = o at *
    refine ⟨f2, ?_⟩
    show (if mP m a b c d k then _ else _) = tO (foC m a b c d o (E[n]'(by omega))) ∧ ∀ x, foC m a b c d o (E[n]'(by omega)) = some x → _
    unfold foC
    rw [ek, dcC_ky hk]
    by_cases hp : mP m a b c d k
    · rw [if_pos hp, if_pos hp]
      cases o with
      | none =>
        refine ⟨?_, fun x hx => ?_⟩
        · show taM (-1) 0 _ _ = _
          unfold taM
          rw [if_pos (Or.inl rfl)]
          rfl
        · have : some ((E[n]'(by omega)).2) = some x := hx
          rw [← Option.some.inj this]; exact hn
      | some y =>
        refine ⟨?_, fun x hx => ?_⟩
        · show taM y.1 y.2 _ _ = meOp y _
          exact taM_op y _ (i3 y rfl)
        · have : some (meOp y (E[n]'(by omega)).2) = some x := hx
          rw [← Option.some.inj this]; exact meOp_ne (i3 y rfl) hn
    · rw [if_neg hp, if_neg hp]
      exact ⟨rfl, i3⟩
theorem foC_perm {m : Sc} {a b c d : Int32} {E F : ME} (h : E.Perm F) : E.foldl (foC m a b c d) none = F.foldl (foC m a b c d) none := by
  refine List.Perm.foldl_eq' h (fun x _ y _ z => ?_) _
  unfold foC
  by_cases h1 : mP m a b c d (dcC x.1)
  · by_cases h2 : mP m a b c d (dcC y.1)
    · rw [if_pos h1, if_pos h2, if_pos h2, if_pos h1]
      cases z with
      | none => show some (meOp x.2 y.2) = some (meOp y.2 x.2); rw [meOp_comm]
      | some w => show some (meOp (meOp w x.2) y.2) = some (meOp (meOp w y.2) x.2); rw [meOp_asc]
    · rw [if_pos h1, if_neg h2, if_neg h2, if_pos h1]
  · by_cases h2 : mP m a b c d (dcC y.1)
    · rw [if_neg h1, if_pos h2, if_neg h1]
    · rw [if_neg h1, if_neg h2, if_neg h1]
theorem foC_psi {m : Sc} {a b c d : Int32} {k : Nat} (hk : k ≤ 30) : ∀ (L : StN) (o : Option (Nat → Nat)), (∀ x ∈ L, cOK x.1 ∧ GdN k x.2) → (∀ N, o = some N → GdN k N) → (L.map psi).foldl (foC m a b c d) (o.map hN) = (L.foldl (foN m a b c d) o).map hN ∧ ∀ N, L.foldl (foN m a b c d) o = some N → GdN k N
  | [], o, _, ho => ⟨rfl, ho⟩
  | e :: L, o, hL, ho => by
    obtain ⟨he, hg⟩ := hL e (by simp)
    have e1 : foC m a b c d (o.map hN) (psi e) = (foN m a b c d o e).map hN ∧ ∀ N, foN m a b c d o e = some N → GdN k N := by
      unfold foC foN
      rw [show (psi e).1 = kyC e.1 from rfl, dcC_ky he]
      by_cases hp : mP m a b c d e.1
      · rw [if_pos hp, if_pos hp]
        cases o with
        | none => exact ⟨rfl, fun N hN' => by rw [← Option.some.inj hN']; exact hg⟩
        | some w =>
          refine ⟨?_, fun N hN' => by rw [← Option.some.inj hN']; exact (ho w rfl).add⟩
          show some (meOp (hN w) (hN e.2)) = some (hN (adN w e.2))
          rw [hN_add hk (ho w rfl) hg]
      · rw [if_neg hp, if_neg hp]
        exact ⟨rfl, ho⟩
    rw [List.map_cons, List.foldl_cons, List.foldl_cons, e1.1]
    exact foC_psi hk L _ (fun x hx => hL x (by simp [hx])) e1.2
/-- how many ways in all -/
def msA (N : Nat → Nat) : Nat → Nat
  | 0 => 0
  | i + 1 => msA N i + N i
def ms (N : Nat → Nat) : Nat := msA N 31
def msL : StN → Nat
  | [] => 0
  | e :: L => ms e.2 + msL L
theorem msA_add (N M : Nat → Nat) : ∀ i, msA (adN N M) i = msA N i + msA M i
  | 0 => rfl
  | i + 1 => by rw [msA, msA, msA, msA_add N M i]; unfold adN; omega
theorem msA_at (N : Nat → Nat) : ∀ (n i : Nat), i < n → N i ≤ msA N n
  | n + 1, i, h => by
    rw [msA]
    rcases Nat.lt_or_ge i n with h1 | h1
    · have := msA_at N n i h1; omega
    · have : i = n := by omega
      subst this; omega
theorem msA_sh (N : Nat → Nat) : ∀ i, msA (shN N 1) (i + 1) = msA N i
  | 0 => by rw [msA, msA, msA]; unfold shN; rw [if_neg (by omega)]
  | i + 1 => by rw [msA, msA_sh N i, msA]; unfold shN; rw [if_pos (by omega), Nat.add_sub_cancel]
theorem ms_sh {d : Nat} (N : Nat → Nat) (hd : d ≤ 1) : ms (shN N d) ≤ ms N := by
  unfold ms
  rcases Nat.lt_or_ge 0 d with h | h
  · have : d = 1 := by omega
    subst this
    rw [msA_sh N 30]
    show msA N 30 ≤ msA N 30 + N 30
    omega
  · have : d = 0 := by omega
    subst this
    have : shN N 0 = N := by funext i; unfold shN; rw [if_pos (Nat.zero_le _), Nat.sub_zero]
    rw [this]
    exact Nat.le_refl _
theorem msL_ins (q : Nat × (Nat → Nat)) : ∀ L : StN, msL (ins adN L q) = msL L + ms q.2
  | [] => by rw [ins, msL, msL, msL]; omega
  | x :: L => by
    rw [ins]
    by_cases h : x.1 = q.1
    · rw [if_pos h, msL, msL]
      show ms (adN x.2 q.2) + _ = _
      unfold ms
      rw [msA_add]
      omega
    · rw [if_neg h, msL, msL, msL_ins q L]; omega
theorem msL_fold : ∀ (P L : StN), msL (P.foldl (ins adN) L) = msL L + msL P
  | [], L => by rw [List.foldl_nil, msL]; omega
  | q :: P, L => by rw [List.foldl_cons, msL_fold P, msL_ins, msL]; omega
theorem msL_app : ∀ (P Q : StN), msL (P ++ Q) = msL P + msL Q
  | [], Q => by rw [List.nil_append, msL]; omega
  | x :: P, Q => by rw [List.cons_append, msL, msL, msL_app P Q]; omega
theorem suc_len (m : Sc) (how : Int32) (c : Nat) : (sucR m how c).length ≤ 3 := by
  unfold sucR
  split
  · rw [List.length_cons]
    split
    · rw [List.length_map]
      rcases as0_or (UW m c) how with h | h | h <;> rw [h] <;> decide
    · simp
  · simp
theorem msL_sh (N : Nat → Nat) : ∀ (S : List (Nat × Nat)), (∀ t ∈ S, t.2 ≤ 1) → msL (S.map (fun t => (t.1, shN N t.2))) ≤ S.length * ms N
  | [], _ => by rw [List.map_nil, msL]; omega
  | t :: S, h => by
    rw [List.map_cons, msL, List.length_cons, Nat.add_mul, Nat.one_mul]
    have h1 := msL_sh N S (fun x hx => h x (by simp [hx]))
    have h2 := ms_sh N (h t (by simp))
    show ms (shN N t.2) + _ ≤ _
    omega
theorem msL_con (m : Sc) (how : Int32) : ∀ L : StN, msL (L.flatMap (conN m how)) ≤ 3 * msL L
  | [] => by rw [List.flatMap_nil, msL]; omega
  | e :: L => by
    rw [List.flatMap_cons, msL_app, msL]
    have h1 := msL_con m how L
    have h2 := msL_sh e.2 (sucR m how e.1) (suc_d m how e.1)
    have h3 := Nat.mul_le_mul_right (ms e.2) (suc_len m how e.1)
    have e : conN m how e = (sucR m how e.1).map (fun t => (t.1, shN e.2 t.2)) := rfl
    rw [e]
    omega
theorem msL_le (m tp : Sc) : ∀ k, msL (mdLN m tp k) ≤ 3 ^ k
  | 0 => by
    rw [mdLN, msL, msL]
    show ms (fun i => if i = 0 then 1 else 0) + 0 ≤ 3 ^ 0
    decide
  | k + 1 => by
    rw [mdLN, msL_fold, msL, Nat.pow_succ]
    have h1 := msL_con m (hwF tp (2 * k)) (mdLN m tp k)
    have h2 := msL_le m tp k
    omega
theorem foN_le {m : Sc} {a b c d : Int32} {i : Nat} (hi : i < 31) : ∀ (L : StN) (o : Option (Nat → Nat)), vO (L.foldl (foN m a b c d) o) i ≤ vO o i + msL L
  | [], o => by rw [List.foldl_nil, msL]; omega
  | e :: L, o => by
    rw [List.foldl_cons, msL]
    have h1 := foN_le (m := m) (a := a) (b := b) (c := c) (d := d) hi L (foN m a b c d o e)
    have h2 : vO (foN m a b c d o e) i ≤ vO o i + ms e.2 := by
      unfold foN
      split
      · rw [vO_op]; have := msA_at e.2 31 i hi; unfold ms; omega
      · omega
    omega
theorem J_pos {n : Nat} (h : n < 2 ^ 62) : J n ≤ 0 ↔ n = 0 := by
  unfold J
  rw [Int64.le_iff_toInt_le, Int64.toInt_ofNat_of_lt (by omega), show (0 : Int64).toInt = 0 from rfl]
  omega
theorem mdR_none {v : Nat → Int64} {wy : Int32} (h : ∀ i, v i = 0) : ∀ c i, mdR v wy c i = if wy = 0 then -1 else 0
  | 0, i => rfl
  | c + 1, i => by rw [mdR, h i, if_pos (by decide), mdR_none h c]
theorem mdR_some {N : Nat → Nat} {v : Nat → Int64} {wy : Int32} {f : Nat} (hv : ∀ i, v i = J (N i)) (hb : ∀ i, i < 31 → N i < 2 ^ 62) (hf : f < 31) (h1 : 0 < N f) (h0 : ∀ j, j < f → N j = 0) : ∀ c i, i ≤ f → f < i + c → mdR v wy c i = if wy = 0 then (nI f).toInt64 else J (N f)
  | 0, i, h2, h3 => by omega
  | c + 1, i, h2, h3 => by
    rw [mdR, hv i]
    rcases Nat.eq_or_lt_of_le h2 with e | h4
    · subst e
      rw [if_neg (fun z => by have := (J_pos (hb i hf)).mp z; omega)]
    · rw [if_pos ((J_pos (hb i (by omega))).mpr (h0 i h4))]
      exact mdR_some hv hb hf h1 h0 c (i + 1) h4 (by omega)
theorem an_mends {m li Tc tp s : Sc} {G n : Nat} {a b c d wy : Int32} (hl : LwA m li) (hH : HOK m) (hG : m 194 = nI G) (hG6 : G ≤ 6) (hs : SA m s (S m)) (hV : VG (S m)) (h60 : n ≤ 60) (hB : ∀ j, j < 2 * (n / 2) → ByA (Tc j) (tp j)) (hK : ∀ j, j < n / 2 → lgK tp (2 * j)) : mdV9 li Tc s a b c d wy (n / 2) = mnV m tp a b c d wy n ∧ ∀ k, k ≤ n / 2 → (mdE li Tc s k).2.length = (mdL m tp k).length := by
  unfold mnV
  have hN30 : n / 2 ≤ 30 := by omega
  generalize n / 2 = N at *
  have rel := mend_rel hl hH hG hG6 hs hV hN30 hB hK
  refine ⟨?_, fun k hk => ?_⟩
  · obtain ⟨⟨r1, r2⟩, r3, r4⟩ := rel N (Nat.le_refl _)
    have hE : ∀ x ∈ (mdE li Tc s N).2, (∃ k, cOK k ∧ x.1 = kyC k) ∧ ¬ x.2.1 = -1 := by
      intro x hx
      obtain ⟨y, hy, rfl⟩ := List.mem_map.mp (r4.mem_iff.mp hx)
      refine ⟨⟨y.1, (r2 y hy).1, rfl⟩, ?_⟩
      have hb := (lst_gd hN30 (r2 y hy).2).1
      show ¬ nI (lst y.2) = -1
      intro z
      have h0 : nI 0 ≤ nI (lst y.2) := nI_le (Nat.zero_le _) (by omega)
      rw [z] at h0
      exact absurd h0 (by decide)
    obtain ⟨_, t2, _⟩ := meT_fold (a := a) (b := b) (c := c) (d := d) r3 hE _ (Nat.le_refl _)
    rw [List.take_length] at t2
    obtain ⟨f1, f2⟩ := foC_psi (m := m) (a := a) (b := b) (c := c) (d := d) hN30 (mdLN m tp N) none r2 (fun _ h => by cases h)
    rw [foC_perm r4, show (none : Option (Int32 × Int64)) = (none : Option (Nat → Nat)).map hN from rfl, f1] at t2
    have hv : ∀ i, mdV m (mdL m tp N) a b c d i (mdL m tp N).length = J (vO ((mdLN m tp N).foldl (foN m a b c d) none) i) := by
      intro i
      rw [mdL_N, List.length_map, mdV_sum m _ a b c d i _ (Nat.le_refl _), List.take_length]
    have hle : ∀ i, i < 31 → vO ((mdLN m tp N).foldl (foN m a b c d) none) i < 2 ^ 62 := by
      intro i hi
      have h1 := foN_le (m := m) (a := a) (b := b) (c := c) (d := d) hi (mdLN m tp N) none
      have h2 := msL_le m tp N
      have h3 : 3 ^ N ≤ 3 ^ 30 := Nat.pow_le_pow_right (by decide) hN30
      have h4 : (3 : Nat) ^ 30 < 2 ^ 62 := by decide
      have h5 : vO none i = 0 := rfl
      omega
    unfold mdV9
    rw [t2]
    generalize (mdLN m tp N).foldl (foN m a b c d) none = o at *
    cases o with
    | none => rw [mdR_none (fun i => hv i)]; rfl
    | some W =>
      obtain ⟨g1, g2, g3⟩ := lst_gd hN30 (f2 W rfl)
      rw [mdR_some (N := W) hv hle (by omega) g2 g3 31 0 (Nat.zero_le _) (by omega)]
      rfl
  · obtain ⟨_, _, r4⟩ := rel k hk
    rw [r4.length_eq, List.length_map, mdL_N, List.length_map]

