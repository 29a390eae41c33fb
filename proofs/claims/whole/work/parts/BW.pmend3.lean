/-! ===== mends: the class's list is the reference's ===== -/
/-- the first place from i on that is not 0 -/
def lsA (N : Nat → Nat) : Nat → Nat → Nat
  | 0, i => i
  | f + 1, i => if N i = 0 then lsA N f (i + 1) else i
def lst (N : Nat → Nat) : Nat := lsA N 31 0
def GdN (k : Nat) (N : Nat → Nat) : Prop := ∃ i, i ≤ k ∧ 0 < N i
theorem lsA_eq {N : Nat → Nat} {v : Nat} (hv : 0 < N v) (h0 : ∀ j, j < v → N j = 0) : ∀ f i, i ≤ v → v < i + f → lsA N f i = v
  | 0, i, h1, h2 => by omega
  | f + 1, i, h1, h2 => by
    rw [lsA]
    rcases Nat.eq_or_lt_of_le h1 with rfl | h3
    · rw [if_neg (by omega)]
    · rw [if_pos (h0 i h3)]; exact lsA_eq hv h0 f (i + 1) h3 (by omega)
theorem lst_eq {N : Nat → Nat} {v : Nat} (h : v < 31) (hv : 0 < N v) (h0 : ∀ j, j < v → N j = 0) : lst N = v := lsA_eq hv h0 31 0 (by omega) (by omega)
theorem lst_ex {N : Nat → Nat} {k : Nat} (h : GdN k N) : ∃ v, v ≤ k ∧ 0 < N v ∧ ∀ j, j < v → N j = 0 := by
  obtain ⟨i, hi, hN⟩ := h
  induction i using Nat.strongRecOn with
  | _ i ih =>
    by_cases hz : ∀ j, j < i → N j = 0
    · exact ⟨i, hi, hN, hz⟩
    · have : ∃ j, j < i ∧ 0 < N j := by
        rcases Classical.not_forall.mp hz with ⟨j, hj⟩
        have hj1 : j < i := Classical.byContradiction (fun z => hj (fun y => absurd y z))
        exact ⟨j, hj1, Nat.pos_of_ne_zero (fun z => hj (fun _ => z))⟩
      obtain ⟨j, h1, h2⟩ := this
      exact ih j h1 (by omega) h2
theorem lst_gd {N : Nat → Nat} {k : Nat} (hk : k ≤ 30) (h : GdN k N) : lst N ≤ k ∧ 0 < N (lst N) ∧ ∀ j, j < lst N → N j = 0 := by
  obtain ⟨v, h1, h2, h3⟩ := lst_ex h
  rw [lst_eq (by omega) h2 h3]
  exact ⟨h1, h2, h3⟩
theorem GdN.add {k : Nat} {N M : Nat → Nat} (h : GdN k N) : GdN k (adN N M) := by
  obtain ⟨i, h1, h2⟩ := h
  exact ⟨i, h1, by unfold adN; omega⟩
theorem GdN.sh {k d : Nat} {N : Nat → Nat} (hd : d ≤ 1) (h : GdN k N) : GdN (k + 1) (shN N d) := by
  obtain ⟨i, h1, h2⟩ := h
  exact ⟨i + d, by omega, by unfold shN; rw [if_pos (by omega), Nat.add_sub_cancel]; exact h2⟩
def hN (N : Nat → Nat) : Int32 × Int64 := (nI (lst N), J (N (lst N)))
theorem hN_add {k : Nat} {N M : Nat → Nat} (hk : k ≤ 30) (h1 : GdN k N) (h2 : GdN k M) : hN (adN N M) = meOp (hN N) (hN M) := by
  obtain ⟨a1, a2, a3⟩ := lst_gd hk h1
  obtain ⟨b1, b2, b3⟩ := lst_gd hk h2
  unfold hN meOp
  dsimp only
  rcases Nat.lt_trichotomy (lst M) (lst N) with h | h | h
  · have e : lst (adN N M) = lst M := lst_eq (by omega) (by unfold adN; omega) (fun j hj => by unfold adN; rw [a3 j (by omega), b3 j hj])
    rw [if_pos (nI_lt h (by omega)), e]
    unfold adN
    rw [a3 _ h, Nat.zero_add]
  · have e : lst (adN N M) = lst N := lst_eq (by omega) (by unfold adN; omega) (fun j hj => by unfold adN; rw [a3 j hj, b3 j (by omega)])
    rw [if_neg (by rw [h]; exact Int32.lt_irrefl), if_pos (by rw [h]), e, h, J_add]
    rfl
  · have e : lst (adN N M) = lst N := lst_eq (by omega) (by unfold adN; omega) (fun j hj => by unfold adN; rw [a3 j hj, b3 j (by omega)])
    rw [if_neg (Int32.lt_asymm (nI_lt h (by omega))), if_neg (fun z => by have := nI_eqI (by omega) (by omega) z; omega), e]
    unfold adN
    rw [b3 _ h, Nat.add_zero]
theorem hN_sh {k d : Nat} {N : Nat → Nat} (hk : k ≤ 29) (hd : d ≤ 1) (h : GdN k N) : hN (shN N d) = (if d = 0 then nI (lst N) else nI (lst N) + 1, J (N (lst N))) := by
  obtain ⟨a1, a2, a3⟩ := lst_gd (by omega) h
  have e : lst (shN N d) = lst N + d := lst_eq (by omega) (by unfold shN; rw [if_pos (by omega), Nat.add_sub_cancel]; exact a2) (fun j hj => by
    unfold shN
    by_cases hj2 : d ≤ j
    · rw [if_pos hj2]; exact a3 _ (by omega)
    · rw [if_neg hj2])
  unfold hN
  rw [e]
  unfold shN
  rw [if_pos (by omega), Nat.add_sub_cancel]
  rcases Nat.lt_or_ge 0 d with h2 | h2
  · have : d = 1 := by omega
    subst this
    rw [if_neg (by decide), nI_1]
  · have : d = 0 := by omega
    subst this
    rw [if_pos rfl, Nat.add_zero]
/-- an entry of the reference's, told as the class's -/
def psi (e : Nat × (Nat → Nat)) : Int32 × Int32 × Int64 := (kyC e.1, hN e.2)
theorem suc_d (m : Sc) (how : Int32) (c : Nat) : ∀ t ∈ sucR m how c, t.2 ≤ 1 := by
  intro t ht
  unfold sucR at ht
  split at ht
  · rcases List.mem_cons.mp ht with h | h
    · rw [h]; exact Nat.zero_le _
    · split at h
      · obtain ⟨o, _, h2⟩ := List.mem_map.mp h
        rw [← h2]; exact Nat.le_refl _
      · simp at h
  · simp at ht
theorem suc_ok {m : Sc} {how : Int32} {c G : Nat} (hH : HOK m) (hG : m 194 = nI G) (hG6 : G ≤ 6) (hh : hOK how) (hc : cOK c) : ∀ t ∈ sucR m how c, ∃ o, t.1 = wC (rRal m (UW m c) o) ∧ VG (rRal m (UW m c) o) ∧ cOK t.1 := by
  intro t ht
  have hx := UW_VG m hc
  unfold sucR at ht
  split at ht
  · rename_i ho
    rcases List.mem_cons.mp ht with h | h
    · have hv := VG_rRal (how := how) hH hG hG6 hx ho (fun _ => hh)
      rw [h]; exact ⟨how, rfl, hv, (wh_of (m := m) hv).1⟩
    · split at h
      · rename_i h6
        obtain ⟨o, _, h2⟩ := List.mem_map.mp h
        have hv := VG_rRal (how := o) hH hG hG6 hx ho (fun z => absurd z (by rw [h6.2]; decide))
        rw [← h2]; exact ⟨o, rfl, hv, (wh_of (m := m) hv).1⟩
      · simp at h
  · simp at ht
/-- all of the reference's lists: codes of scores, some way with at most k mistakes -/
def AlN (k : Nat) (L : StN) : Prop := (kys L).Nodup ∧ ∀ x ∈ L, cOK x.1 ∧ GdN k x.2
theorem con_ok {m : Sc} {how : Int32} {k G : Nat} {L : StN} (hH : HOK m) (hG : m 194 = nI G) (hG6 : G ≤ 6) (hh : hOK how) (hL : AlN k L) : ∀ x ∈ L.flatMap (conN m how), cOK x.1 ∧ GdN (k + 1) x.2 := by
  intro x hx
  obtain ⟨e, he, hx⟩ := List.mem_flatMap.mp hx
  unfold conN at hx
  obtain ⟨t, ht, hx⟩ := List.mem_map.mp hx
  obtain ⟨o, h1, h2, h3⟩ := suc_ok hH hG hG6 hh (hL.2 e he).1 t ht
  rw [← hx]
  exact ⟨h3, (hL.2 e he).2.sh (suc_d m how e.1 t ht)⟩
theorem AlN.step {m : Sc} {how : Int32} {k G : Nat} {L : StN} (hH : HOK m) (hG : m 194 = nI G) (hG6 : G ≤ 6) (hh : hOK how) (hL : AlN k L) : AlN (k + 1) ((L.flatMap (conN m how)).foldl (ins adN) []) :=
  ⟨fold_nodup _ List.nodup_nil, fold_all (A := fun c N => cOK c ∧ GdN (k + 1) N) (fun _ _ _ h1 _ => ⟨h1.1, h1.2.add⟩) _ (fun _ h => by simp at h) (con_ok hH hG hG6 hh hL)⟩
theorem mend_rel {m li Tc tp s : Sc} {G N : Nat} (hl : LwA m li) (hH : HOK m) (hG : m 194 = nI G) (hG6 : G ≤ 6) (hs : SA m s (S m)) (hV : VG (S m)) (h30 : N ≤ 30) (hB : ∀ j, j < 2 * N → ByA (Tc j) (tp j)) (hK : ∀ j, j < N → lgK tp (2 * j)) : ∀ k, k ≤ N → AlN k (mdLN m tp k) ∧ HcA m (mdE li Tc s k).1 ∧ (mdE li Tc s k).2.Perm ((mdLN m tp k).map psi)
  | 0, _ => by
    refine ⟨⟨by simp [mdLN], fun x hx => ?_⟩, ⟨hs.2.2.2.1, hs.2.2.2.2⟩, ?_⟩
    · rw [mdLN, List.mem_singleton] at hx
      rw [hx]
      exact ⟨(wh_of (m := m) hV).1, 0, Nat.le_refl _, by simp⟩
    · rw [mdE, mdLN]
      have e : psi (wC (S m), fun i => if i = 0 then 1 else 0) = (kyM s, 0, 1) := by
        unfold psi
        rw [ky_eq hs hV]
        have h1 : lst (fun i => if i = 0 then 1 else 0) = 0 := lst_eq (by decide) (by decide) (fun j hj => by omega)
        unfold hN
        rw [h1]
        rfl
      show [(kyM s, (0 : Int32), (1 : Int64))].Perm [psi (wC (S m), fun i => if i = 0 then 1 else 0)]
      rw [e]
  | k + 1, hk => by
    obtain ⟨i1, i2, i3⟩ := mend_rel hl hH hG hG6 hs hV h30 hB hK k (by omega)
    obtain ⟨hh, ew⟩ := lg_how (hB (2 * k) (by omega)) (hB (2 * k + 1) (by omega)) (hK k (by omega))
    have hhk : hOK (hwF tp (2 * k)) := by rw [ew]; exact raH_ln hh
    have hE : ∀ x ∈ (mdE li Tc s k).2, ∃ c, cOK c ∧ x.1 = kyC c := by
      intro x hx
      have := i3.mem_iff.mp hx
      obtain ⟨y, hy, rfl⟩ := List.mem_map.mp this
      exact ⟨y.1, (i1.2 y hy).1, rfl⟩
    obtain ⟨g1, g2⟩ := meG_ins hl hH hG hG6 i2 hE hh _ (Nat.le_refl _)
    refine ⟨i1.step hH hG hG6 hhk, ?_, ?_⟩
    · rw [mdE]; exact g1
    · rw [mdE, g2, List.take_length, mdLN, ← ew]
      have hp1 := i3.flatMap_right (conC m (hwF tp (2 * k)))
      refine (fold_perm meOp_comm meOp_asc hp1).trans ?_
      have hmap := fold_map (op := adN) (op' := meOp) (kf := kyC) (h := hN) (A := fun c N => cOK c ∧ GdN (k + 1) N) (fun _ _ _ h1 _ => ⟨h1.1, h1.2.add⟩) (fun _ _ _ _ h1 h2 z => ky_inj h1.1 h2.1 z) (fun _ _ _ _ h1 h2 => hN_add (by omega) h1.2 h2.2) ((mdLN m tp k).flatMap (conN m (hwF tp (2 * k)))) (E := []) (fun _ h => by simp at h) (con_ok hH hG hG6 hhk i1)
      rw [show (fun x : Nat × (Nat → Nat) => (kyC x.1, hN x.2)) = psi from rfl] at hmap
      rw [hmap, List.map_nil]
      refine fold_perm meOp_comm meOp_asc ?_
      rw [List.flatMap_map, List.map_flatMap]
      -- entry by entry
      have hent : ∀ e ∈ mdLN m tp k, (conC m (hwF tp (2 * k)) (psi e)).Perm ((conN m (hwF tp (2 * k)) e).map psi) := by
        intro e he
        obtain ⟨hc, hg⟩ := i1.2 e he
        unfold conC conN
        rw [show (psi e).1 = kyC e.1 from rfl, dcC_ky hc, List.map_map]
        refine ((suc_perm hhk).map _).trans (List.Perm.of_eq ?_)
        refine List.map_congr_left (fun t ht => ?_)
        show (kyC t.1, if t.2 = 0 then nI (lst e.2) else nI (lst e.2) + 1, J (e.2 (lst e.2))) = (kyC t.1, hN (shN e.2 t.2))
        rw [hN_sh (by omega) (suc_d _ _ _ t ht) hg]
      have hgen : ∀ L : StN, (∀ e ∈ L, (conC m (hwF tp (2 * k)) (psi e)).Perm ((conN m (hwF tp (2 * k)) e).map psi)) → (L.flatMap (fun e => conC m (hwF tp (2 * k)) (psi e))).Perm (L.flatMap (fun e => (conN m (hwF tp (2 * k)) e).map psi)) := by
        intro L hent
        induction L with
        | nil => exact List.Perm.nil
        | cons e L ih =>
          rw [List.flatMap_cons, List.flatMap_cons]
          exact (hent e (by simp)).append (ih (fun x hx => hent x (by simp [hx])))
      exact hgen _ hent

