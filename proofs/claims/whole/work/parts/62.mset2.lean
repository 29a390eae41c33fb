/-! ===== setOf, set ===== -/
theorem va_at_extJ {D : va_G} {cl : List vw_C} {b n : Nat} {c : ClassId} {f f' : Nat → Int64} {H : Heap} (h : ∀ j, j < n → f j = f' j) (hh : va_at D cl (b, .inl (c, n, .inr (.inl f))) H) : va_at D cl (b, .inl (c, n, .inr (.inl f'))) H := by
  have e : arrV c n (fun j => Value.long (f j)) = arrV c n (fun j => Value.long (f' j)) := by
    unfold arrV
    congr 1
    apply Array.ext
    · simp
    · intro i h1 h2
      simp only [Array.getElem_ofFn]
      rw [h i (by simpa using h1)]
  show H[b]? = some (arrV c n (fun j => Value.long (f' j)))
  rw [← e]
  exact hh
theorem q_axG {l : Launch} {g : Gh} {M : Mt} {d rc rs : Nat} {post : Pst} {px : Pxc} {a : Act} {pc : Nat} {L : List (Option Value)} {st : List Value} {ws : va_W} {k n : Nat} {b : Nat} {e0 : va_E} {ws' : va_W} (j : Nat) (e1 : va_E) (h0 : ws[j]? = some (b, e0)) (h : ∀ H, va_at g.1 vwCl (b, e0) H → va_at g.1 vwCl (b, e1) H) (hs : ws.set j (b, e1) = ws') (kk : WPs l g M d rc rs post px a pc L st ws' k n) : WPs l g M d rc rs post px a pc L st ws k n := by
  intro hE H locs ls hP hD hS hl
  subst hs
  have hj : j < ws.length := (List.getElem?_eq_some_iff.mp h0).1
  refine kk hE H locs ls (fun q x hq => ?_) ⟨fun i1 j1 p q h1 h2 h3 => ?_, fun k1 q h1 => ?_⟩ hS hl
  · by_cases e : q = j
    · subst e
      rw [List.getElem?_set_self hj] at hq
      cases hq
      exact h H (hP q _ h0)
    · rw [List.getElem?_set_ne (Ne.symm e)] at hq
      exact hP q x hq
  · have g1 : ∀ (i1 : Nat) (p : Nat × va_E), (ws.set j (b, e1))[i1]? = some p → ∃ p', ws[i1]? = some p' ∧ p'.1 = p.1 := by
      intro i1 p h1
      by_cases e : i1 = j
      · subst e
        rw [List.getElem?_set_self hj] at h1
        cases h1
        exact ⟨_, h0, rfl⟩
      · rw [List.getElem?_set_ne (Ne.symm e)] at h1
        exact ⟨p, h1, rfl⟩
    obtain ⟨p', a1, a2⟩ := g1 i1 p h1
    obtain ⟨q', b1, b2⟩ := g1 j1 q h2
    exact hD.1 i1 j1 p' q' a1 b1 (by rw [a2, b2]; exact h3)
  · by_cases e : k1 = j
    · subst e
      rw [List.getElem?_set_self hj] at h1
      cases h1
      exact (hD.2 _ _ h0 : a.A b)
    · rw [List.getElem?_set_ne (Ne.symm e)] at h1
      exact hD.2 k1 q h1
theorem q_axJ {l : Launch} {g : Gh} {M : Mt} {d rc rs : Nat} {post : Pst} {px : Pxc} {a : Act} {pc : Nat} {L : List (Option Value)} {st : List Value} {ws : va_W} {k n : Nat} {b n9 : Nat} {c : ClassId} {f : Nat → Int64} {ws' : va_W} (j : Nat) (f' : Nat → Int64) (h0 : ws[j]? = some (b, .inl (c, n9, .inr (.inl f)))) (h : ∀ j, j < n9 → f j = f' j) (hs : ws.set j (b, .inl (c, n9, .inr (.inl f'))) = ws') (kk : WPs l g M d rc rs post px a pc L st ws' k n) : WPs l g M d rc rs post px a pc L st ws k n := q_axG j _ h0 (fun _ hh => va_at_extJ h hh) hs kk
def sgB (G : Nat) (p : Int32) (a b : Nat) : Int64 := if G ≤ (if p = 0 then a else b) then 1000000000 else 0
def sgS (wy : Nat → Int64) (s : Nat) (f : Nat → Int64) : Nat → Int64
  | 0 => 0
  | k + 1 => sgS wy s f k + wy (4 * s + k) * f k / 1000000000
theorem sgS_s (wy : Nat → Int64) (s : Nat) (f : Nat → Int64) (k : Nat) : sgS wy s f (k + 1) = sgS wy s f k + wy (4 * s + k) * f k / 1000000000 := rfl
def sgV (G : Nat) (wy : Nat → Int64) (p : Int32) : Nat → Nat → Nat → Nat → Int64
  | 0, a, b, _ => sgB G p a b
  | c + 1, a, b, s => if G ≤ a ∨ G ≤ b then sgB G p a b else sgS wy s (fun k => sgV G wy p c (if k < 2 then a + 1 else a) (if k < 2 then b else b + 1) (k % 2)) 4
theorem ixw (s w e : Nat) : 4 * nI s + 2 * nI w + nI e = nI (4 * s + (2 * w + e)) := by
  rw [show (4 : Int32) = nI 4 from by decide, show (2 : Int32) = nI 2 from by decide, pk_mul, pk_mul, nI_add, nI_add, Nat.add_assoc]
theorem ixf (w e : Nat) : 2 * nI w + nI e = nI (2 * w + e) := by
  rw [show (2 : Int32) = nI 2 from by decide, pk_mul, nI_add]
theorem sg_end {l : Launch} {g : Gh} {q : Nat} {A : Nat → Nat} {i m : Sc} {wy : Nat → Int64} {p : Int32} {G a0 b0 s0 d : Nat} (hG : m 194 = nI G) (hG6 : G ≤ 6) (ha : a0 ≤ 7) (hb : b0 ≤ 7) (h : G ≤ a0 ∨ G ≤ b0) : Cp l g yX12_setOf (Cond.code yX12_setOf cX12_setOf 9 (some .long)) d [.ref q, .int p, .int (nI a0), .int (nI b0), .int (nI s0)] [(q, ob 12 i (rM A)), (A 1, aI g 2616 m), (A 24, aJ g 8 wy)] (some (.long (sgB G p a0 b0))) [(q, ob 12 i (rM A)), (A 1, aI g 2616 m), (A 24, aJ g 8 wy)] := by
  refine ct_of (M := mtX12_setOf) [some (.ref q), some (.int p), some (.int (nI a0)), some (.int (nI b0)), some (.int (nI s0)), none, none, none, none] rfl (by decide) (Nat.le_of_ble_eq_true rfl) (fun _ h => h) (fun a => ?_)
  have cA : (m 194 ≤ nI a0) ↔ G ≤ a0 := by rw [hG]; exact nI_leI (by omega) (by omega)
  have cB : (m 194 ≤ nI b0) ↔ G ≤ b0 := by rw [hG]; exact nI_leI (by omega) (by omega)
  have K24 : WPs l g mtX12_setOf d 0 0 (pR (some (.long (sgB G p a0 b0))) [(q, ob 12 i (rM A)), (A 1, aI g 2616 m), (A 24, aJ g 8 wy)]) noX a 24 [some (.ref q), some (.int p), some (.int (nI a0)), some (.int (nI b0)), some (.int (nI s0)), none, none, none, none] [] [(q, ob 12 i (rM A)), (A 1, aI g 2616 m), (A 24, aJ g 8 wy)] 0 0 := by
    unfold sgB
    by_cases hp : p = 0
    · rw [if_pos hp]
      by_cases h1 : G ≤ a0
      · rw [if_pos h1]
        refine q_iload_n 1 25 dX12_setOf_24 rfl rfl rfl ?_
        refine q_if_ne 32 28 dX12_setOf_25 (by decide) rfl (fun h25 => absurd hp h25) (fun h25 => ?_)
        refine q_iload_n 2 29 dX12_setOf_28 rfl rfl rfl ?_
        refine q_goto 33 dX12_setOf_29 (by decide) ?_
        refine q_aload_n 0 34 dX12_setOf_33 rfl rfl rfl ?_
        refine q_getR 0 37 f_X12_7 dX12_setOf_34 rfl rfl rfl rfl ?_
        refine q_sipush 194 40 dX12_setOf_37 sc_194 rfl ?_
        refine q_iald 1 194 41 dX12_setOf_40 rfl ⟨by decide, by decide, by decide⟩ rfl ?_
        refine q_icmp_lt 50 44 dX12_setOf_41 (by decide) rfl (fun h41 => absurd h41 (Int32.not_lt.mpr (cA.mpr h1))) (fun h41 => ?_)
        refine q_ldc2 1000000000 47 k_X12_245 dX12_setOf_44 rfl ?_
        refine q_goto 51 dX12_setOf_47 (by decide) ?_
        refine q_lreturn dX12_setOf_51 rfl ?_
        exact pR.rf
      · rw [if_neg h1]
        refine q_iload_n 1 25 dX12_setOf_24 rfl rfl rfl ?_
        refine q_if_ne 32 28 dX12_setOf_25 (by decide) rfl (fun h25 => absurd hp h25) (fun h25 => ?_)
        refine q_iload_n 2 29 dX12_setOf_28 rfl rfl rfl ?_
        refine q_goto 33 dX12_setOf_29 (by decide) ?_
        refine q_aload_n 0 34 dX12_setOf_33 rfl rfl rfl ?_
        refine q_getR 0 37 f_X12_7 dX12_setOf_34 rfl rfl rfl rfl ?_
        refine q_sipush 194 40 dX12_setOf_37 sc_194 rfl ?_
        refine q_iald 1 194 41 dX12_setOf_40 rfl ⟨by decide, by decide, by decide⟩ rfl ?_
        refine q_icmp_lt 50 44 dX12_setOf_41 (by decide) rfl (fun h41 => ?_) (fun h41 => absurd (Int32.not_le.mp (fun z => h1 (cA.mp z))) h41)
        refine q_lconst 0 51 dX12_setOf_50 (by decide) rfl ?_
        refine q_lreturn dX12_setOf_51 rfl ?_
        exact pR.rf
    · rw [if_neg hp]
      by_cases h1 : G ≤ b0
      · rw [if_pos h1]
        refine q_iload_n 1 25 dX12_setOf_24 rfl rfl rfl ?_
        refine q_if_ne 32 28 dX12_setOf_25 (by decide) rfl (fun h25 => ?_) (fun h25 => absurd h25 hp)
        refine q_iload_n 3 33 dX12_setOf_32 rfl rfl rfl ?_
        refine q_aload_n 0 34 dX12_setOf_33 rfl rfl rfl ?_
        refine q_getR 0 37 f_X12_7 dX12_setOf_34 rfl rfl rfl rfl ?_
        refine q_sipush 194 40 dX12_setOf_37 sc_194 rfl ?_
        refine q_iald 1 194 41 dX12_setOf_40 rfl ⟨by decide, by decide, by decide⟩ rfl ?_
        refine q_icmp_lt 50 44 dX12_setOf_41 (by decide) rfl (fun h41 => absurd h41 (Int32.not_lt.mpr (cB.mpr h1))) (fun h41 => ?_)
        refine q_ldc2 1000000000 47 k_X12_245 dX12_setOf_44 rfl ?_
        refine q_goto 51 dX12_setOf_47 (by decide) ?_
        refine q_lreturn dX12_setOf_51 rfl ?_
        exact pR.rf
      · rw [if_neg h1]
        refine q_iload_n 1 25 dX12_setOf_24 rfl rfl rfl ?_
        refine q_if_ne 32 28 dX12_setOf_25 (by decide) rfl (fun h25 => ?_) (fun h25 => absurd h25 hp)
        refine q_iload_n 3 33 dX12_setOf_32 rfl rfl rfl ?_
        refine q_aload_n 0 34 dX12_setOf_33 rfl rfl rfl ?_
        refine q_getR 0 37 f_X12_7 dX12_setOf_34 rfl rfl rfl rfl ?_
        refine q_sipush 194 40 dX12_setOf_37 sc_194 rfl ?_
        refine q_iald 1 194 41 dX12_setOf_40 rfl ⟨by decide, by decide, by decide⟩ rfl ?_
        refine q_icmp_lt 50 44 dX12_setOf_41 (by decide) rfl (fun h41 => ?_) (fun h41 => absurd (Int32.not_le.mp (fun z => h1 (cB.mp z))) h41)
        refine q_lconst 0 51 dX12_setOf_50 (by decide) rfl ?_
        refine q_lreturn dX12_setOf_51 rfl ?_
        exact pR.rf
  generalize sgB G p a0 b0 = v9 at *
  by_cases h1 : G ≤ a0
  · skip
    refine q_iload_n 2 1 dX12_setOf_0 rfl rfl rfl ?_
    refine q_aload_n 0 2 dX12_setOf_1 rfl rfl rfl ?_
    refine q_getR 0 5 f_X12_7 dX12_setOf_2 rfl rfl rfl rfl ?_
    refine q_sipush 194 8 dX12_setOf_5 sc_194 rfl ?_
    refine q_iald 1 194 9 dX12_setOf_8 rfl ⟨by decide, by decide, by decide⟩ rfl ?_
    refine q_icmp_ge 24 12 dX12_setOf_9 (by decide) rfl (fun h9 => ?_) (fun h9 => absurd (cA.mpr h1) h9)
    exact K24
  · have h2 : G ≤ b0 := h.elim (fun z => absurd z h1) id
    refine q_iload_n 2 1 dX12_setOf_0 rfl rfl rfl ?_
    refine q_aload_n 0 2 dX12_setOf_1 rfl rfl rfl ?_
    refine q_getR 0 5 f_X12_7 dX12_setOf_2 rfl rfl rfl rfl ?_
    refine q_sipush 194 8 dX12_setOf_5 sc_194 rfl ?_
    refine q_iald 1 194 9 dX12_setOf_8 rfl ⟨by decide, by decide, by decide⟩ rfl ?_
    refine q_icmp_ge 24 12 dX12_setOf_9 (by decide) rfl (fun h9 => absurd h9 (fun z => h1 (cA.mp z))) (fun h9 => ?_)
    refine q_iload_n 3 13 dX12_setOf_12 rfl rfl rfl ?_
    refine q_aload_n 0 14 dX12_setOf_13 rfl rfl rfl ?_
    refine q_getR 0 17 f_X12_7 dX12_setOf_14 rfl rfl rfl rfl ?_
    refine q_sipush 194 20 dX12_setOf_17 sc_194 rfl ?_
    refine q_iald 1 194 21 dX12_setOf_20 rfl ⟨by decide, by decide, by decide⟩ rfl ?_
    refine q_icmp_lt 52 24 dX12_setOf_21 (by decide) rfl (fun h21 => absurd h21 (Int32.not_lt.mpr (cB.mpr h2))) (fun h21 => ?_)
    exact K24
theorem p_setOf {l : Launch} {g : Gh} {q : Nat} {A : Nat → Nat} {i m : Sc} {wy : Nat → Int64} {p : Int32} {G : Nat} (hG : m 194 = nI G) (hG6 : G ≤ 6) : ∀ (c a0 b0 s0 : Nat), s0 < 2 → a0 ≤ 7 → b0 ≤ 7 → (G - a0) + (G - b0) ≤ c + 1 → Cp l g yX12_setOf (Cond.code yX12_setOf cX12_setOf 9 (some .long)) (c + 1) [.ref q, .int p, .int (nI a0), .int (nI b0), .int (nI s0)] [(q, ob 12 i (rM A)), (A 1, aI g 2616 m), (A 24, aJ g 8 wy)] (some (.long (sgV G wy p c a0 b0 s0))) [(q, ob 12 i (rM A)), (A 1, aI g 2616 m), (A 24, aJ g 8 wy)] := by
  intro c
  induction c with
  | zero =>
    intro a0 b0 s0 hs ha hb hc
    exact sg_end hG hG6 ha hb (by omega)
  | succ c ih =>
    intro a0 b0 s0 hs ha hb hc
    rw [sgV]
    by_cases hE : G ≤ a0 ∨ G ≤ b0
    · rw [if_pos hE]
      exact sg_end hG hG6 ha hb hE
    · rw [if_neg hE]
      have hA : ¬ G ≤ a0 := fun z => hE (Or.inl z)
      have hB : ¬ G ≤ b0 := fun z => hE (Or.inr z)
      have cA : (m 194 ≤ nI a0) ↔ G ≤ a0 := by rw [hG]; exact nI_leI (by omega) (by omega)
      have cB : (m 194 ≤ nI b0) ↔ G ≤ b0 := by rw [hG]; exact nI_leI (by omega) (by omega)
      refine ct_of (M := mtX12_setOf) [some (.ref q), some (.int p), some (.int (nI a0)), some (.int (nI b0)), some (.int (nI s0)), none, none, none, none] rfl (by decide) (Nat.le_of_ble_eq_true rfl) (fun _ h => h) (fun a => ?_)
      generalize hf : (fun k => sgV G wy p c (if k < 2 then a0 + 1 else a0) (if k < 2 then b0 else b0 + 1) (k % 2)) = f
      have hf0 : ∀ e, e < 2 → f (2 * 0 + e) = sgV G wy p c (a0 + 1) b0 e := by
        intro e he
        rw [← hf]
        dsimp only
        rw [if_pos (by omega), if_pos (by omega), show (2 * 0 + e) % 2 = e by omega]
      have hf1 : ∀ e, e < 2 → f (2 * 1 + e) = sgV G wy p c a0 (b0 + 1) e := by
        intro e he
        rw [← hf]
        dsimp only
        rw [if_neg (by omega), if_neg (by omega), show (2 * 1 + e) % 2 = e by omega]
      clear hf
      have K58_2 : ∀ z : Option Value, WPs l g mtX12_setOf (c + 1 + 1) 0 0 (pR (some (.long (sgS wy s0 f 4))) [(q, ob 12 i (rM A)), (A 1, aI g 2616 m), (A 24, aJ g 8 wy)]) noX a 58 [some (.ref q), some (.int p), some (.int (nI a0)), some (.int (nI b0)), some (.int (nI s0)), some (.long (sgS wy s0 f 4)), none, some (.int (nI 2)), z] [] [(q, ob 12 i (rM A)), (A 1, aI g 2616 m), (A 24, aJ g 8 wy)] 0 0 := by
        intro z
        generalize (sgS wy s0 f 4) = v9
        refine q_iload 7 60 dX12_setOf_58 rfl rfl ?_
        refine q_iconst 2 61 dX12_setOf_60 ic_2 rfl ?_
        refine q_icmp_ge 144 64 dX12_setOf_61 (by decide) rfl (fun h61 => ?_) (fun h61 => absurd (by decide) h61)
        refine q_lload 5 146 dX12_setOf_144 rfl rfl ?_
        refine q_lreturn dX12_setOf_146 rfl ?_
        exact pR.rf
      have K67_1 : ∀ (c9 e : Nat), c9 + e = 2 → WPs l g mtX12_setOf (c + 1 + 1) 0 0 (pR (some (.long (sgS wy s0 f 4))) [(q, ob 12 i (rM A)), (A 1, aI g 2616 m), (A 24, aJ g 8 wy)]) noX a 67 [some (.ref q), some (.int p), some (.int (nI a0)), some (.int (nI b0)), some (.int (nI s0)), some (.long (sgS wy s0 f (2 * 1 + e))), none, some (.int (nI 1)), some (.int (nI e))] [] [(q, ob 12 i (rM A)), (A 1, aI g 2616 m), (A 24, aJ g 8 wy)] 0 0 := by
        intro c9
        induction c9 with
        | zero =>
          intro e he
          obtain rfl : e = 2 := by omega
          have K1 := K58_2
          generalize (sgS wy s0 f 4) = v9 at *
          refine q_iload 8 69 dX12_setOf_67 rfl rfl ?_
          refine q_iconst 2 70 dX12_setOf_69 ic_2 rfl ?_
          refine q_icmp_ge 138 73 dX12_setOf_70 (by decide) rfl (fun h70 => ?_) (fun h70 => absurd (by decide) h70)
          refine q_iinc 7 (nI (1 + 1)) 141 (L' := [_, _, _, _, _, _, _, _, _]) dX12_setOf_138 rfl (inc1 (1)) (by decide) rfl rfl ?_
          refine q_goto 58 dX12_setOf_141 (by decide) ?_
          exact K1 _
        | succ c9 ih9 =>
          intro e he
          have K1 := ih9 (e + 1) (by omega)
          rw [show 2 * 1 + (e + 1) = (2 * 1 + e) + 1 from rfl, sgS_s wy s0 f (2 * 1 + e), hf1 e (by omega)] at K1
          clear ih9
          generalize (sgS wy s0 f 4) = v9 at *
          generalize hv : sgS wy s0 f (2 * 1 + e) = v8 at *
          have hl2 : ¬ (2 : Int32) ≤ nI e := by rw [show (2 : Int32) = nI 2 from by decide]; exact nI_ge (by omega) (by omega)
          have hix : 4 * s0 + (2 * 1 + e) < 8 := by omega
          refine q_iload 8 69 dX12_setOf_67 rfl rfl ?_
          refine q_iconst 2 70 dX12_setOf_69 ic_2 rfl ?_
          refine q_icmp_ge 138 73 dX12_setOf_70 (by decide) rfl (fun h70 => absurd h70 hl2) (fun h70 => ?_)
          refine q_lload 5 75 dX12_setOf_73 rfl rfl ?_
          refine q_aload_n 0 76 dX12_setOf_75 rfl rfl rfl ?_
          refine q_getR 0 79 f_X12_47 dX12_setOf_76 rfl rfl rfl rfl ?_
          refine q_iconst 4 80 dX12_setOf_79 ic_4 rfl ?_
          refine q_iload 4 82 dX12_setOf_80 rfl rfl ?_
          refine q_imul 83 dX12_setOf_82 rfl ?_
          refine q_iconst 2 84 dX12_setOf_83 ic_2 rfl ?_
          refine q_iload 7 86 dX12_setOf_84 rfl rfl ?_
          refine q_imul 87 dX12_setOf_86 rfl ?_
          refine q_iadd 88 dX12_setOf_87 rfl ?_
          refine q_iload 8 90 dX12_setOf_88 rfl rfl ?_
          refine q_iadd 91 dX12_setOf_90 rfl ?_
          rw [ixw]
          generalize 4 * s0 + (2 * 1 + e) = ix at *
          refine q_lald 2 ix 92 dX12_setOf_91 rfl ⟨rfl, by omega, by decide⟩ rfl ?_
          refine q_aload_n 0 93 dX12_setOf_92 rfl rfl rfl ?_
          refine q_iload_n 1 94 dX12_setOf_93 rfl rfl rfl ?_
          refine q_iload 7 96 dX12_setOf_94 rfl rfl ?_
          refine q_if_ne 105 99 dX12_setOf_96 (by decide) rfl (fun h96 => ?_) (fun h96 => absurd h96 (by show ¬ nI 1 = 0; decide))
          refine q_iload_n 2 106 dX12_setOf_105 rfl rfl rfl ?_
          refine q_iload 7 108 dX12_setOf_106 rfl rfl ?_
          refine q_iconst 1 109 dX12_setOf_108 ic_1 rfl ?_
          refine q_icmp_ne 118 112 dX12_setOf_109 (by decide) rfl (fun h109 => absurd rfl h109) (fun h109 => ?_)
          refine q_iload_n 3 113 dX12_setOf_112 rfl rfl rfl ?_
          refine q_iconst 1 114 dX12_setOf_113 ic_1 rfl ?_
          refine q_iadd 115 dX12_setOf_114 rfl ?_
          refine q_goto 119 dX12_setOf_115 (by decide) ?_
          refine q_iload 8 121 dX12_setOf_119 rfl rfl ?_
          rw [nI_1]
          refine q_cVl 0 [0, 1, 2] [] [0, 1, 2] 124 (wr := []) (w1 := _) (ws' := [_, _, _]) (ih a0 (b0 + 1) e (by omega) (by omega) (by omega) (by omega)) m_X12_275 dX12_setOf_121 rfl rfl rfl rfl rfl rfl rfl rfl (by decide) (by decide) (by decide) (by decide) (Nat.le_of_ble_eq_true rfl) (by omega) (by omega) (by omega) rfl ?_
          refine q_lmul 125 dX12_setOf_124 rfl ?_
          refine q_ldc2 1000000000 128 k_X12_245 dX12_setOf_125 rfl ?_
          refine q_ldiv 129 dX12_setOf_128 (by decide) rfl ?_
          refine q_ladd 130 dX12_setOf_129 rfl ?_
          refine q_lstore 5 132 (L' := [_, _, _, _, _, _, _, _, _]) dX12_setOf_130 (by decide) rfl rfl ?_
          refine q_iinc 8 (nI (e + 1)) 135 (L' := [_, _, _, _, _, _, _, _, _]) dX12_setOf_132 rfl (inc1 (e)) (by decide) rfl rfl ?_
          refine q_goto 67 dX12_setOf_135 (by decide) ?_
          exact K1
      have K58_1 : ∀ z : Option Value, WPs l g mtX12_setOf (c + 1 + 1) 0 0 (pR (some (.long (sgS wy s0 f 4))) [(q, ob 12 i (rM A)), (A 1, aI g 2616 m), (A 24, aJ g 8 wy)]) noX a 58 [some (.ref q), some (.int p), some (.int (nI a0)), some (.int (nI b0)), some (.int (nI s0)), some (.long (sgS wy s0 f (2 * 1))), none, some (.int (nI 1)), z] [] [(q, ob 12 i (rM A)), (A 1, aI g 2616 m), (A 24, aJ g 8 wy)] 0 0 := by
        intro z
        have K1 := K67_1 2 0 rfl
        rw [show 2 * 1 + 0 = 2 * 1 from rfl] at K1
        generalize (sgS wy s0 f 4) = v9 at *
        generalize sgS wy s0 f (2 * 1) = v8 at *
        refine q_iload 7 60 dX12_setOf_58 rfl rfl ?_
        refine q_iconst 2 61 dX12_setOf_60 ic_2 rfl ?_
        refine q_icmp_ge 144 64 dX12_setOf_61 (by decide) rfl (fun h61 => absurd h61 (by decide)) (fun h61 => ?_)
        refine q_iconst 0 65 dX12_setOf_64 ic_0 rfl ?_
        refine q_istore 8 67 (L' := [_, _, _, _, _, _, _, _, _]) dX12_setOf_65 (by decide) rfl rfl ?_
        exact K1
      have K67_0 : ∀ (c9 e : Nat), c9 + e = 2 → WPs l g mtX12_setOf (c + 1 + 1) 0 0 (pR (some (.long (sgS wy s0 f 4))) [(q, ob 12 i (rM A)), (A 1, aI g 2616 m), (A 24, aJ g 8 wy)]) noX a 67 [some (.ref q), some (.int p), some (.int (nI a0)), some (.int (nI b0)), some (.int (nI s0)), some (.long (sgS wy s0 f (2 * 0 + e))), none, some (.int (nI 0)), some (.int (nI e))] [] [(q, ob 12 i (rM A)), (A 1, aI g 2616 m), (A 24, aJ g 8 wy)] 0 0 := by
        intro c9
        induction c9 with
        | zero =>
          intro e he
          obtain rfl : e = 2 := by omega
          have K1 := K58_1
          generalize (sgS wy s0 f 4) = v9 at *
          refine q_iload 8 69 dX12_setOf_67 rfl rfl ?_
          refine q_iconst 2 70 dX12_setOf_69 ic_2 rfl ?_
          refine q_icmp_ge 138 73 dX12_setOf_70 (by decide) rfl (fun h70 => ?_) (fun h70 => absurd (by decide) h70)
          refine q_iinc 7 (nI (0 + 1)) 141 (L' := [_, _, _, _, _, _, _, _, _]) dX12_setOf_138 rfl (inc1 (0)) (by decide) rfl rfl ?_
          refine q_goto 58 dX12_setOf_141 (by decide) ?_
          exact K1 _
        | succ c9 ih9 =>
          intro e he
          have K1 := ih9 (e + 1) (by omega)
          rw [show 2 * 0 + (e + 1) = (2 * 0 + e) + 1 from rfl, sgS_s wy s0 f (2 * 0 + e), hf0 e (by omega)] at K1
          clear ih9
          generalize (sgS wy s0 f 4) = v9 at *
          generalize hv : sgS wy s0 f (2 * 0 + e) = v8 at *
          have hl2 : ¬ (2 : Int32) ≤ nI e := by rw [show (2 : Int32) = nI 2 from by decide]; exact nI_ge (by omega) (by omega)
          have hix : 4 * s0 + (2 * 0 + e) < 8 := by omega
          refine q_iload 8 69 dX12_setOf_67 rfl rfl ?_
          refine q_iconst 2 70 dX12_setOf_69 ic_2 rfl ?_
          refine q_icmp_ge 138 73 dX12_setOf_70 (by decide) rfl (fun h70 => absurd h70 hl2) (fun h70 => ?_)
          refine q_lload 5 75 dX12_setOf_73 rfl rfl ?_
          refine q_aload_n 0 76 dX12_setOf_75 rfl rfl rfl ?_
          refine q_getR 0 79 f_X12_47 dX12_setOf_76 rfl rfl rfl rfl ?_
          refine q_iconst 4 80 dX12_setOf_79 ic_4 rfl ?_
          refine q_iload 4 82 dX12_setOf_80 rfl rfl ?_
          refine q_imul 83 dX12_setOf_82 rfl ?_
          refine q_iconst 2 84 dX12_setOf_83 ic_2 rfl ?_
          refine q_iload 7 86 dX12_setOf_84 rfl rfl ?_
          refine q_imul 87 dX12_setOf_86 rfl ?_
          refine q_iadd 88 dX12_setOf_87 rfl ?_
          refine q_iload 8 90 dX12_setOf_88 rfl rfl ?_
          refine q_iadd 91 dX12_setOf_90 rfl ?_
          rw [ixw]
          generalize 4 * s0 + (2 * 0 + e) = ix at *
          refine q_lald 2 ix 92 dX12_setOf_91 rfl ⟨rfl, by omega, by decide⟩ rfl ?_
          refine q_aload_n 0 93 dX12_setOf_92 rfl rfl rfl ?_
          refine q_iload_n 1 94 dX12_setOf_93 rfl rfl rfl ?_
          refine q_iload 7 96 dX12_setOf_94 rfl rfl ?_
          refine q_if_ne 105 99 dX12_setOf_96 (by decide) rfl (fun h96 => absurd rfl h96) (fun h96 => ?_)
          refine q_iload_n 2 100 dX12_setOf_99 rfl rfl rfl ?_
          refine q_iconst 1 101 dX12_setOf_100 ic_1 rfl ?_
          refine q_iadd 102 dX12_setOf_101 rfl ?_
          refine q_goto 106 dX12_setOf_102 (by decide) ?_
          refine q_iload 7 108 dX12_setOf_106 rfl rfl ?_
          refine q_iconst 1 109 dX12_setOf_108 ic_1 rfl ?_
          refine q_icmp_ne 118 112 dX12_setOf_109 (by decide) rfl (fun h109 => ?_) (fun h109 => absurd h109 (by show ¬ nI 0 = 1; decide))
          refine q_iload_n 3 119 dX12_setOf_118 rfl rfl rfl ?_
          refine q_iload 8 121 dX12_setOf_119 rfl rfl ?_
          rw [nI_1]
          refine q_cVl 0 [0, 1, 2] [] [0, 1, 2] 124 (wr := []) (w1 := _) (ws' := [_, _, _]) (ih (a0 + 1) b0 e (by omega) (by omega) (by omega) (by omega)) m_X12_275 dX12_setOf_121 rfl rfl rfl rfl rfl rfl rfl rfl (by decide) (by decide) (by decide) (by decide) (Nat.le_of_ble_eq_true rfl) (by omega) (by omega) (by omega) rfl ?_
          refine q_lmul 125 dX12_setOf_124 rfl ?_
          refine q_ldc2 1000000000 128 k_X12_245 dX12_setOf_125 rfl ?_
          refine q_ldiv 129 dX12_setOf_128 (by decide) rfl ?_
          refine q_ladd 130 dX12_setOf_129 rfl ?_
          refine q_lstore 5 132 (L' := [_, _, _, _, _, _, _, _, _]) dX12_setOf_130 (by decide) rfl rfl ?_
          refine q_iinc 8 (nI (e + 1)) 135 (L' := [_, _, _, _, _, _, _, _, _]) dX12_setOf_132 rfl (inc1 (e)) (by decide) rfl rfl ?_
          refine q_goto 67 dX12_setOf_135 (by decide) ?_
          exact K1
      have K58_0 : ∀ z : Option Value, WPs l g mtX12_setOf (c + 1 + 1) 0 0 (pR (some (.long (sgS wy s0 f 4))) [(q, ob 12 i (rM A)), (A 1, aI g 2616 m), (A 24, aJ g 8 wy)]) noX a 58 [some (.ref q), some (.int p), some (.int (nI a0)), some (.int (nI b0)), some (.int (nI s0)), some (.long (sgS wy s0 f (2 * 0))), none, some (.int (nI 0)), z] [] [(q, ob 12 i (rM A)), (A 1, aI g 2616 m), (A 24, aJ g 8 wy)] 0 0 := by
        intro z
        have K1 := K67_0 2 0 rfl
        rw [show 2 * 0 + 0 = 2 * 0 from rfl] at K1
        generalize (sgS wy s0 f 4) = v9 at *
        generalize sgS wy s0 f (2 * 0) = v8 at *
        refine q_iload 7 60 dX12_setOf_58 rfl rfl ?_
        refine q_iconst 2 61 dX12_setOf_60 ic_2 rfl ?_
        refine q_icmp_ge 144 64 dX12_setOf_61 (by decide) rfl (fun h61 => absurd h61 (by decide)) (fun h61 => ?_)
        refine q_iconst 0 65 dX12_setOf_64 ic_0 rfl ?_
        refine q_istore 8 67 (L' := [_, _, _, _, _, _, _, _, _]) dX12_setOf_65 (by decide) rfl rfl ?_
        exact K1
      have K1 := K58_0 none
      rw [show sgS wy s0 f (2 * 0) = 0 from rfl] at K1
      generalize (sgS wy s0 f 4) = v9 at *
      refine q_iload_n 2 1 dX12_setOf_0 rfl rfl rfl ?_
      refine q_aload_n 0 2 dX12_setOf_1 rfl rfl rfl ?_
      refine q_getR 0 5 f_X12_7 dX12_setOf_2 rfl rfl rfl rfl ?_
      refine q_sipush 194 8 dX12_setOf_5 sc_194 rfl ?_
      refine q_iald 1 194 9 dX12_setOf_8 rfl ⟨by decide, by decide, by decide⟩ rfl ?_
      refine q_icmp_ge 24 12 dX12_setOf_9 (by decide) rfl (fun h9 => absurd h9 (fun z => hA (cA.mp z))) (fun h9 => ?_)
      refine q_iload_n 3 13 dX12_setOf_12 rfl rfl rfl ?_
      refine q_aload_n 0 14 dX12_setOf_13 rfl rfl rfl ?_
      refine q_getR 0 17 f_X12_7 dX12_setOf_14 rfl rfl rfl rfl ?_
      refine q_sipush 194 20 dX12_setOf_17 sc_194 rfl ?_
      refine q_iald 1 194 21 dX12_setOf_20 rfl ⟨by decide, by decide, by decide⟩ rfl ?_
      refine q_icmp_lt 52 24 dX12_setOf_21 (by decide) rfl (fun h21 => ?_) (fun h21 => absurd (Int32.not_le.mp (fun z => hB (cB.mp z))) h21)
      refine q_lconst 0 53 dX12_setOf_52 (by decide) rfl ?_
      refine q_lstore 5 55 (L' := [_, _, _, _, _, _, _, _, _]) dX12_setOf_53 (by decide) rfl rfl ?_
      refine q_iconst 0 56 dX12_setOf_55 ic_0 rfl ?_
      refine q_istore 7 58 (L' := [_, _, _, _, _, _, _, _, _]) dX12_setOf_56 (by decide) rfl rfl ?_
      exact K1
def GOK (m : Sc) : Prop := (∃ G : Nat, 1 ≤ G ∧ G ≤ 6 ∧ m 194 = nI G) ∧ (∃ a : Nat, a ≤ 6 ∧ m 208 = nI a) ∧ (∃ b : Nat, b ≤ 6 ∧ m 209 = nI b)
/-- the chances of the four ways from a number, and from a game's begin -/
def b01 (k : Nat) : Int32 := if k = 0 then 0 else 1
def wyF (m st : Sc) (n : Nat) (k : Nat) : Int64 := (plR m st (b01 (k % 4 / 2)) (b01 (k % 2)) n (bg0 m (b01 (k / 4)))).toInt64
def fsF (m st : Sc) (n a0 : Nat) (k : Nat) : Int64 := (plR m st (b01 (k / 2)) (b01 (k % 2)) n a0).toInt64
theorem wyF_8 (m st : Sc) (n : Nat) : ∀ k, k < 8 → wyF m st n k = if k = 0 then (plR m st 0 0 n (bg0 m 0)).toInt64 else if k = 1 then (plR m st 0 1 n (bg0 m 0)).toInt64 else if k = 2 then (plR m st 1 0 n (bg0 m 0)).toInt64 else if k = 3 then (plR m st 1 1 n (bg0 m 0)).toInt64 else if k = 4 then (plR m st 0 0 n (bg0 m 1)).toInt64 else if k = 5 then (plR m st 0 1 n (bg0 m 1)).toInt64 else if k = 6 then (plR m st 1 0 n (bg0 m 1)).toInt64 else (plR m st 1 1 n (bg0 m 1)).toInt64 := by
  intro k hk
  unfold wyF b01
  match k, hk with
  | 0, _ => rfl
  | 1, _ => rfl
  | 2, _ => rfl
  | 3, _ => rfl
  | 4, _ => rfl
  | 5, _ => rfl
  | 6, _ => rfl
  | 7, _ => rfl
  | (k + 8), hk => omega
theorem fsF_4 (m st : Sc) (n a0 : Nat) : ∀ k, k < 4 → fsF m st n a0 k = if k = 0 then (plR m st 0 0 n a0).toInt64 else if k = 1 then (plR m st 0 1 n a0).toInt64 else if k = 2 then (plR m st 1 0 n a0).toInt64 else (plR m st 1 1 n a0).toInt64 := by
  intro k hk
  unfold fsF b01
  match k, hk with
  | 0, _ => rfl
  | 1, _ => rfl
  | 2, _ => rfl
  | 3, _ => rfl
  | (k + 4), hk => omega
def seV (m st : Sc) (p : Int32) (n a0 : Nat) : Int32 := (sgS (fsF m st n a0) 0 (fun k => sgV (m 194).toNatClampNeg (wyF m st n) p 11 (if k < 2 then (m 208).toNatClampNeg + 1 else (m 208).toNatClampNeg) (if k < 2 then (m 209).toNatClampNeg else (m 209).toNatClampNeg + 1) (k % 2)) 4).toInt32
theorem p_set0 {l : Launch} {g : Gh} {q : Nat} {A : Nat → Nat} {i m x : Sc} {p n : Int32} (h0 : ¬ reT m (S m) p n = 0) : Cp l g yX12_set (Cond.code yX12_set cX12_set 9 (some .int)) 4 [.ref q, .int p, .int n] [(q, ob 12 i (rM A)), (A 1, aI g 2616 m), (A 16, aI g 9 x)] (some (.int 0)) [(q, ob 12 (upd i 0 (reT m (S m) p n)) (rM A)), (A 1, aI g 2616 m), (A 16, aI g 9 (rTake m x))] := by
  refine ct_of (M := mtX12_set) [some (.ref q), some (.int p), some (.int n), none, none, none, none, none, none] rfl (by decide) (Nat.le_of_ble_eq_true rfl) (fun _ h => h) (fun a => ?_)
  have hle := reT_le h0
  generalize hr : reT m (S m) p n = r at *
  refine q_aload_n 0 1 dX12_set_0 rfl rfl rfl ?_
  refine q_aload_n 0 2 dX12_set_1 rfl rfl rfl ?_
  refine q_iload_n 1 3 dX12_set_2 rfl rfl rfl ?_
  refine q_iload_n 2 4 dX12_set_3 rfl rfl rfl ?_
  refine q_cVi 0 [0, 1, 2] [] [0, 1, 2] 7 (wr := []) (w1 := _) (ws' := [_, _, _]) p_refuses m_X12_260 dX12_set_4 rfl rfl rfl rfl rfl rfl rfl rfl (by decide) (by decide) (by decide) (by decide) (Nat.le_of_ble_eq_true rfl) (by omega) (by omega) (by omega) rfl ?_
  rw [reT_S, hr]
  refine q_putI 0 10 (w' := [_, _, _]) f_X12_67 ft_X12_0 dX12_set_7 rfl rfl rfl rfl ?_
  refine q_aload_n 0 11 dX12_set_10 rfl rfl rfl ?_
  refine q_getI 0 14 f_X12_67 dX12_set_11 rfl rfl rfl ?_
  refine q_if_le 19 17 dX12_set_14 (by decide) rfl (fun h14 => absurd h14 hle) (fun h14 => ?_)
  refine q_iconst 0 18 dX12_set_17 ic_0 rfl ?_
  refine q_ireturn dX12_set_18 rfl ?_
  exact pR.rf
theorem set_sum {l : Launch} {g : Gh} {q : Nat} {A : Nat → Nat} {i m tp fc x st nw ls : Sc} {wy fs : Nat → Int64} {p : Int32} {n a0 : Nat} {a : Act} (hGm : GOK m) : ∀ (i5 fc5 x5 nw5 ls5 : Sc) (z3 z4 z5 z6 z7 z8 : Option Value), smK (upd i 0 0) i5 → WPs l g mtX12_set 34 0 0 (pE (fun z : Sc × Sc × Sc × Sc × Sc × Sc × (Nat → Int64) × (Nat → Int64) => some (.int (seV m (svA m) p n a0))) (fun z : Sc × Sc × Sc × Sc × Sc × Sc × (Nat → Int64) × (Nat → Int64) => [(q, ob 12 z.1 (rM A)), (A 1, aI g 2616 m), (A 5, aI g 400 tp), (A 12, aI g 5 z.2.1), (A 16, aI g 9 z.2.2.1), (A 19, aI g 30976 z.2.2.2.1), (A 20, aI g 15488 z.2.2.2.2.1), (A 21, aI g 15488 z.2.2.2.2.2.1), (A 24, aJ g 8 z.2.2.2.2.2.2.1), (A 25, aJ g 4 z.2.2.2.2.2.2.2)]) (fun z : Sc × Sc × Sc × Sc × Sc × Sc × (Nat → Int64) × (Nat → Int64) => smK (upd i 0 0) z.1)) noX a 131 [some (.ref q), some (.int p), some (.int (nI n)), z3, z4, z5, z6, z7, z8] [] [(q, ob 12 i5 (rM A)), (A 1, aI g 2616 m), (A 5, aI g 400 tp), (A 12, aI g 5 fc5), (A 16, aI g 9 x5), (A 19, aI g 30976 (svA m)), (A 20, aI g 15488 nw5), (A 21, aI g 15488 ls5), (A 24, aJ g 8 (wyF m (svA m) n)), (A 25, aJ g 4 (fsF m (svA m) n a0))] 0 0 := by
  obtain ⟨⟨G, hG1, hG6, eG⟩, ⟨ga, hga, ega⟩, ⟨gb, hgb, egb⟩⟩ := hGm
  intro i5 fc5 x5 nw5 ls5 z3 z4 z5 z6 z7 z8 hi5
  unfold seV
  rw [eG, ega, egb, nI_clamp (by omega), nI_clamp (by omega), nI_clamp (by omega)]
  generalize svA m = st5 at *
  have hS := fun a0 b0 s0 h1 h2 h3 => p_setOf (l := l) (g := g) (q := q) (A := A) (i := i5) (wy := wyF m st5 n) (p := p) eG hG6 11 a0 b0 s0 h1 h2 h3
  generalize wyF m st5 n = wy9 at *
  generalize fsF m st5 n a0 = fs9 at *
  generalize hf : (fun k => sgV G wy9 p 11 (if k < 2 then ga + 1 else ga) (if k < 2 then gb else gb + 1) (k % 2)) = f
  have hf0 : ∀ e, e < 2 → f (2 * 0 + e) = sgV G wy9 p 11 (ga + 1) gb e := by
    intro e he
    rw [← hf]
    dsimp only
    rw [if_pos (by omega), if_pos (by omega), show (2 * 0 + e) % 2 = e by omega]
  have hf1 : ∀ e, e < 2 → f (2 * 1 + e) = sgV G wy9 p 11 ga (gb + 1) e := by
    intro e he
    rw [← hf]
    dsimp only
    rw [if_neg (by omega), if_neg (by omega), show (2 * 1 + e) % 2 = e by omega]
  clear hf
  have K156_2 : ∀ z : Option Value, WPs l g mtX12_set 34 0 0 (pE (fun z : Sc × Sc × Sc × Sc × Sc × Sc × (Nat → Int64) × (Nat → Int64) => some (.int ((sgS fs9 0 f 4).toInt32))) (fun z : Sc × Sc × Sc × Sc × Sc × Sc × (Nat → Int64) × (Nat → Int64) => [(q, ob 12 z.1 (rM A)), (A 1, aI g 2616 m), (A 5, aI g 400 tp), (A 12, aI g 5 z.2.1), (A 16, aI g 9 z.2.2.1), (A 19, aI g 30976 z.2.2.2.1), (A 20, aI g 15488 z.2.2.2.2.1), (A 21, aI g 15488 z.2.2.2.2.2.1), (A 24, aJ g 8 z.2.2.2.2.2.2.1), (A 25, aJ g 4 z.2.2.2.2.2.2.2)]) (fun z : Sc × Sc × Sc × Sc × Sc × Sc × (Nat → Int64) × (Nat → Int64) => smK (upd i 0 0) z.1)) noX a 156 [some (.ref q), some (.int p), some (.int (nI n)), some (.int (nI ga)), some (.int (nI gb)), some (.long (sgS fs9 0 f 4)), none, some (.int (nI 2)), z] [] [(q, ob 12 i5 (rM A)), (A 1, aI g 2616 m), (A 5, aI g 400 tp), (A 12, aI g 5 fc5), (A 16, aI g 9 x5), (A 19, aI g 30976 st5), (A 20, aI g 15488 nw5), (A 21, aI g 15488 ls5), (A 24, aJ g 8 wy9), (A 25, aJ g 4 fs9)] 0 0 := by
    intro z
    generalize (sgS fs9 0 f 4) = v9
    refine q_iload 7 158 dX12_set_156 rfl rfl ?_
    refine q_iconst 2 159 dX12_set_158 ic_2 rfl ?_
    refine q_icmp_ge 239 162 dX12_set_159 (by decide) rfl (fun h159 => ?_) (fun h159 => absurd (by decide) h159)
    refine q_lload 5 241 dX12_set_239 rfl rfl ?_
    refine q_l2i 242 dX12_set_241 rfl ?_
    refine q_ireturn dX12_set_242 rfl ?_
    exact pE.mk (_, _, _, _, _, _, _, _) hi5 rfl rfl
  have K165_1 : ∀ (c9 e : Nat), c9 + e = 2 → WPs l g mtX12_set 34 0 0 (pE (fun z : Sc × Sc × Sc × Sc × Sc × Sc × (Nat → Int64) × (Nat → Int64) => some (.int ((sgS fs9 0 f 4).toInt32))) (fun z : Sc × Sc × Sc × Sc × Sc × Sc × (Nat → Int64) × (Nat → Int64) => [(q, ob 12 z.1 (rM A)), (A 1, aI g 2616 m), (A 5, aI g 400 tp), (A 12, aI g 5 z.2.1), (A 16, aI g 9 z.2.2.1), (A 19, aI g 30976 z.2.2.2.1), (A 20, aI g 15488 z.2.2.2.2.1), (A 21, aI g 15488 z.2.2.2.2.2.1), (A 24, aJ g 8 z.2.2.2.2.2.2.1), (A 25, aJ g 4 z.2.2.2.2.2.2.2)]) (fun z : Sc × Sc × Sc × Sc × Sc × Sc × (Nat → Int64) × (Nat → Int64) => smK (upd i 0 0) z.1)) noX a 165 [some (.ref q), some (.int p), some (.int (nI n)), some (.int (nI ga)), some (.int (nI gb)), some (.long (sgS fs9 0 f (2 * 1 + e))), none, some (.int (nI 1)), some (.int (nI e))] [] [(q, ob 12 i5 (rM A)), (A 1, aI g 2616 m), (A 5, aI g 400 tp), (A 12, aI g 5 fc5), (A 16, aI g 9 x5), (A 19, aI g 30976 st5), (A 20, aI g 15488 nw5), (A 21, aI g 15488 ls5), (A 24, aJ g 8 wy9), (A 25, aJ g 4 fs9)] 0 0 := by
    intro c9
    induction c9 with
    | zero =>
      intro e he
      obtain rfl : e = 2 := by omega
      have K1 := K156_2
      generalize (sgS fs9 0 f 4) = v9 at *
      refine q_iload 8 167 dX12_set_165 rfl rfl ?_
      refine q_iconst 2 168 dX12_set_167 ic_2 rfl ?_
      refine q_icmp_ge 233 171 dX12_set_168 (by decide) rfl (fun h168 => ?_) (fun h168 => absurd (by decide) h168)
      refine q_iinc 7 (nI (1 + 1)) 236 (L' := [_, _, _, _, _, _, _, _, _]) dX12_set_233 rfl (inc1 (1)) (by decide) rfl rfl ?_
      refine q_goto 156 dX12_set_236 (by decide) ?_
      exact K1 _
    | succ c9 ih9 =>
      intro e he
      have K1 := ih9 (e + 1) (by omega)
      rw [show 2 * 1 + (e + 1) = (2 * 1 + e) + 1 from rfl, sgS_s fs9 0 f (2 * 1 + e), hf1 e (by omega), show 4 * 0 + (2 * 1 + e) = 2 * 1 + e by omega] at K1
      clear ih9
      generalize (sgS fs9 0 f 4) = v9 at *
      generalize hv : sgS fs9 0 f (2 * 1 + e) = v8 at *
      have hl2 : ¬ (2 : Int32) ≤ nI e := by rw [show (2 : Int32) = nI 2 from by decide]; exact nI_ge (by omega) (by omega)
      have hix : 2 * 1 + e < 4 := by omega
      refine q_iload 8 167 dX12_set_165 rfl rfl ?_
      refine q_iconst 2 168 dX12_set_167 ic_2 rfl ?_
      refine q_icmp_ge 233 171 dX12_set_168 (by decide) rfl (fun h168 => absurd h168 hl2) (fun h168 => ?_)
      refine q_lload 5 173 dX12_set_171 rfl rfl ?_
      refine q_aload_n 0 174 dX12_set_173 rfl rfl rfl ?_
      refine q_getR 0 177 f_X12_51 dX12_set_174 rfl rfl rfl rfl ?_
      refine q_iconst 2 178 dX12_set_177 ic_2 rfl ?_
      refine q_iload 7 180 dX12_set_178 rfl rfl ?_
      refine q_imul 181 dX12_set_180 rfl ?_
      refine q_iload 8 183 dX12_set_181 rfl rfl ?_
      refine q_iadd 184 dX12_set_183 rfl ?_
      rw [ixf]
      generalize 2 * 1 + e = ix at *
      refine q_lald 9 ix 185 dX12_set_184 rfl ⟨rfl, by omega, by decide⟩ rfl ?_
      refine q_aload_n 0 186 dX12_set_185 rfl rfl rfl ?_
      refine q_iload_n 1 187 dX12_set_186 rfl rfl rfl ?_
      refine q_iload 7 189 dX12_set_187 rfl rfl ?_
      refine q_if_ne 198 192 dX12_set_189 (by decide) rfl (fun h189 => ?_) (fun h189 => absurd h189 (by show ¬ nI 1 = 0; decide))
      refine q_iload_n 3 199 dX12_set_198 rfl rfl rfl ?_
      refine q_iload 7 201 dX12_set_199 rfl rfl ?_
      refine q_iconst 1 202 dX12_set_201 ic_1 rfl ?_
      refine q_icmp_ne 212 205 dX12_set_202 (by decide) rfl (fun h202 => absurd rfl h202) (fun h202 => ?_)
      refine q_iload 4 207 dX12_set_205 rfl rfl ?_
      refine q_iconst 1 208 dX12_set_207 ic_1 rfl ?_
      refine q_iadd 209 dX12_set_208 rfl ?_
      refine q_goto 214 dX12_set_209 (by decide) ?_
      refine q_iload 8 216 dX12_set_214 rfl rfl ?_
      rw [nI_1]
      refine q_cVl 0 [0, 1, 8] [2, 3, 4, 5, 6, 7, 9] [7, 8, 0, 1, 2, 3, 4, 5, 9, 6] 219 (wr := [_, _, _, _, _, _, _]) (w1 := _) (ws' := [_, _, _, _, _, _, _, _, _, _]) (hS ga (gb + 1) e (by omega) (by omega) (by omega) (by omega)) m_X12_275 dX12_set_216 rfl rfl rfl rfl rfl rfl rfl rfl (by decide) (by decide) (by decide) (by decide) (Nat.le_of_ble_eq_true rfl) (by omega) (by omega) (by omega) rfl ?_
      refine q_lmul 220 dX12_set_219 rfl ?_
      refine q_ldc2 1000000000 223 k_X12_245 dX12_set_220 rfl ?_
      refine q_ldiv 224 dX12_set_223 (by decide) rfl ?_
      refine q_ladd 225 dX12_set_224 rfl ?_
      refine q_lstore 5 227 (L' := [_, _, _, _, _, _, _, _, _]) dX12_set_225 (by decide) rfl rfl ?_
      refine q_iinc 8 (nI (e + 1)) 230 (L' := [_, _, _, _, _, _, _, _, _]) dX12_set_227 rfl (inc1 (e)) (by decide) rfl rfl ?_
      refine q_goto 165 dX12_set_230 (by decide) ?_
      exact K1
  have K156_1 : ∀ z : Option Value, WPs l g mtX12_set 34 0 0 (pE (fun z : Sc × Sc × Sc × Sc × Sc × Sc × (Nat → Int64) × (Nat → Int64) => some (.int ((sgS fs9 0 f 4).toInt32))) (fun z : Sc × Sc × Sc × Sc × Sc × Sc × (Nat → Int64) × (Nat → Int64) => [(q, ob 12 z.1 (rM A)), (A 1, aI g 2616 m), (A 5, aI g 400 tp), (A 12, aI g 5 z.2.1), (A 16, aI g 9 z.2.2.1), (A 19, aI g 30976 z.2.2.2.1), (A 20, aI g 15488 z.2.2.2.2.1), (A 21, aI g 15488 z.2.2.2.2.2.1), (A 24, aJ g 8 z.2.2.2.2.2.2.1), (A 25, aJ g 4 z.2.2.2.2.2.2.2)]) (fun z : Sc × Sc × Sc × Sc × Sc × Sc × (Nat → Int64) × (Nat → Int64) => smK (upd i 0 0) z.1)) noX a 156 [some (.ref q), some (.int p), some (.int (nI n)), some (.int (nI ga)), some (.int (nI gb)), some (.long (sgS fs9 0 f (2 * 1))), none, some (.int (nI 1)), z] [] [(q, ob 12 i5 (rM A)), (A 1, aI g 2616 m), (A 5, aI g 400 tp), (A 12, aI g 5 fc5), (A 16, aI g 9 x5), (A 19, aI g 30976 st5), (A 20, aI g 15488 nw5), (A 21, aI g 15488 ls5), (A 24, aJ g 8 wy9), (A 25, aJ g 4 fs9)] 0 0 := by
    intro z
    have K1 := K165_1 2 0 rfl
    rw [show 2 * 1 + 0 = 2 * 1 from rfl] at K1
    generalize (sgS fs9 0 f 4) = v9 at *
    generalize sgS fs9 0 f (2 * 1) = v8 at *
    refine q_iload 7 158 dX12_set_156 rfl rfl ?_
    refine q_iconst 2 159 dX12_set_158 ic_2 rfl ?_
    refine q_icmp_ge 239 162 dX12_set_159 (by decide) rfl (fun h159 => absurd h159 (by decide)) (fun h159 => ?_)
    refine q_iconst 0 163 dX12_set_162 ic_0 rfl ?_
    refine q_istore 8 165 (L' := [_, _, _, _, _, _, _, _, _]) dX12_set_163 (by decide) rfl rfl ?_
    exact K1
  have K165_0 : ∀ (c9 e : Nat), c9 + e = 2 → WPs l g mtX12_set 34 0 0 (pE (fun z : Sc × Sc × Sc × Sc × Sc × Sc × (Nat → Int64) × (Nat → Int64) => some (.int ((sgS fs9 0 f 4).toInt32))) (fun z : Sc × Sc × Sc × Sc × Sc × Sc × (Nat → Int64) × (Nat → Int64) => [(q, ob 12 z.1 (rM A)), (A 1, aI g 2616 m), (A 5, aI g 400 tp), (A 12, aI g 5 z.2.1), (A 16, aI g 9 z.2.2.1), (A 19, aI g 30976 z.2.2.2.1), (A 20, aI g 15488 z.2.2.2.2.1), (A 21, aI g 15488 z.2.2.2.2.2.1), (A 24, aJ g 8 z.2.2.2.2.2.2.1), (A 25, aJ g 4 z.2.2.2.2.2.2.2)]) (fun z : Sc × Sc × Sc × Sc × Sc × Sc × (Nat → Int64) × (Nat → Int64) => smK (upd i 0 0) z.1)) noX a 165 [some (.ref q), some (.int p), some (.int (nI n)), some (.int (nI ga)), some (.int (nI gb)), some (.long (sgS fs9 0 f (2 * 0 + e))), none, some (.int (nI 0)), some (.int (nI e))] [] [(q, ob 12 i5 (rM A)), (A 1, aI g 2616 m), (A 5, aI g 400 tp), (A 12, aI g 5 fc5), (A 16, aI g 9 x5), (A 19, aI g 30976 st5), (A 20, aI g 15488 nw5), (A 21, aI g 15488 ls5), (A 24, aJ g 8 wy9), (A 25, aJ g 4 fs9)] 0 0 := by
    intro c9
    induction c9 with
    | zero =>
      intro e he
      obtain rfl : e = 2 := by omega
      have K1 := K156_1
      generalize (sgS fs9 0 f 4) = v9 at *
      refine q_iload 8 167 dX12_set_165 rfl rfl ?_
      refine q_iconst 2 168 dX12_set_167 ic_2 rfl ?_
      refine q_icmp_ge 233 171 dX12_set_168 (by decide) rfl (fun h168 => ?_) (fun h168 => absurd (by decide) h168)
      refine q_iinc 7 (nI (0 + 1)) 236 (L' := [_, _, _, _, _, _, _, _, _]) dX12_set_233 rfl (inc1 (0)) (by decide) rfl rfl ?_
      refine q_goto 156 dX12_set_236 (by decide) ?_
      exact K1 _
    | succ c9 ih9 =>
      intro e he
      have K1 := ih9 (e + 1) (by omega)
      rw [show 2 * 0 + (e + 1) = (2 * 0 + e) + 1 from rfl, sgS_s fs9 0 f (2 * 0 + e), hf0 e (by omega), show 4 * 0 + (2 * 0 + e) = 2 * 0 + e by omega] at K1
      clear ih9
      generalize (sgS fs9 0 f 4) = v9 at *
      generalize hv : sgS fs9 0 f (2 * 0 + e) = v8 at *
      have hl2 : ¬ (2 : Int32) ≤ nI e := by rw [show (2 : Int32) = nI 2 from by decide]; exact nI_ge (by omega) (by omega)
      have hix : 2 * 0 + e < 4 := by omega
      refine q_iload 8 167 dX12_set_165 rfl rfl ?_
      refine q_iconst 2 168 dX12_set_167 ic_2 rfl ?_
      refine q_icmp_ge 233 171 dX12_set_168 (by decide) rfl (fun h168 => absurd h168 hl2) (fun h168 => ?_)
      refine q_lload 5 173 dX12_set_171 rfl rfl ?_
      refine q_aload_n 0 174 dX12_set_173 rfl rfl rfl ?_
      refine q_getR 0 177 f_X12_51 dX12_set_174 rfl rfl rfl rfl ?_
      refine q_iconst 2 178 dX12_set_177 ic_2 rfl ?_
      refine q_iload 7 180 dX12_set_178 rfl rfl ?_
      refine q_imul 181 dX12_set_180 rfl ?_
      refine q_iload 8 183 dX12_set_181 rfl rfl ?_
      refine q_iadd 184 dX12_set_183 rfl ?_
      rw [ixf]
      generalize 2 * 0 + e = ix at *
      refine q_lald 9 ix 185 dX12_set_184 rfl ⟨rfl, by omega, by decide⟩ rfl ?_
      refine q_aload_n 0 186 dX12_set_185 rfl rfl rfl ?_
      refine q_iload_n 1 187 dX12_set_186 rfl rfl rfl ?_
      refine q_iload 7 189 dX12_set_187 rfl rfl ?_
      refine q_if_ne 198 192 dX12_set_189 (by decide) rfl (fun h189 => absurd rfl h189) (fun h189 => ?_)
      refine q_iload_n 3 193 dX12_set_192 rfl rfl rfl ?_
      refine q_iconst 1 194 dX12_set_193 ic_1 rfl ?_
      refine q_iadd 195 dX12_set_194 rfl ?_
      refine q_goto 199 dX12_set_195 (by decide) ?_
      refine q_iload 7 201 dX12_set_199 rfl rfl ?_
      refine q_iconst 1 202 dX12_set_201 ic_1 rfl ?_
      refine q_icmp_ne 212 205 dX12_set_202 (by decide) rfl (fun h202 => ?_) (fun h202 => absurd h202 (by show ¬ nI 0 = 1; decide))
      refine q_iload 4 214 dX12_set_212 rfl rfl ?_
      refine q_iload 8 216 dX12_set_214 rfl rfl ?_
      rw [nI_1]
      refine q_cVl 0 [0, 1, 8] [2, 3, 4, 5, 6, 7, 9] [7, 8, 0, 1, 2, 3, 4, 5, 9, 6] 219 (wr := [_, _, _, _, _, _, _]) (w1 := _) (ws' := [_, _, _, _, _, _, _, _, _, _]) (hS (ga + 1) gb e (by omega) (by omega) (by omega) (by omega)) m_X12_275 dX12_set_216 rfl rfl rfl rfl rfl rfl rfl rfl (by decide) (by decide) (by decide) (by decide) (Nat.le_of_ble_eq_true rfl) (by omega) (by omega) (by omega) rfl ?_
      refine q_lmul 220 dX12_set_219 rfl ?_
      refine q_ldc2 1000000000 223 k_X12_245 dX12_set_220 rfl ?_
      refine q_ldiv 224 dX12_set_223 (by decide) rfl ?_
      refine q_ladd 225 dX12_set_224 rfl ?_
      refine q_lstore 5 227 (L' := [_, _, _, _, _, _, _, _, _]) dX12_set_225 (by decide) rfl rfl ?_
      refine q_iinc 8 (nI (e + 1)) 230 (L' := [_, _, _, _, _, _, _, _, _]) dX12_set_227 rfl (inc1 (e)) (by decide) rfl rfl ?_
      refine q_goto 165 dX12_set_230 (by decide) ?_
      exact K1
  have K156_0 : ∀ z : Option Value, WPs l g mtX12_set 34 0 0 (pE (fun z : Sc × Sc × Sc × Sc × Sc × Sc × (Nat → Int64) × (Nat → Int64) => some (.int ((sgS fs9 0 f 4).toInt32))) (fun z : Sc × Sc × Sc × Sc × Sc × Sc × (Nat → Int64) × (Nat → Int64) => [(q, ob 12 z.1 (rM A)), (A 1, aI g 2616 m), (A 5, aI g 400 tp), (A 12, aI g 5 z.2.1), (A 16, aI g 9 z.2.2.1), (A 19, aI g 30976 z.2.2.2.1), (A 20, aI g 15488 z.2.2.2.2.1), (A 21, aI g 15488 z.2.2.2.2.2.1), (A 24, aJ g 8 z.2.2.2.2.2.2.1), (A 25, aJ g 4 z.2.2.2.2.2.2.2)]) (fun z : Sc × Sc × Sc × Sc × Sc × Sc × (Nat → Int64) × (Nat → Int64) => smK (upd i 0 0) z.1)) noX a 156 [some (.ref q), some (.int p), some (.int (nI n)), some (.int (nI ga)), some (.int (nI gb)), some (.long (sgS fs9 0 f (2 * 0))), none, some (.int (nI 0)), z] [] [(q, ob 12 i5 (rM A)), (A 1, aI g 2616 m), (A 5, aI g 400 tp), (A 12, aI g 5 fc5), (A 16, aI g 9 x5), (A 19, aI g 30976 st5), (A 20, aI g 15488 nw5), (A 21, aI g 15488 ls5), (A 24, aJ g 8 wy9), (A 25, aJ g 4 fs9)] 0 0 := by
    intro z
    have K1 := K165_0 2 0 rfl
    rw [show 2 * 0 + 0 = 2 * 0 from rfl] at K1
    generalize (sgS fs9 0 f 4) = v9 at *
    generalize sgS fs9 0 f (2 * 0) = v8 at *
    refine q_iload 7 158 dX12_set_156 rfl rfl ?_
    refine q_iconst 2 159 dX12_set_158 ic_2 rfl ?_
    refine q_icmp_ge 239 162 dX12_set_159 (by decide) rfl (fun h159 => absurd h159 (by decide)) (fun h159 => ?_)
    refine q_iconst 0 163 dX12_set_162 ic_0 rfl ?_
    refine q_istore 8 165 (L' := [_, _, _, _, _, _, _, _, _]) dX12_set_163 (by decide) rfl rfl ?_
    exact K1
  have K1 := K156_0
  rw [show sgS fs9 0 f (2 * 0) = 0 from rfl] at K1
  generalize (sgS fs9 0 f 4) = v9 at *
  refine q_aload_n 0 132 dX12_set_131 rfl rfl rfl ?_
  refine q_getR 0 135 f_X12_7 dX12_set_132 rfl rfl rfl rfl ?_
  refine q_sipush 208 138 dX12_set_135 sc_208 rfl ?_
  refine q_iald 1 208 139 dX12_set_138 rfl ⟨by decide, by decide, by decide⟩ rfl ?_
  rw [ega]
  refine q_istore_n 3 140 (L' := [_, _, _, _, _, _, _, _, _]) dX12_set_139 rfl (by decide) rfl rfl ?_
  refine q_aload_n 0 141 dX12_set_140 rfl rfl rfl ?_
  refine q_getR 0 144 f_X12_7 dX12_set_141 rfl rfl rfl rfl ?_
  refine q_sipush 209 147 dX12_set_144 sc_209 rfl ?_
  refine q_iald 1 209 148 dX12_set_147 rfl ⟨by decide, by decide, by decide⟩ rfl ?_
  rw [egb]
  refine q_istore 4 150 (L' := [_, _, _, _, _, _, _, _, _]) dX12_set_148 (by decide) rfl rfl ?_
  refine q_lconst 0 151 dX12_set_150 (by decide) rfl ?_
  refine q_lstore 5 153 (L' := [_, _, _, _, _, _, _, _, _]) dX12_set_151 (by decide) rfl rfl ?_
  refine q_iconst 0 154 dX12_set_153 ic_0 rfl ?_
  refine q_istore 7 156 (L' := [_, _, _, _, _, _, _, _, _]) dX12_set_154 (by decide) rfl rfl ?_
  exact K1 _
theorem set_pair {i9 : Sc} {l : Launch} {g : Gh} {q : Nat} {A : Nat → Nat} {i m tp fc x st nw ls : Sc} {wy fs : Nat → Int64} {p w e v9 : Int32} {n a0 b0 b1 kw k4 : Nat} {a : Act} (hn : n ≤ 30) (hsv : stOK st) (hH : HOK m) (ha : a0 < 15488) (eA : rNum (S m) = nI a0) (hb0 : b0 < 15488) (eB0 : rNum (bnS m 0) = nI b0) (hb1 : b1 < 15488) (eB1 : rNum (bnS m (0 + Int32.ofInt 1)) = nI b1) (hk : kw < 4) (hk4 : k4 < 8) (hwf : 2 * w + e = nI kw) (hw0 : 4 * 0 + 2 * w + e = nI kw) (hw1 : 4 * (0 + Int32.ofInt 1) + 2 * w + e = nI k4)
    (cont : ∀ (i6 x6 ls6 : Sc) (z5 : Option Value), sm2 i i6 → WPs l g mtX12_set 34 0 0 (pE (fun z : Sc × Sc × Sc × Sc × Sc × Sc × (Nat → Int64) × (Nat → Int64) => some (.int v9)) (fun z : Sc × Sc × Sc × Sc × Sc × Sc × (Nat → Int64) × (Nat → Int64) => [(q, ob 12 z.1 (rM A)), (A 1, aI g 2616 m), (A 5, aI g 400 tp), (A 12, aI g 5 z.2.1), (A 16, aI g 9 z.2.2.1), (A 19, aI g 30976 z.2.2.2.1), (A 20, aI g 15488 z.2.2.2.2.1), (A 21, aI g 15488 z.2.2.2.2.2.1), (A 24, aJ g 8 z.2.2.2.2.2.2.1), (A 25, aJ g 4 z.2.2.2.2.2.2.2)]) (fun z : Sc × Sc × Sc × Sc × Sc × Sc × (Nat → Int64) × (Nat → Int64) => smK (upd i9 0 0) z.1)) noX a 119 [some (.ref q), some (.int p), some (.int (nI n)), some (.int w), some (.int e), z5, none, none, none] [] [(q, ob 12 i6 (rM A)), (A 1, aI g 2616 m), (A 5, aI g 400 tp), (A 12, aI g 5 fc), (A 16, aI g 9 x6), (A 19, aI g 30976 st), (A 20, aI g 15488 (plR m st w e n)), (A 21, aI g 15488 ls6), (A 24, aJ g 8 (vp_updL (vp_updL wy kw ((plR m st w e n) b0).toInt64) k4 ((plR m st w e n) b1).toInt64)), (A 25, aJ g 4 (vp_updL fs kw ((plR m st w e n) a0).toInt64))] 0 0) (z5 : Option Value) :
    WPs l g mtX12_set 34 0 0 (pE (fun z : Sc × Sc × Sc × Sc × Sc × Sc × (Nat → Int64) × (Nat → Int64) => some (.int v9)) (fun z : Sc × Sc × Sc × Sc × Sc × Sc × (Nat → Int64) × (Nat → Int64) => [(q, ob 12 z.1 (rM A)), (A 1, aI g 2616 m), (A 5, aI g 400 tp), (A 12, aI g 5 z.2.1), (A 16, aI g 9 z.2.2.1), (A 19, aI g 30976 z.2.2.2.1), (A 20, aI g 15488 z.2.2.2.2.1), (A 21, aI g 15488 z.2.2.2.2.2.1), (A 24, aJ g 8 z.2.2.2.2.2.2.1), (A 25, aJ g 4 z.2.2.2.2.2.2.2)]) (fun z : Sc × Sc × Sc × Sc × Sc × Sc × (Nat → Int64) × (Nat → Int64) => smK (upd i9 0 0) z.1)) noX a 39 [some (.ref q), some (.int p), some (.int (nI n)), some (.int w), some (.int e), z5, none, none, none] [] [(q, ob 12 i (rM A)), (A 1, aI g 2616 m), (A 5, aI g 400 tp), (A 12, aI g 5 fc), (A 16, aI g 9 x), (A 19, aI g 30976 st), (A 20, aI g 15488 nw), (A 21, aI g 15488 ls), (A 24, aJ g 8 wy), (A 25, aJ g 4 fs)] 0 0 := by
  have hP := p_plays0 (l := l) (g := g) (q := q) (A := A) (i := i) (x := x) (R := A 20) (B := A 21) (f := nw) (h := ls) (p := w) (th := e) hn hsv hH
  generalize plR m st w e n = R9 at *
  have K79_2 : ∀ (i6 x6 ls6 : Sc), sm2 i i6 → WPs l g mtX12_set 34 0 0 (pE (fun z : Sc × Sc × Sc × Sc × Sc × Sc × (Nat → Int64) × (Nat → Int64) => some (.int v9)) (fun z : Sc × Sc × Sc × Sc × Sc × Sc × (Nat → Int64) × (Nat → Int64) => [(q, ob 12 z.1 (rM A)), (A 1, aI g 2616 m), (A 5, aI g 400 tp), (A 12, aI g 5 z.2.1), (A 16, aI g 9 z.2.2.1), (A 19, aI g 30976 z.2.2.2.1), (A 20, aI g 15488 z.2.2.2.2.1), (A 21, aI g 15488 z.2.2.2.2.2.1), (A 24, aJ g 8 z.2.2.2.2.2.2.1), (A 25, aJ g 4 z.2.2.2.2.2.2.2)]) (fun z : Sc × Sc × Sc × Sc × Sc × Sc × (Nat → Int64) × (Nat → Int64) => smK (upd i9 0 0) z.1)) noX a 79 [some (.ref q), some (.int p), some (.int (nI n)), some (.int w), some (.int e), some (.int (0 + Int32.ofInt 1 + Int32.ofInt 1)), none, none, none] [] [(q, ob 12 i6 (rM A)), (A 1, aI g 2616 m), (A 5, aI g 400 tp), (A 12, aI g 5 fc), (A 16, aI g 9 x6), (A 19, aI g 30976 st), (A 20, aI g 15488 R9), (A 21, aI g 15488 ls6), (A 24, aJ g 8 (vp_updL (vp_updL wy kw (R9 b0).toInt64) k4 (R9 b1).toInt64)), (A 25, aJ g 4 (vp_updL fs kw (R9 a0).toInt64))] 0 0 := by
    intro i6 x6 ls6 hi6
    refine q_iload 5 81 dX12_set_79 rfl rfl ?_
    refine q_iconst 2 82 dX12_set_81 ic_2 rfl ?_
    refine q_icmp_ge 119 85 dX12_set_82 (by decide) rfl (fun h82 => ?_) (fun h82 => absurd (by decide) h82)
    exact cont _ _ _ _ hi6
  have K79_1 : ∀ (i6 x6 ls6 : Sc), sm2 i i6 → WPs l g mtX12_set 34 0 0 (pE (fun z : Sc × Sc × Sc × Sc × Sc × Sc × (Nat → Int64) × (Nat → Int64) => some (.int v9)) (fun z : Sc × Sc × Sc × Sc × Sc × Sc × (Nat → Int64) × (Nat → Int64) => [(q, ob 12 z.1 (rM A)), (A 1, aI g 2616 m), (A 5, aI g 400 tp), (A 12, aI g 5 z.2.1), (A 16, aI g 9 z.2.2.1), (A 19, aI g 30976 z.2.2.2.1), (A 20, aI g 15488 z.2.2.2.2.1), (A 21, aI g 15488 z.2.2.2.2.2.1), (A 24, aJ g 8 z.2.2.2.2.2.2.1), (A 25, aJ g 4 z.2.2.2.2.2.2.2)]) (fun z : Sc × Sc × Sc × Sc × Sc × Sc × (Nat → Int64) × (Nat → Int64) => smK (upd i9 0 0) z.1)) noX a 79 [some (.ref q), some (.int p), some (.int (nI n)), some (.int w), some (.int e), some (.int (0 + Int32.ofInt 1)), none, none, none] [] [(q, ob 12 i6 (rM A)), (A 1, aI g 2616 m), (A 5, aI g 400 tp), (A 12, aI g 5 fc), (A 16, aI g 9 x6), (A 19, aI g 30976 st), (A 20, aI g 15488 R9), (A 21, aI g 15488 ls6), (A 24, aJ g 8 (vp_updL wy kw (R9 b0).toInt64)), (A 25, aJ g 4 (vp_updL fs kw (R9 a0).toInt64))] 0 0 := by
    intro i6 x6 ls6 hi6
    refine q_iload 5 81 dX12_set_79 rfl rfl ?_
    refine q_iconst 2 82 dX12_set_81 ic_2 rfl ?_
    refine q_icmp_ge 119 85 dX12_set_82 (by decide) rfl (fun h82 => absurd h82 (by decide)) (fun h82 => ?_)
    refine q_aload_n 0 86 dX12_set_85 rfl rfl rfl ?_
    refine q_getR 0 89 f_X12_47 dX12_set_86 rfl rfl rfl rfl ?_
    refine q_iconst 4 90 dX12_set_89 ic_4 rfl ?_
    refine q_iload 5 92 dX12_set_90 rfl rfl ?_
    refine q_imul 93 dX12_set_92 rfl ?_
    refine q_iconst 2 94 dX12_set_93 ic_2 rfl ?_
    refine q_iload_n 3 95 dX12_set_94 rfl rfl rfl ?_
    refine q_imul 96 dX12_set_95 rfl ?_
    refine q_iadd 97 dX12_set_96 rfl ?_
    refine q_iload 4 99 dX12_set_97 rfl rfl ?_
    refine q_iadd 100 dX12_set_99 rfl ?_
    refine q_aload_n 0 101 dX12_set_100 rfl rfl rfl ?_
    refine q_getR 0 104 f_X12_35 dX12_set_101 rfl rfl rfl rfl ?_
    refine q_aload_n 0 105 dX12_set_104 rfl rfl rfl ?_
    refine q_iload 5 107 dX12_set_105 rfl rfl ?_
    refine q_cVi 0 [0, 1, 4] [2, 3, 5, 6, 7, 8, 9] [7, 8, 0, 1, 9, 2, 3, 4, 5, 6] 110 (wr := [_, _, _, _, _, _, _]) (w1 := _) (ws' := [_, _, _, _, _, _, _, _, _, _]) p_beginNumber m_X12_279 dX12_set_107 rfl rfl rfl rfl rfl rfl rfl rfl (by decide) (by decide) (by decide) (by decide) (Nat.le_of_ble_eq_true rfl) (by omega) (by omega) (by omega) rfl ?_
    rw [rNum_c (bnX_S m _ (0 + Int32.ofInt 1)), eB1]
    refine q_iald 6 b1 111 dX12_set_110 rfl ⟨rfl, by omega, by decide⟩ rfl ?_
    refine q_i2l 112 dX12_set_111 rfl ?_
    refine q_last 8 k4 113 (w' := [_, _, _, _, _, _, _, _, _, _]) dX12_set_112 rfl ⟨hw1, by omega, by decide⟩ rfl rfl ?_
    refine q_iinc 5 _ 116 (L' := [_, _, _, _, _, _, _, _, _]) dX12_set_113 rfl rfl (by decide) rfl rfl ?_
    refine q_goto 79 dX12_set_116 (by decide) ?_
    exact K79_2 _ _ _ hi6
  have K79_0 : ∀ (i6 x6 ls6 : Sc), sm2 i i6 → WPs l g mtX12_set 34 0 0 (pE (fun z : Sc × Sc × Sc × Sc × Sc × Sc × (Nat → Int64) × (Nat → Int64) => some (.int v9)) (fun z : Sc × Sc × Sc × Sc × Sc × Sc × (Nat → Int64) × (Nat → Int64) => [(q, ob 12 z.1 (rM A)), (A 1, aI g 2616 m), (A 5, aI g 400 tp), (A 12, aI g 5 z.2.1), (A 16, aI g 9 z.2.2.1), (A 19, aI g 30976 z.2.2.2.1), (A 20, aI g 15488 z.2.2.2.2.1), (A 21, aI g 15488 z.2.2.2.2.2.1), (A 24, aJ g 8 z.2.2.2.2.2.2.1), (A 25, aJ g 4 z.2.2.2.2.2.2.2)]) (fun z : Sc × Sc × Sc × Sc × Sc × Sc × (Nat → Int64) × (Nat → Int64) => smK (upd i9 0 0) z.1)) noX a 79 [some (.ref q), some (.int p), some (.int (nI n)), some (.int w), some (.int e), some (.int 0), none, none, none] [] [(q, ob 12 i6 (rM A)), (A 1, aI g 2616 m), (A 5, aI g 400 tp), (A 12, aI g 5 fc), (A 16, aI g 9 x6), (A 19, aI g 30976 st), (A 20, aI g 15488 R9), (A 21, aI g 15488 ls6), (A 24, aJ g 8 wy), (A 25, aJ g 4 (vp_updL fs kw (R9 a0).toInt64))] 0 0 := by
    intro i6 x6 ls6 hi6
    refine q_iload 5 81 dX12_set_79 rfl rfl ?_
    refine q_iconst 2 82 dX12_set_81 ic_2 rfl ?_
    refine q_icmp_ge 119 85 dX12_set_82 (by decide) rfl (fun h82 => absurd h82 (by decide)) (fun h82 => ?_)
    refine q_aload_n 0 86 dX12_set_85 rfl rfl rfl ?_
    refine q_getR 0 89 f_X12_47 dX12_set_86 rfl rfl rfl rfl ?_
    refine q_iconst 4 90 dX12_set_89 ic_4 rfl ?_
    refine q_iload 5 92 dX12_set_90 rfl rfl ?_
    refine q_imul 93 dX12_set_92 rfl ?_
    refine q_iconst 2 94 dX12_set_93 ic_2 rfl ?_
    refine q_iload_n 3 95 dX12_set_94 rfl rfl rfl ?_
    refine q_imul 96 dX12_set_95 rfl ?_
    refine q_iadd 97 dX12_set_96 rfl ?_
    refine q_iload 4 99 dX12_set_97 rfl rfl ?_
    refine q_iadd 100 dX12_set_99 rfl ?_
    refine q_aload_n 0 101 dX12_set_100 rfl rfl rfl ?_
    refine q_getR 0 104 f_X12_35 dX12_set_101 rfl rfl rfl rfl ?_
    refine q_aload_n 0 105 dX12_set_104 rfl rfl rfl ?_
    refine q_iload 5 107 dX12_set_105 rfl rfl ?_
    refine q_cVi 0 [0, 1, 4] [2, 3, 5, 6, 7, 8, 9] [7, 8, 0, 1, 9, 2, 3, 4, 5, 6] 110 (wr := [_, _, _, _, _, _, _]) (w1 := _) (ws' := [_, _, _, _, _, _, _, _, _, _]) p_beginNumber m_X12_279 dX12_set_107 rfl rfl rfl rfl rfl rfl rfl rfl (by decide) (by decide) (by decide) (by decide) (Nat.le_of_ble_eq_true rfl) (by omega) (by omega) (by omega) rfl ?_
    rw [rNum_c (bnX_S m _ 0), eB0]
    refine q_iald 6 b0 111 dX12_set_110 rfl ⟨rfl, by omega, by decide⟩ rfl ?_
    refine q_i2l 112 dX12_set_111 rfl ?_
    refine q_last 8 kw 113 (w' := [_, _, _, _, _, _, _, _, _, _]) dX12_set_112 rfl ⟨hw0, by omega, by decide⟩ rfl rfl ?_
    refine q_iinc 5 _ 116 (L' := [_, _, _, _, _, _, _, _, _]) dX12_set_113 rfl rfl (by decide) rfl rfl ?_
    refine q_goto 79 dX12_set_116 (by decide) ?_
    exact K79_1 _ _ _ hi6
  refine q_aload_n 0 40 dX12_set_39 rfl rfl rfl ?_
  refine q_iload_n 3 41 dX12_set_40 rfl rfl rfl ?_
  refine q_iload 4 43 dX12_set_41 rfl rfl ?_
  refine q_iload_n 2 44 dX12_set_43 rfl rfl rfl ?_
  refine q_aload_n 0 45 dX12_set_44 rfl rfl rfl ?_
  refine q_getR 0 48 f_X12_35 dX12_set_45 rfl rfl rfl rfl ?_
  refine q_aload_n 0 49 dX12_set_48 rfl rfl rfl ?_
  refine q_getR 0 52 f_X12_38 dX12_set_49 rfl rfl rfl rfl ?_
  refine q_xVv 0 [0, 1, 4, 5, 6, 7] [2, 3, 8, 9] [4, 5, 0, 1, 6, 7, 8, 9, 2, 3] 55 (wr := [_, _, _, _]) (w1 := _) (ws' := fun _ => [_, _, _, _, _, _, _, _, _, _]) hP m_X12_266 dX12_set_52 rfl rfl rfl rfl rfl rfl rfl (fun _ => rfl) (by decide) (by decide) (by decide) (by decide) (Nat.le_of_ble_eq_true rfl) (by omega) (by omega) (by omega) rfl (fun z9 hx9 => ?_)
  obtain ⟨i6, x6, b6⟩ := z9
  dsimp only at hx9 ⊢
  refine q_aload_n 0 56 dX12_set_55 rfl rfl rfl ?_
  refine q_getR 0 59 f_X12_51 dX12_set_56 rfl rfl rfl rfl ?_
  refine q_iconst 2 60 dX12_set_59 ic_2 rfl ?_
  refine q_iload_n 3 61 dX12_set_60 rfl rfl rfl ?_
  refine q_imul 62 dX12_set_61 rfl ?_
  refine q_iload 4 64 dX12_set_62 rfl rfl ?_
  refine q_iadd 65 dX12_set_64 rfl ?_
  refine q_aload_n 0 66 dX12_set_65 rfl rfl rfl ?_
  refine q_getR 0 69 f_X12_35 dX12_set_66 rfl rfl rfl rfl ?_
  refine q_aload_n 0 70 dX12_set_69 rfl rfl rfl ?_
  refine q_cVi 0 [0, 1, 4] [2, 3, 5, 6, 7, 8, 9] [7, 8, 0, 1, 9, 2, 3, 4, 5, 6] 73 (wr := [_, _, _, _, _, _, _]) (w1 := _) (ws' := [_, _, _, _, _, _, _, _, _, _]) p_atNow m_X12_270 dX12_set_70 rfl rfl rfl rfl rfl rfl rfl rfl (by decide) (by decide) (by decide) (by decide) (Nat.le_of_ble_eq_true rfl) (by omega) (by omega) (by omega) rfl ?_
  rw [rNum_c (take_S m _), eA]
  refine q_iald 6 a0 74 dX12_set_73 rfl ⟨rfl, by omega, by decide⟩ rfl ?_
  refine q_i2l 75 dX12_set_74 rfl ?_
  refine q_last 9 kw 76 (w' := [_, _, _, _, _, _, _, _, _, _]) dX12_set_75 rfl ⟨hwf, by omega, by decide⟩ rfl rfl ?_
  refine q_iconst 0 77 dX12_set_76 ic_0 rfl ?_
  refine q_istore 5 79 (L' := [_, _, _, _, _, _, _, _, _]) dX12_set_77 (by decide) rfl rfl ?_
  exact K79_0 _ _ _ hx9
theorem p_set1 {l : Launch} {g : Gh} {q : Nat} {A : Nat → Nat} {i m tp fc x st nw ls : Sc} {wy fs : Nat → Int64} {p : Int32} {n : Nat} (hM : MOK m) (hGm : GOK m) (hn : n ≤ 30) (h0 : reT m (S m) p (nI n) = 0) :
    Ce l g yX12_set (Cond.code yX12_set cX12_set 9 (some .int)) 34 [.ref q, .int p, .int (nI n)] [(q, ob 12 i (rM A)), (A 1, aI g 2616 m), (A 5, aI g 400 tp), (A 12, aI g 5 fc), (A 16, aI g 9 x), (A 19, aI g 30976 st), (A 20, aI g 15488 nw), (A 21, aI g 15488 ls), (A 24, aJ g 8 wy), (A 25, aJ g 4 fs)]
      (fun z : Sc × Sc × Sc × Sc × Sc × Sc × (Nat → Int64) × (Nat → Int64) => some (.int (seV m (svA m) p n (at0 m)))) (fun z : Sc × Sc × Sc × Sc × Sc × Sc × (Nat → Int64) × (Nat → Int64) => [(q, ob 12 z.1 (rM A)), (A 1, aI g 2616 m), (A 5, aI g 400 tp), (A 12, aI g 5 z.2.1), (A 16, aI g 9 z.2.2.1), (A 19, aI g 30976 z.2.2.2.1), (A 20, aI g 15488 z.2.2.2.2.1), (A 21, aI g 15488 z.2.2.2.2.2.1), (A 24, aJ g 8 z.2.2.2.2.2.2.1), (A 25, aJ g 4 z.2.2.2.2.2.2.2)]) (fun z : Sc × Sc × Sc × Sc × Sc × Sc × (Nat → Int64) × (Nat → Int64) => smK (upd i 0 0) z.1) := by
  refine ct_of (M := mtX12_set) [some (.ref q), some (.int p), some (.int (nI n)), none, none, none, none, none, none] rfl (by decide) (Nat.le_of_ble_eq_true rfl) (fun _ h => h) (fun a => ?_)
  obtain ⟨ha, eA, hcA, -⟩ := at0_of hM.1
  obtain ⟨hb0, eB0, -, -⟩ := bg0_of (s := 0) hM.2.1 (Or.inl rfl)
  obtain ⟨hb1, eB1, -, -⟩ := bg0_of (s := 0 + Int32.ofInt 1) hM.2.1 (Or.inr (by decide))
  have hsv := svA_ok hM.2.2.1 hM.2.2.2
  have hH := hM.2.1
  generalize at0 m = a0 at *
  have K131 := fun i5 fc5 x5 nw5 ls5 z3 z4 z5 z6 z7 z8 hi5 => set_sum (l := l) (g := g) (q := q) (A := A) (i := i) (m := m) (tp := tp) (fc := fc) (x := x) (st := st) (nw := nw) (ls := ls) (wy := wy) (fs := fs) (p := p) (n := n) (a0 := a0) (a := a) hGm i5 fc5 x5 nw5 ls5 z3 z4 z5 z6 z7 z8 hi5
  generalize seV m (svA m) p n a0 = V9 at *
  have hwy := wyF_8 m (svA m) n
  have hfs := fsF_4 m (svA m) n a0
  generalize wyF m (svA m) n = wy9 at *
  generalize fsF m (svA m) n a0 = fs9 at *
  have e01 : (0 : Int32) + Int32.ofInt 1 = 1 := by decide
  rw [e01] at hb1 eB1
  have eB1' : rNum (bnS m (0 + Int32.ofInt 1)) = nI (bg0 m 1) := by rw [e01]; exact eB1
  refine q_aload_n 0 1 dX12_set_0 rfl rfl rfl ?_
  refine q_aload_n 0 2 dX12_set_1 rfl rfl rfl ?_
  refine q_iload_n 1 3 dX12_set_2 rfl rfl rfl ?_
  refine q_iload_n 2 4 dX12_set_3 rfl rfl rfl ?_
  refine q_cVi 0 [0, 1, 4] [2, 3, 5, 6, 7, 8, 9] [7, 8, 0, 1, 9, 2, 3, 4, 5, 6] 7 (wr := [_, _, _, _, _, _, _]) (w1 := _) (ws' := [_, _, _, _, _, _, _, _, _, _]) p_refuses m_X12_260 dX12_set_4 rfl rfl rfl rfl rfl rfl rfl rfl (by decide) (by decide) (by decide) (by decide) (Nat.le_of_ble_eq_true rfl) (by omega) (by omega) (by omega) rfl ?_
  rw [reT_S, h0]
  refine q_putI 0 10 (w' := [_, _, _, _, _, _, _, _, _, _]) f_X12_67 ft_X12_0 dX12_set_7 rfl rfl rfl rfl ?_
  refine q_aload_n 0 11 dX12_set_10 rfl rfl rfl ?_
  refine q_getI 0 14 f_X12_67 dX12_set_11 rfl rfl rfl ?_
  refine q_if_le 19 17 dX12_set_14 (by decide) rfl (fun h14 => ?_) (fun h14 => absurd z_le h14)
  refine q_aload_n 0 20 dX12_set_19 rfl rfl rfl ?_
  refine q_ax 3 (fz fc) rfl (fz_eq fc) rfl ?_
  refine q_cVv 0 [0, 1, 2, 3, 4, 5] [6, 7, 8, 9] [4, 5, 6, 7, 8, 9, 0, 1, 2, 3] 23 (wr := [_, _, _, _]) (w1 := _) (ws' := [_, _, _, _, _, _, _, _, _, _]) (p_allStyles hM.2.2.1 hM.2.2.2) m_X12_263 dX12_set_20 rfl rfl rfl rfl rfl rfl rfl rfl (by decide) (by decide) (by decide) (by decide) (Nat.le_of_ble_eq_true rfl) (by omega) (by omega) (by omega) rfl ?_
  have hi5 := alI_K (upd i 0 0) m (fz fc) (rTake m x) 15488
  refine q_ax 5 (svA m) rfl (fun k hk => alS_sv (fz_O fc) 15488 k (by omega)) rfl ?_
  generalize alI (upd i 0 0) m (fz fc) (rTake m x) 15488 = i5 at *
  generalize alF m (fz fc) (rTake m x) 15488 = fc5 at *
  generalize alX m (rTake m x) 15488 = x5 at *
  generalize svA m = st5 at *
  refine q_iconst 0 24 dX12_set_23 ic_0 rfl ?_
  refine q_istore_n 3 25 (L' := [_, _, _, _, _, _, _, _, _]) dX12_set_24 rfl (by decide) rfl rfl ?_
  refine q_iload_n 3 26 dX12_set_25 rfl rfl rfl ?_
  refine q_iconst 2 27 dX12_set_26 ic_2 rfl ?_
  refine q_icmp_ge 131 30 dX12_set_27 (by decide) rfl (fun h27 => absurd h27 (by decide)) (fun h27 => ?_)
  refine q_iconst 0 31 dX12_set_30 ic_0 rfl ?_
  refine q_istore 4 33 (L' := [_, _, _, _, _, _, _, _, _]) dX12_set_31 (by decide) rfl rfl ?_
  refine q_iload 4 35 dX12_set_33 rfl rfl ?_
  refine q_iconst 2 36 dX12_set_35 ic_2 rfl ?_
  refine q_icmp_ge 125 39 dX12_set_36 (by decide) rfl (fun h36 => absurd h36 (by decide)) (fun h36 => ?_)
  refine set_pair (i9 := i) (w := 0) (e := 0) (kw := 0) (k4 := 4) hn hsv hH ha eA hb0 eB0 hb1 eB1' (by decide) (by decide) (by decide) (by decide) (by decide) (fun i6 x6 ls6 z5 hx6 => ?_) none
  replace hi5 := hi5.tr hx6.K
  clear hx6
  refine q_iinc 4 _ 122 (L' := [_, _, _, _, _, _, _, _, _]) dX12_set_119 rfl rfl (by decide) rfl rfl ?_
  refine q_goto 33 dX12_set_122 (by decide) ?_
  refine q_iload 4 35 dX12_set_33 rfl rfl ?_
  refine q_iconst 2 36 dX12_set_35 ic_2 rfl ?_
  refine q_icmp_ge 125 39 dX12_set_36 (by decide) rfl (fun h36 => absurd h36 (by decide)) (fun h36 => ?_)
  refine set_pair (i9 := i) (w := 0) (e := (0 + Int32.ofInt 1)) (kw := 1) (k4 := 5) hn hsv hH ha eA hb0 eB0 hb1 eB1' (by decide) (by decide) (by decide) (by decide) (by decide) (fun i6 x6 ls6 z5 hx6 => ?_) _
  replace hi5 := hi5.tr hx6.K
  clear hx6
  refine q_iinc 4 _ 122 (L' := [_, _, _, _, _, _, _, _, _]) dX12_set_119 rfl rfl (by decide) rfl rfl ?_
  refine q_goto 33 dX12_set_122 (by decide) ?_
  refine q_iload 4 35 dX12_set_33 rfl rfl ?_
  refine q_iconst 2 36 dX12_set_35 ic_2 rfl ?_
  refine q_icmp_ge 125 39 dX12_set_36 (by decide) rfl (fun h36 => ?_) (fun h36 => absurd (by decide) h36)
  refine q_iinc 3 _ 128 (L' := [_, _, _, _, _, _, _, _, _]) dX12_set_125 rfl rfl (by decide) rfl rfl ?_
  refine q_goto 25 dX12_set_128 (by decide) ?_
  refine q_iload_n 3 26 dX12_set_25 rfl rfl rfl ?_
  refine q_iconst 2 27 dX12_set_26 ic_2 rfl ?_
  refine q_icmp_ge 131 30 dX12_set_27 (by decide) rfl (fun h27 => absurd h27 (by decide)) (fun h27 => ?_)
  refine q_iconst 0 31 dX12_set_30 ic_0 rfl ?_
  refine q_istore 4 33 (L' := [_, _, _, _, _, _, _, _, _]) dX12_set_31 (by decide) rfl rfl ?_
  refine q_iload 4 35 dX12_set_33 rfl rfl ?_
  refine q_iconst 2 36 dX12_set_35 ic_2 rfl ?_
  refine q_icmp_ge 125 39 dX12_set_36 (by decide) rfl (fun h36 => absurd h36 (by decide)) (fun h36 => ?_)
  refine set_pair (i9 := i) (w := (0 + Int32.ofInt 1)) (e := 0) (kw := 2) (k4 := 6) hn hsv hH ha eA hb0 eB0 hb1 eB1' (by decide) (by decide) (by decide) (by decide) (by decide) (fun i6 x6 ls6 z5 hx6 => ?_) _
  replace hi5 := hi5.tr hx6.K
  clear hx6
  refine q_iinc 4 _ 122 (L' := [_, _, _, _, _, _, _, _, _]) dX12_set_119 rfl rfl (by decide) rfl rfl ?_
  refine q_goto 33 dX12_set_122 (by decide) ?_
  refine q_iload 4 35 dX12_set_33 rfl rfl ?_
  refine q_iconst 2 36 dX12_set_35 ic_2 rfl ?_
  refine q_icmp_ge 125 39 dX12_set_36 (by decide) rfl (fun h36 => absurd h36 (by decide)) (fun h36 => ?_)
  refine set_pair (i9 := i) (w := (0 + Int32.ofInt 1)) (e := (0 + Int32.ofInt 1)) (kw := 3) (k4 := 7) hn hsv hH ha eA hb0 eB0 hb1 eB1' (by decide) (by decide) (by decide) (by decide) (by decide) (fun i6 x6 ls6 z5 hx6 => ?_) _
  replace hi5 := hi5.tr hx6.K
  clear hx6
  refine q_iinc 4 _ 122 (L' := [_, _, _, _, _, _, _, _, _]) dX12_set_119 rfl rfl (by decide) rfl rfl ?_
  refine q_goto 33 dX12_set_122 (by decide) ?_
  refine q_iload 4 35 dX12_set_33 rfl rfl ?_
  refine q_iconst 2 36 dX12_set_35 ic_2 rfl ?_
  refine q_icmp_ge 125 39 dX12_set_36 (by decide) rfl (fun h36 => ?_) (fun h36 => absurd (by decide) h36)
  refine q_iinc 3 _ 128 (L' := [_, _, _, _, _, _, _, _, _]) dX12_set_125 rfl rfl (by decide) rfl rfl ?_
  refine q_goto 25 dX12_set_128 (by decide) ?_
  refine q_iload_n 3 26 dX12_set_25 rfl rfl rfl ?_
  refine q_iconst 2 27 dX12_set_26 ic_2 rfl ?_
  refine q_icmp_ge 131 30 dX12_set_27 (by decide) rfl (fun h27 => ?_) (fun h27 => absurd (by decide) h27)
  rw [e01]
  generalize plR m st5 0 0 n = r00 at *
  generalize plR m st5 0 1 n = r01 at *
  generalize plR m st5 1 0 n = r10 at *
  generalize plR m st5 1 1 n = r11 at *
  generalize bg0 m 0 = b0 at *
  generalize bg0 m 1 = b1 at *
  refine q_axJ 8 wy9 rfl (fun k hk => ?_) rfl ?_
  · rw [hwy k hk]
    match k, hk with
    | 0, _ => simp [vp_updL]
    | 1, _ => simp [vp_updL]
    | 2, _ => simp [vp_updL]
    | 3, _ => simp [vp_updL]
    | 4, _ => simp [vp_updL]
    | 5, _ => simp [vp_updL]
    | 6, _ => simp [vp_updL]
    | 7, _ => simp [vp_updL]
    | (k + 8), hk => omega
  · refine q_axJ 9 fs9 rfl (fun k hk => ?_) rfl ?_
    · rw [hfs k hk]
      match k, hk with
      | 0, _ => simp [vp_updL]
      | 1, _ => simp [vp_updL]
      | 2, _ => simp [vp_updL]
      | 3, _ => simp [vp_updL]
      | (k + 4), hk => omega
    · exact K131 _ _ _ _ _ _ _ _ _ _ _ hi5

