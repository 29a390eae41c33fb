/-! ===== Odds: weighing ===== -/
abbrev rO (r : Nat → Nat) : List (Option Nat) := [some (r 0), some (r 1), some (r 2), some (r 3), some (r 4), some (r 5), some (r 6), some (r 7), none, none, none, none, some (r 12), some (r 13), some (r 14), some (r 15), some (r 16)]
/-- the entries of one score, from j on: where it leads, and its weights -/
def EnR (ch Nr : Nat) (pf : Sc) : List (Nat × Sc) → Nat → Prop
  | [], _ => True
  | e :: E, j => pf j = nI e.1 ∧ e.1 < Nr ∧ (∀ c, c < ch → pf (j + 1 + c) = e.2 c) ∧ EnR ch Nr pf E (j + (1 + ch))
def wSm (c : Nat) (vf : Sc) : List (Nat × Sc) → Int64 → Int64
  | [], s => s
  | e :: E, s => wSm c vf E (s + (e.2 c).toInt64 * (vf e.1).toInt64)
def wgV (c : Nat) (vf : Sc) (E : List (Nat × Sc)) : Int32 := (wSm c vf E 0 / 100).toInt32
/-- score z's entries are E -/
def EnO (ch Nb Np Nr : Nat) (bf pf : Sc) (E : List (Nat × Sc)) (z : Nat) : Prop := ∃ j, bf z = nI j ∧ bf (z + 1) = nI (j + E.length * (1 + ch)) ∧ EnR ch Nr pf E j ∧ j + E.length * (1 + ch) ≤ Np ∧ z + 1 < Nb
theorem c_X2_weigh {l : Launch} {g : Gh} {q rw Nb Np Nr ch z c : Nat} {r : Nat → Nat} {i bf pf vf : Sc} {E : List (Nat × Sc)} (hi : i 9 = nI ch) (hc : c < ch) (hch : ch ≤ 4) (hb : Nb < 2 ^ 30) (hp : Np < 2 ^ 30) (hr : Nr < 2 ^ 30) (hE : EnO ch Nb Np Nr bf pf E z) : Cp l g yX2_weigh (Cond.code yX2_weigh cX2_weigh 8 (some .int)) 1 [.ref q, .int (nI z), .int (nI c), .ref rw] [(q, ob 2 i (rO r)), (r 5, aI g Nb bf), (r 7, aI g Np pf), (rw, aI g Nr vf)] (some (.int (wgV c vf E))) [(q, ob 2 i (rO r)), (r 5, aI g Nb bf), (r 7, aI g Np pf), (rw, aI g Nr vf)] := by
  refine ct_of (M := mtX2_weigh) [some (.ref q), some (.int (nI z)), some (.int (nI c)), some (.ref rw), none, none, none, none] rfl (by decide) (Nat.le_of_ble_eq_true rfl) (fun _ h => h) (fun a => ?_)
  obtain ⟨j0, e1, e2, e3, e4, e5⟩ := hE
  have K21 : ∀ (F : List (Nat × Sc)) (j : Nat) (s : Int64), EnR ch Nr pf F j → j + F.length * (1 + ch) = j0 + E.length * (1 + ch) → wSm c vf F s = wSm c vf E 0 → WPs l g mtX2_weigh 1 0 0 (pR (some (.int (wgV c vf E))) [(q, ob 2 i (rO r)), (r 5, aI g Nb bf), (r 7, aI g Np pf), (rw, aI g Nr vf)]) noX a 21 [some (.ref q), some (.int (nI z)), some (.int (nI c)), some (.ref rw), some (.long s), none, some (.int (nI (j0 + E.length * (1 + ch)))), some (.int (nI j))] [] [(q, ob 2 i (rO r)), (r 5, aI g Nb bf), (r 7, aI g Np pf), (rw, aI g Nr vf)] 0 0 := by
    intro F
    induction F with
    | nil =>
      intro j s _ hj hs
      have hj2 : j = j0 + E.length * (1 + ch) := by simpa using hj
      have hs2 : s = wSm c vf E 0 := hs
      rw [hj2]
      unfold wgV
      rw [← hs2]
      generalize j0 + E.length * (1 + ch) = u at *
      refine q_iload 7 23 dX2_weigh_21 rfl rfl ?_
      refine q_iload 6 25 dX2_weigh_23 rfl rfl ?_
      refine q_icmp_ge 70 28 dX2_weigh_25 (by decide) rfl (fun h25 => ?_) (fun h25 => absurd (Int32.le_refl _) h25)
      refine q_lload 4 72 dX2_weigh_70 rfl rfl ?_
      refine q_ldc2 100 75 k_X2_216 dX2_weigh_72 rfl ?_
      refine q_ldiv 76 dX2_weigh_75 (by decide) rfl ?_
      refine q_l2i 77 dX2_weigh_76 rfl ?_
      refine q_ireturn dX2_weigh_77 rfl ?_
      exact pR.rf
    | cons e F ih =>
      intro j s hR hj hs
      obtain ⟨h1, h2, h3, h4⟩ := hR
      have hle : j + (1 + ch) ≤ j0 + E.length * (1 + ch) := by rw [← hj, List.length_cons, Nat.add_mul, Nat.one_mul]; omega
      have hj3 : j + (1 + ch) + F.length * (1 + ch) = j0 + E.length * (1 + ch) := by rw [← hj, List.length_cons, Nat.add_mul, Nat.one_mul]; omega
      have K1 := ih (j + (1 + ch)) _ h4 hj3 hs
      clear ih hj hj3
      generalize j0 + E.length * (1 + ch) = u at *
      have hlt : ¬ nI u ≤ nI j := nI_ge (by omega) (by omega)
      have h5 := h3 c hc
      have ea : nI j + 1 + nI c = nI (j + 1 + c) := by rw [nI_1, nI_add]
      have eb : nI j + (1 + i 9) = nI (j + (1 + ch)) := by rw [hi, show (1 : Int32) = nI 1 by decide, nI_add, nI_add]
      generalize hjc : j + 1 + c = jc at *
      obtain ⟨t, w⟩ := e
      refine q_iload 7 23 dX2_weigh_21 rfl rfl ?_
      refine q_iload 6 25 dX2_weigh_23 rfl rfl ?_
      refine q_icmp_ge 70 28 dX2_weigh_25 (by decide) rfl (fun h25 => absurd h25 hlt) (fun h25 => ?_)
      refine q_lload 4 30 dX2_weigh_28 rfl rfl ?_
      refine q_aload_n 0 31 dX2_weigh_30 rfl rfl rfl ?_
      refine q_getR 0 34 f_X2_41 dX2_weigh_31 rfl rfl rfl rfl ?_
      refine q_iload 7 36 dX2_weigh_34 rfl rfl ?_
      refine q_iconst 1 37 dX2_weigh_36 ic_1 rfl ?_
      refine q_iadd 38 dX2_weigh_37 rfl ?_
      refine q_iload_n 2 39 dX2_weigh_38 rfl rfl rfl ?_
      refine q_iadd 40 dX2_weigh_39 rfl ?_
      refine q_iald 2 jc 41 dX2_weigh_40 rfl ⟨ea, by omega, by omega⟩ rfl ?_
      rw [h5]
      refine q_i2l 42 dX2_weigh_41 rfl ?_
      refine q_aload_n 3 43 dX2_weigh_42 rfl rfl rfl ?_
      refine q_aload_n 0 44 dX2_weigh_43 rfl rfl rfl ?_
      refine q_getR 0 47 f_X2_41 dX2_weigh_44 rfl rfl rfl rfl ?_
      refine q_iload 7 49 dX2_weigh_47 rfl rfl ?_
      refine q_iald 2 j 50 dX2_weigh_49 rfl ⟨rfl, by omega, by omega⟩ rfl ?_
      rw [h1]
      refine q_iald 3 t 51 dX2_weigh_50 rfl ⟨rfl, h2, by omega⟩ rfl ?_
      refine q_i2l 52 dX2_weigh_51 rfl ?_
      refine q_lmul 53 dX2_weigh_52 rfl ?_
      refine q_ladd 54 dX2_weigh_53 rfl ?_
      refine q_lstore 4 56 (L' := [_, _, _, _, _, _, _, _]) dX2_weigh_54 (by decide) rfl rfl ?_
      refine q_iload 7 58 dX2_weigh_56 rfl rfl ?_
      refine q_iconst 1 59 dX2_weigh_58 ic_1 rfl ?_
      refine q_aload_n 0 60 dX2_weigh_59 rfl rfl rfl ?_
      refine q_getI 0 63 f_X2_67 dX2_weigh_60 rfl rfl rfl ?_
      refine q_iadd 64 dX2_weigh_63 rfl ?_
      refine q_iadd 65 dX2_weigh_64 rfl ?_
      rw [eb]
      refine q_istore 7 67 (L' := [_, _, _, _, _, _, _, _]) dX2_weigh_65 (by decide) rfl rfl ?_
      refine q_goto 21 dX2_weigh_67 (by decide) ?_
      exact K1
  have ez : nI z + 1 = nI (z + 1) := nI_1 z
  generalize hz1 : z + 1 = z1 at *
  have K1 := K21 E j0 0 e3 rfl rfl
  clear K21
  refine q_lconst 0 1 dX2_weigh_0 (by decide) rfl ?_
  refine q_lstore 4 3 (L' := [_, _, _, _, _, _, _, _]) dX2_weigh_1 (by decide) rfl rfl ?_
  refine q_aload_n 0 4 dX2_weigh_3 rfl rfl rfl ?_
  refine q_getR 0 7 f_X2_35 dX2_weigh_4 rfl rfl rfl rfl ?_
  refine q_iload_n 1 8 dX2_weigh_7 rfl rfl rfl ?_
  refine q_iconst 1 9 dX2_weigh_8 ic_1 rfl ?_
  refine q_iadd 10 dX2_weigh_9 rfl ?_
  refine q_iald 1 z1 11 dX2_weigh_10 rfl ⟨ez, by omega, by omega⟩ rfl ?_
  rw [e2]
  refine q_istore 6 13 (L' := [_, _, _, _, _, _, _, _]) dX2_weigh_11 (by decide) rfl rfl ?_
  refine q_aload_n 0 14 dX2_weigh_13 rfl rfl rfl ?_
  refine q_getR 0 17 f_X2_35 dX2_weigh_14 rfl rfl rfl rfl ?_
  refine q_iload_n 1 18 dX2_weigh_17 rfl rfl rfl ?_
  refine q_iald 1 z 19 dX2_weigh_18 rfl ⟨rfl, by omega, by omega⟩ rfl ?_
  rw [e1]
  refine q_istore 7 21 (L' := [_, _, _, _, _, _, _, _]) dX2_weigh_19 (by decide) rfl rfl ?_
  exact K1
def moV (vf : Sc) (E : List (Nat × Sc)) : Nat → Int32
  | 0 => 0
  | c + 1 => iMax (moV vf E c) (wgV c vf E)
theorem c_X2_most {l : Launch} {g : Gh} {q rw Nb Np Nr ch z : Nat} {r : Nat → Nat} {i bf pf vf : Sc} {E : List (Nat × Sc)} (hi : i 9 = nI ch) (hch : ch ≤ 4) (hb : Nb < 2 ^ 30) (hp : Np < 2 ^ 30) (hr : Nr < 2 ^ 30) (hE : EnO ch Nb Np Nr bf pf E z) : Cp l g yX2_most (Cond.code yX2_most cX2_most 5 (some .int)) 2 [.ref q, .int (nI z), .ref rw] [(q, ob 2 i (rO r)), (r 5, aI g Nb bf), (r 7, aI g Np pf), (rw, aI g Nr vf)] (some (.int (moV vf E ch))) [(q, ob 2 i (rO r)), (r 5, aI g Nb bf), (r 7, aI g Np pf), (rw, aI g Nr vf)] := by
  refine ct_of (M := mtX2_most) [some (.ref q), some (.int (nI z)), some (.ref rw), none, none] rfl (by decide) (Nat.le_of_ble_eq_true rfl) (fun _ h => h) (fun a => ?_)
  have K5 : ∀ (f c : Nat), f + c = ch → WPs l g mtX2_most 2 0 0 (pR (some (.int (moV vf E ch))) [(q, ob 2 i (rO r)), (r 5, aI g Nb bf), (r 7, aI g Np pf), (rw, aI g Nr vf)]) noX a 5 [some (.ref q), some (.int (nI z)), some (.ref rw), some (.int (moV vf E c)), some (.int (nI c))] [] [(q, ob 2 i (rO r)), (r 5, aI g Nb bf), (r 7, aI g Np pf), (rw, aI g Nr vf)] 0 0 := by
    intro f
    induction f with
    | zero =>
      intro c hc
      obtain rfl : c = ch := by omega
      have hge : i 9 ≤ nI c := by rw [hi]; exact Int32.le_refl _
      refine q_iload 4 7 dX2_most_5 rfl rfl ?_
      refine q_aload_n 0 8 dX2_most_7 rfl rfl rfl ?_
      refine q_getI 0 11 f_X2_67 dX2_most_8 rfl rfl rfl ?_
      refine q_icmp_ge 33 14 dX2_most_11 (by decide) rfl (fun h11 => ?_) (fun h11 => absurd hge h11)
      refine q_iload_n 3 34 dX2_most_33 rfl rfl rfl ?_
      refine q_ireturn dX2_most_34 rfl ?_
      exact pR.rf
    | succ f ih =>
      intro c hc
      have hlt : ¬ i 9 ≤ nI c := by rw [hi]; exact nI_ge (by omega) (by omega)
      have K1 := ih (c + 1) (by omega)
      clear ih
      refine q_iload 4 7 dX2_most_5 rfl rfl ?_
      refine q_aload_n 0 8 dX2_most_7 rfl rfl rfl ?_
      refine q_getI 0 11 f_X2_67 dX2_most_8 rfl rfl rfl ?_
      refine q_icmp_ge 33 14 dX2_most_11 (by decide) rfl (fun h11 => absurd h11 hlt) (fun h11 => ?_)
      refine q_iload_n 3 15 dX2_most_14 rfl rfl rfl ?_
      refine q_aload_n 0 16 dX2_most_15 rfl rfl rfl ?_
      refine q_iload_n 1 17 dX2_most_16 rfl rfl rfl ?_
      refine q_iload 4 19 dX2_most_17 rfl rfl ?_
      refine q_aload_n 2 20 dX2_most_19 rfl rfl rfl ?_
      refine q_cVi 0 [0, 1, 2, 3] [] [0, 1, 2, 3] 23 (wr := []) (w1 := _) (ws' := [_, _, _, _]) (c_X2_weigh hi (by omega) hch hb hp hr hE) m_X2_212 dX2_most_20 rfl rfl rfl rfl rfl rfl rfl rfl (by decide) (by decide) (by decide) (by decide) (Nat.le_of_ble_eq_true rfl) (by omega) (by omega) (by omega) rfl ?_
      refine q_mmax 26 mm_X2_209 dX2_most_23 (Nat.le_of_ble_eq_true rfl) (by omega) (by omega) (by omega) rfl ?_
      refine q_istore_n 3 27 (L' := [_, _, _, _, _]) dX2_most_26 rfl (by decide) rfl rfl ?_
      refine q_iinc 4 (nI (c + 1)) 30 (L' := [_, _, _, _, _]) dX2_most_27 rfl (inc1 (c)) (by decide) rfl rfl ?_
      refine q_goto 5 dX2_most_30 (by decide) ?_
      exact K1
  have K1 := K5 ch 0 rfl
  clear K5
  refine q_iconst 0 1 dX2_most_0 ic_0 rfl ?_
  refine q_istore_n 3 2 (L' := [_, _, _, _, _]) dX2_most_1 rfl (by decide) rfl rfl ?_
  refine q_iconst 0 3 dX2_most_2 ic_0 rfl ?_
  refine q_istore 4 5 (L' := [_, _, _, _, _]) dX2_most_3 (by decide) rfl rfl ?_
  exact K1
theorem c_X2_valueAt {l : Launch} {g : Gh} {q Nv z : Nat} {r : Nat → Nat} {i vf : Sc} (hz : z < Nv) (hv : Nv < 2 ^ 30) : Cp l g yX2_valueAt (Cond.code yX2_valueAt cX2_valueAt 2 (some .int)) 1 [.ref q, .int (nI z)] [(q, ob 2 i (rO r)), (r 14, aI g Nv vf)] (some (.int (vf z))) [(q, ob 2 i (rO r)), (r 14, aI g Nv vf)] := by
  refine ct_of (M := mtX2_valueAt) [some (.ref q), some (.int (nI z))] rfl (by decide) (Nat.le_of_ble_eq_true rfl) (fun _ h => h) (fun a => ?_)
  refine q_aload_n 0 1 dX2_valueAt_0 rfl rfl rfl ?_
  refine q_getR 0 4 f_X2_47 dX2_valueAt_1 rfl rfl rfl rfl ?_
  refine q_iload_n 1 5 dX2_valueAt_4 rfl rfl rfl ?_
  refine q_iald 1 z 6 dX2_valueAt_5 rfl ⟨rfl, hz, by omega⟩ rfl ?_
  refine q_ireturn dX2_valueAt_6 rfl ?_
  exact pR.rf
theorem c_X2_savedAt {l : Launch} {g : Gh} {q Nv z : Nat} {r : Nat → Nat} {i vf : Sc} (hz : z < Nv) (hv : Nv < 2 ^ 30) : Cp l g yX2_savedAt (Cond.code yX2_savedAt cX2_savedAt 2 (some .int)) 1 [.ref q, .int (nI z)] [(q, ob 2 i (rO r)), (r 16, aI g Nv vf)] (some (.int (vf z))) [(q, ob 2 i (rO r)), (r 16, aI g Nv vf)] := by
  refine ct_of (M := mtX2_savedAt) [some (.ref q), some (.int (nI z))] rfl (by decide) (Nat.le_of_ble_eq_true rfl) (fun _ h => h) (fun a => ?_)
  refine q_aload_n 0 1 dX2_savedAt_0 rfl rfl rfl ?_
  refine q_getR 0 4 f_X2_53 dX2_savedAt_1 rfl rfl rfl rfl ?_
  refine q_iload_n 1 5 dX2_savedAt_4 rfl rfl rfl ?_
  refine q_iald 1 z 6 dX2_savedAt_5 rfl ⟨rfl, hz, by omega⟩ rfl ?_
  refine q_ireturn dX2_savedAt_6 rfl ?_
  exact pR.rf
theorem c_X2_takesAt {l : Launch} {g : Gh} {q Nb Np Nr Nt Nv ch z t : Nat} {r : Nat → Nat} {i bf pf uf tf vf : Sc} {E : List (Nat × Sc)} (hi : i 9 = nI ch) (hch : ch ≤ 4) (hb : Nb < 2 ^ 30) (hp : Np < 2 ^ 30) (hr : Nr < 2 ^ 30) (hE : EnO ch Nb Np Nr bf pf E z) (ht : tf z = nI t) (htz : z < Nt) (hNt : Nt < 2 ^ 30) (htv : t < Nv) (hv : Nv < 2 ^ 30) : Cp l g yX2_takesAt (Cond.code yX2_takesAt cX2_takesAt 2 (some .boolean)) 3 [.ref q, .int (nI z)] [(q, ob 2 i (rO r)), (r 5, aI g Nb bf), (r 7, aI g Np pf), (r 15, aI g Nr uf), (r 6, aI g Nt tf), (r 14, aI g Nv vf)] (some (.int (if moV uf E ch < vf t then 1 else 0))) [(q, ob 2 i (rO r)), (r 5, aI g Nb bf), (r 7, aI g Np pf), (r 15, aI g Nr uf), (r 6, aI g Nt tf), (r 14, aI g Nv vf)] := by
  refine ct_of (M := mtX2_takesAt) [some (.ref q), some (.int (nI z))] rfl (by decide) (Nat.le_of_ble_eq_true rfl) (fun _ h => h) (fun a => ?_)
  by_cases hlt : moV uf E ch < vf t
  · rw [if_pos hlt]
    have hle : ¬ vf t ≤ moV uf E ch := Int32.not_le.mpr hlt
    refine q_aload_n 0 1 dX2_takesAt_0 rfl rfl rfl ?_
    refine q_getR 0 4 f_X2_47 dX2_takesAt_1 rfl rfl rfl rfl ?_
    refine q_aload_n 0 5 dX2_takesAt_4 rfl rfl rfl ?_
    refine q_getR 0 8 f_X2_38 dX2_takesAt_5 rfl rfl rfl rfl ?_
    refine q_iload_n 1 9 dX2_takesAt_8 rfl rfl rfl ?_
    refine q_iald 4 z 10 dX2_takesAt_9 rfl ⟨rfl, by omega, by omega⟩ rfl ?_
    rw [ht]
    refine q_iald 5 t 11 dX2_takesAt_10 rfl ⟨rfl, by omega, by omega⟩ rfl ?_
    refine q_aload_n 0 12 dX2_takesAt_11 rfl rfl rfl ?_
    refine q_iload_n 1 13 dX2_takesAt_12 rfl rfl rfl ?_
    refine q_aload_n 0 14 dX2_takesAt_13 rfl rfl rfl ?_
    refine q_getR 0 17 f_X2_50 dX2_takesAt_14 rfl rfl rfl rfl ?_
    refine q_cVi 0 [0, 1, 2, 3] [4, 5] [2, 3, 4, 5, 0, 1] 20 (wr := [_, _]) (w1 := _) (ws' := [_, _, _, _, _, _]) (c_X2_most hi hch hb hp hr hE) m_X2_205 dX2_takesAt_17 rfl rfl rfl rfl rfl rfl rfl rfl (by decide) (by decide) (by decide) (by decide) (Nat.le_of_ble_eq_true rfl) (by omega) (by omega) (by omega) rfl ?_
    refine q_icmp_le 27 23 dX2_takesAt_20 (by decide) rfl (fun h20 => absurd h20 hle) (fun h20 => ?_)
    refine q_iconst 1 24 dX2_takesAt_23 ic_1 rfl ?_
    refine q_goto 28 dX2_takesAt_24 (by decide) ?_
    refine q_zreturn dX2_takesAt_28 rfl (by decide) ?_
    exact pR.rf
  · rw [if_neg hlt]
    have hle : vf t ≤ moV uf E ch := Int32.not_lt.mp hlt
    refine q_aload_n 0 1 dX2_takesAt_0 rfl rfl rfl ?_
    refine q_getR 0 4 f_X2_47 dX2_takesAt_1 rfl rfl rfl rfl ?_
    refine q_aload_n 0 5 dX2_takesAt_4 rfl rfl rfl ?_
    refine q_getR 0 8 f_X2_38 dX2_takesAt_5 rfl rfl rfl rfl ?_
    refine q_iload_n 1 9 dX2_takesAt_8 rfl rfl rfl ?_
    refine q_iald 4 z 10 dX2_takesAt_9 rfl ⟨rfl, by omega, by omega⟩ rfl ?_
    rw [ht]
    refine q_iald 5 t 11 dX2_takesAt_10 rfl ⟨rfl, by omega, by omega⟩ rfl ?_
    refine q_aload_n 0 12 dX2_takesAt_11 rfl rfl rfl ?_
    refine q_iload_n 1 13 dX2_takesAt_12 rfl rfl rfl ?_
    refine q_aload_n 0 14 dX2_takesAt_13 rfl rfl rfl ?_
    refine q_getR 0 17 f_X2_50 dX2_takesAt_14 rfl rfl rfl rfl ?_
    refine q_cVi 0 [0, 1, 2, 3] [4, 5] [2, 3, 4, 5, 0, 1] 20 (wr := [_, _]) (w1 := _) (ws' := [_, _, _, _, _, _]) (c_X2_most hi hch hb hp hr hE) m_X2_205 dX2_takesAt_17 rfl rfl rfl rfl rfl rfl rfl rfl (by decide) (by decide) (by decide) (by decide) (Nat.le_of_ble_eq_true rfl) (by omega) (by omega) (by omega) rfl ?_
    refine q_icmp_le 27 23 dX2_takesAt_20 (by decide) rfl (fun h20 => ?_) (fun h20 => absurd hle h20)
    refine q_iconst 0 28 dX2_takesAt_27 ic_0 rfl ?_
    refine q_zreturn dX2_takesAt_28 rfl (Or.inl rfl) ?_
    exact pR.rf
/-- the least choice whose value is v -/
def chO (vf : Sc) (E : List (Nat × Sc)) (v : Int32) : Nat → Nat → Nat
  | 0, c => c
  | f + 1, c => if wgV c vf E = v then c else chO vf E v f (c + 1)
theorem c_X2_choiceAt {l : Launch} {g : Gh} {q Nb Np Nr Nv ch z : Nat} {r : Nat → Nat} {i bf pf uf vf : Sc} {E : List (Nat × Sc)} (hi : i 9 = nI ch) (hc0 : 1 ≤ ch) (hch : ch ≤ 4) (hb : Nb < 2 ^ 30) (hp : Np < 2 ^ 30) (hr : Nr < 2 ^ 30) (hE : EnO ch Nb Np Nr bf pf E z) (hz : z < Nv) (hv : Nv < 2 ^ 30) : Cp l g yX2_choiceAt (Cond.code yX2_choiceAt cX2_choiceAt 3 (some .int)) 2 [.ref q, .int (nI z)] [(q, ob 2 i (rO r)), (r 5, aI g Nb bf), (r 7, aI g Np pf), (r 13, aI g Nr uf), (r 14, aI g Nv vf)] (some (.int (nI (chO uf E (vf z) (ch - 1) 0)))) [(q, ob 2 i (rO r)), (r 5, aI g Nb bf), (r 7, aI g Np pf), (r 13, aI g Nr uf), (r 14, aI g Nv vf)] := by
  refine ct_of (M := mtX2_choiceAt) [some (.ref q), some (.int (nI z)), none] rfl (by decide) (Nat.le_of_ble_eq_true rfl) (fun _ h => h) (fun a => ?_)
  have e9 : i 9 - 1 = nI (ch - 1) := by rw [hi, show (1 : Int32) = nI 1 by decide, pk_sub hc0]
  have K2 : ∀ (f c : Nat), f + c = ch - 1 → WPs l g mtX2_choiceAt 2 0 0 (pR (some (.int (nI (chO uf E (vf z) f c)))) [(q, ob 2 i (rO r)), (r 5, aI g Nb bf), (r 7, aI g Np pf), (r 13, aI g Nr uf), (r 14, aI g Nv vf)]) noX a 2 [some (.ref q), some (.int (nI z)), some (.int (nI c))] [] [(q, ob 2 i (rO r)), (r 5, aI g Nb bf), (r 7, aI g Np pf), (r 13, aI g Nr uf), (r 14, aI g Nv vf)] 0 0 := by
    intro f
    induction f with
    | zero =>
      intro c hc
      have hge : i 9 - 1 ≤ nI c := by rw [e9]; exact nI_le (by omega) (by omega)
      refine q_iload_n 2 3 dX2_choiceAt_2 rfl rfl rfl ?_
      refine q_aload_n 0 4 dX2_choiceAt_3 rfl rfl rfl ?_
      refine q_getI 0 7 f_X2_67 dX2_choiceAt_4 rfl rfl rfl ?_
      refine q_iconst 1 8 dX2_choiceAt_7 ic_1 rfl ?_
      refine q_isub 9 dX2_choiceAt_8 rfl ?_
      refine q_icmp_ge 37 12 dX2_choiceAt_9 (by decide) rfl (fun h9 => ?_) (fun h9 => absurd hge h9)
      refine q_iload_n 2 38 dX2_choiceAt_37 rfl rfl rfl ?_
      refine q_ireturn dX2_choiceAt_38 rfl ?_
      exact pR.rf
    | succ f ih =>
      intro c hc
      have hlt : ¬ i 9 - 1 ≤ nI c := by rw [e9]; exact nI_ge (by omega) (by omega)
      have K1 := ih (c + 1) (by omega)
      clear ih
      unfold chO
      by_cases he : wgV c uf E = vf z
      · rw [if_pos he]
        refine q_iload_n 2 3 dX2_choiceAt_2 rfl rfl rfl ?_
        refine q_aload_n 0 4 dX2_choiceAt_3 rfl rfl rfl ?_
        refine q_getI 0 7 f_X2_67 dX2_choiceAt_4 rfl rfl rfl ?_
        refine q_iconst 1 8 dX2_choiceAt_7 ic_1 rfl ?_
        refine q_isub 9 dX2_choiceAt_8 rfl ?_
        refine q_icmp_ge 37 12 dX2_choiceAt_9 (by decide) rfl (fun h9 => absurd h9 hlt) (fun h9 => ?_)
        refine q_aload_n 0 13 dX2_choiceAt_12 rfl rfl rfl ?_
        refine q_iload_n 1 14 dX2_choiceAt_13 rfl rfl rfl ?_
        refine q_iload_n 2 15 dX2_choiceAt_14 rfl rfl rfl ?_
        refine q_aload_n 0 16 dX2_choiceAt_15 rfl rfl rfl ?_
        refine q_getR 0 19 f_X2_44 dX2_choiceAt_16 rfl rfl rfl rfl ?_
        refine q_cVi 0 [0, 1, 2, 3] [4] [1, 2, 3, 4, 0] 22 (wr := [_]) (w1 := _) (ws' := [_, _, _, _, _]) (c_X2_weigh hi (by omega) hch hb hp hr hE) m_X2_212 dX2_choiceAt_19 rfl rfl rfl rfl rfl rfl rfl rfl (by decide) (by decide) (by decide) (by decide) (Nat.le_of_ble_eq_true rfl) (by omega) (by omega) (by omega) rfl ?_
        refine q_aload_n 0 23 dX2_choiceAt_22 rfl rfl rfl ?_
        refine q_getR 0 26 f_X2_47 dX2_choiceAt_23 rfl rfl rfl rfl ?_
        refine q_iload_n 1 27 dX2_choiceAt_26 rfl rfl rfl ?_
        refine q_iald 4 z 28 dX2_choiceAt_27 rfl ⟨rfl, by omega, by omega⟩ rfl ?_
        refine q_icmp_eq 37 31 dX2_choiceAt_28 (by decide) rfl (fun h28 => ?_) (fun h28 => absurd he h28)
        refine q_iload_n 2 38 dX2_choiceAt_37 rfl rfl rfl ?_
        refine q_ireturn dX2_choiceAt_38 rfl ?_
        exact pR.rf
      · rw [if_neg he]
        refine q_iload_n 2 3 dX2_choiceAt_2 rfl rfl rfl ?_
        refine q_aload_n 0 4 dX2_choiceAt_3 rfl rfl rfl ?_
        refine q_getI 0 7 f_X2_67 dX2_choiceAt_4 rfl rfl rfl ?_
        refine q_iconst 1 8 dX2_choiceAt_7 ic_1 rfl ?_
        refine q_isub 9 dX2_choiceAt_8 rfl ?_
        refine q_icmp_ge 37 12 dX2_choiceAt_9 (by decide) rfl (fun h9 => absurd h9 hlt) (fun h9 => ?_)
        refine q_aload_n 0 13 dX2_choiceAt_12 rfl rfl rfl ?_
        refine q_iload_n 1 14 dX2_choiceAt_13 rfl rfl rfl ?_
        refine q_iload_n 2 15 dX2_choiceAt_14 rfl rfl rfl ?_
        refine q_aload_n 0 16 dX2_choiceAt_15 rfl rfl rfl ?_
        refine q_getR 0 19 f_X2_44 dX2_choiceAt_16 rfl rfl rfl rfl ?_
        refine q_cVi 0 [0, 1, 2, 3] [4] [1, 2, 3, 4, 0] 22 (wr := [_]) (w1 := _) (ws' := [_, _, _, _, _]) (c_X2_weigh hi (by omega) hch hb hp hr hE) m_X2_212 dX2_choiceAt_19 rfl rfl rfl rfl rfl rfl rfl rfl (by decide) (by decide) (by decide) (by decide) (Nat.le_of_ble_eq_true rfl) (by omega) (by omega) (by omega) rfl ?_
        refine q_aload_n 0 23 dX2_choiceAt_22 rfl rfl rfl ?_
        refine q_getR 0 26 f_X2_47 dX2_choiceAt_23 rfl rfl rfl rfl ?_
        refine q_iload_n 1 27 dX2_choiceAt_26 rfl rfl rfl ?_
        refine q_iald 4 z 28 dX2_choiceAt_27 rfl ⟨rfl, by omega, by omega⟩ rfl ?_
        refine q_icmp_eq 37 31 dX2_choiceAt_28 (by decide) rfl (fun h28 => absurd h28 he) (fun h28 => ?_)
        refine q_iinc 2 (nI (c + 1)) 34 (L' := [_, _, _]) dX2_choiceAt_31 rfl (inc1 (c)) (by decide) rfl rfl ?_
        refine q_goto 2 dX2_choiceAt_34 (by decide) ?_
        exact K1
  have K1 := K2 (ch - 1) 0 rfl
  clear K2
  refine q_iconst 0 1 dX2_choiceAt_0 ic_0 rfl ?_
  refine q_istore_n 2 2 (L' := [_, _, _]) dX2_choiceAt_1 rfl (by decide) rfl rfl ?_
  exact K1
/-- h from a on up to b, else f -/
def cpA (f h : Sc) (a b : Nat) : Sc := fun k => if a ≤ k ∧ k < b then h k else f k
theorem cpA_0 (f h : Sc) (a : Nat) : cpA f h a a = f := by
  funext k
  exact if_neg (by omega)
theorem cpA_s (f h : Sc) {a b : Nat} (hab : a ≤ b) : upd (cpA f h a b) b (h b) = cpA f h a (b + 1) := by
  funext k
  unfold cpA upd
  by_cases hk : k = b
  · subst hk; rw [if_pos rfl, if_pos ⟨hab, Nat.lt_succ_self _⟩]
  · rw [if_neg hk]
    show (if a ≤ k ∧ k < b then h k else f k) = _
    by_cases h2 : a ≤ k ∧ k < b
    · rw [if_pos h2, if_pos ⟨h2.1, by omega⟩]
    · rw [if_neg h2, if_neg (by omega)]
theorem cpA_in {f h : Sc} {a b k : Nat} (h1 : a ≤ k) (h2 : k < b) : cpA f h a b k = h k := if_pos ⟨h1, h2⟩
theorem cpA_lo {f h : Sc} {a b k : Nat} (h1 : k < a) : cpA f h a b k = f k := if_neg (by omega)
/-- the value of the k-th way of a game's end -/
def eV (cnt : Int32) (k : Nat) : Int32 := if (cnt >>> (nI k &&& 31)) &&& 1 = 1 then 1000000000 else 0
theorem c_X2_fillEnds {l : Launch} {g : Gh} {q ro ot sz N1 N2 : Nat} {r : Nat → Nat} {rp : List (Option Nat)} {i ip f1 f2 : Sc} {cnt : Int32} (hs : ip 2 = nI sz) (h1 : 4 + sz ≤ N1) (h2 : 4 ≤ N2) (hN1 : N1 < 2 ^ 30) (hN2 : N2 < 2 ^ 30) : Cp l g yX2_fillEnds (Cond.code yX2_fillEnds cX2_fillEnds 5 none) 1 [.ref q, .ref ro, .ref ot, .int cnt] [(q, ob 2 i (rO r)), (r 0, ob 3 ip rp), (ro, aI g N1 f1), (ot, aI g N2 f2)] none [(q, ob 2 i (rO r)), (r 0, ob 3 ip rp), (ro, aI g N1 (cp (cpA f1 (fun _ => 0) 4 (4 + sz)) (eV cnt) 4)), (ot, aI g N2 (cp f2 (eV cnt) 4))] := by
  refine ct_of (M := mtX2_fillEnds) [some (.ref q), some (.ref ro), some (.ref ot), some (.int cnt), none] rfl (by decide) (Nat.le_of_ble_eq_true rfl) (fun _ h => h) (fun a => ?_)
  have e4 : 4 + ip 2 = nI (4 + sz) := by rw [hs, show (4 : Int32) = nI 4 by decide, nI_add]
  have K31 : ∀ (f : Sc) (c k : Nat), c + k = 4 → WPs l g mtX2_fillEnds 1 0 0 (pR none [(q, ob 2 i (rO r)), (r 0, ob 3 ip rp), (ro, aI g N1 (cp f (eV cnt) 4)), (ot, aI g N2 (cp f2 (eV cnt) 4))]) noX a 31 [some (.ref q), some (.ref ro), some (.ref ot), some (.int cnt), some (.int (nI k))] [] [(q, ob 2 i (rO r)), (r 0, ob 3 ip rp), (ro, aI g N1 (cp f (eV cnt) k)), (ot, aI g N2 (cp f2 (eV cnt) k))] 0 0 := by
    intro f c
    induction c with
    | zero =>
      intro k hk
      obtain rfl : k = 4 := by omega
      refine q_iload 4 33 dX2_fillEnds_31 rfl rfl ?_
      refine q_iconst 4 34 dX2_fillEnds_33 ic_4 rfl ?_
      refine q_icmp_ge 71 37 dX2_fillEnds_34 (by decide) rfl (fun h34 => ?_) (fun h34 => absurd (by decide) h34)
      refine q_return dX2_fillEnds_71 rfl ?_
      exact pR.rf
    | succ c ih =>
      intro k hk
      have hlt : ¬ (4 : Int32) ≤ nI k := nI_ge (b := 4) (by omega) (by decide)
      have K1 := ih (k + 1) (by omega)
      clear ih
      rw [← cp_s f (eV cnt) k, ← cp_s f2 (eV cnt) k] at K1
      by_cases hb : (cnt >>> (nI k &&& 31)) &&& 1 = 1
      · have ev : eV cnt k = 1000000000 := if_pos hb
        rw [ev] at K1
        refine q_iload 4 33 dX2_fillEnds_31 rfl rfl ?_
        refine q_iconst 4 34 dX2_fillEnds_33 ic_4 rfl ?_
        refine q_icmp_ge 71 37 dX2_fillEnds_34 (by decide) rfl (fun h34 => absurd h34 hlt) (fun h34 => ?_)
        refine q_aload_n 1 38 dX2_fillEnds_37 rfl rfl rfl ?_
        refine q_iload 4 40 dX2_fillEnds_38 rfl rfl ?_
        refine q_iload_n 3 41 dX2_fillEnds_40 rfl rfl rfl ?_
        refine q_iload 4 43 dX2_fillEnds_41 rfl rfl ?_
        refine q_ishr 44 dX2_fillEnds_43 rfl ?_
        refine q_iconst 1 45 dX2_fillEnds_44 ic_1 rfl ?_
        refine q_iand 46 dX2_fillEnds_45 rfl ?_
        refine q_iconst 1 47 dX2_fillEnds_46 ic_1 rfl ?_
        refine q_icmp_ne 55 50 dX2_fillEnds_47 (by decide) rfl (fun h47 => absurd hb h47) (fun h47 => ?_)
        refine q_ldc 1000000000 52 k_X2_204 dX2_fillEnds_50 rfl ?_
        refine q_goto 56 dX2_fillEnds_52 (by decide) ?_
        refine q_iast 2 k 57 (w' := [_, _, _, _]) dX2_fillEnds_56 rfl ⟨rfl, by omega, by omega⟩ rfl rfl ?_
        refine q_aload_n 2 58 dX2_fillEnds_57 rfl rfl rfl ?_
        refine q_iload 4 60 dX2_fillEnds_58 rfl rfl ?_
        refine q_aload_n 1 61 dX2_fillEnds_60 rfl rfl rfl ?_
        refine q_iload 4 63 dX2_fillEnds_61 rfl rfl ?_
        refine q_iald 2 k 64 dX2_fillEnds_63 rfl ⟨rfl, by omega, by omega⟩ rfl ?_
        rw [pk_us]
        refine q_iast 3 k 65 (w' := [_, _, _, _]) dX2_fillEnds_64 rfl ⟨rfl, by omega, by omega⟩ rfl rfl ?_
        refine q_iinc 4 (nI (k + 1)) 68 (L' := [_, _, _, _, _]) dX2_fillEnds_65 rfl (inc1 (k)) (by decide) rfl rfl ?_
        refine q_goto 31 dX2_fillEnds_68 (by decide) ?_
        exact K1
      · have ev : eV cnt k = 0 := if_neg hb
        rw [ev] at K1
        refine q_iload 4 33 dX2_fillEnds_31 rfl rfl ?_
        refine q_iconst 4 34 dX2_fillEnds_33 ic_4 rfl ?_
        refine q_icmp_ge 71 37 dX2_fillEnds_34 (by decide) rfl (fun h34 => absurd h34 hlt) (fun h34 => ?_)
        refine q_aload_n 1 38 dX2_fillEnds_37 rfl rfl rfl ?_
        refine q_iload 4 40 dX2_fillEnds_38 rfl rfl ?_
        refine q_iload_n 3 41 dX2_fillEnds_40 rfl rfl rfl ?_
        refine q_iload 4 43 dX2_fillEnds_41 rfl rfl ?_
        refine q_ishr 44 dX2_fillEnds_43 rfl ?_
        refine q_iconst 1 45 dX2_fillEnds_44 ic_1 rfl ?_
        refine q_iand 46 dX2_fillEnds_45 rfl ?_
        refine q_iconst 1 47 dX2_fillEnds_46 ic_1 rfl ?_
        refine q_icmp_ne 55 50 dX2_fillEnds_47 (by decide) rfl (fun h47 => ?_) (fun h47 => absurd h47 hb)
        refine q_iconst 0 56 dX2_fillEnds_55 ic_0 rfl ?_
        refine q_iast 2 k 57 (w' := [_, _, _, _]) dX2_fillEnds_56 rfl ⟨rfl, by omega, by omega⟩ rfl rfl ?_
        refine q_aload_n 2 58 dX2_fillEnds_57 rfl rfl rfl ?_
        refine q_iload 4 60 dX2_fillEnds_58 rfl rfl ?_
        refine q_aload_n 1 61 dX2_fillEnds_60 rfl rfl rfl ?_
        refine q_iload 4 63 dX2_fillEnds_61 rfl rfl ?_
        refine q_iald 2 k 64 dX2_fillEnds_63 rfl ⟨rfl, by omega, by omega⟩ rfl ?_
        rw [pk_us]
        refine q_iast 3 k 65 (w' := [_, _, _, _]) dX2_fillEnds_64 rfl ⟨rfl, by omega, by omega⟩ rfl rfl ?_
        refine q_iinc 4 (nI (k + 1)) 68 (L' := [_, _, _, _, _]) dX2_fillEnds_65 rfl (inc1 (k)) (by decide) rfl rfl ?_
        refine q_goto 31 dX2_fillEnds_68 (by decide) ?_
        exact K1
  have K3 : ∀ (c k : Nat), c + k = 4 + sz → 4 ≤ k → WPs l g mtX2_fillEnds 1 0 0 (pR none [(q, ob 2 i (rO r)), (r 0, ob 3 ip rp), (ro, aI g N1 (cp (cpA f1 (fun _ => 0) 4 (4 + sz)) (eV cnt) 4)), (ot, aI g N2 (cp f2 (eV cnt) 4))]) noX a 3 [some (.ref q), some (.ref ro), some (.ref ot), some (.int cnt), some (.int (nI k))] [] [(q, ob 2 i (rO r)), (r 0, ob 3 ip rp), (ro, aI g N1 (cpA f1 (fun _ => 0) 4 k)), (ot, aI g N2 f2)] 0 0 := by
    intro c
    induction c with
    | zero =>
      intro k hk _
      obtain rfl : k = 4 + sz := by omega
      have hge : 4 + ip 2 ≤ nI (4 + sz) := by rw [e4]; exact Int32.le_refl _
      have K1 := K31 (cpA f1 (fun _ => 0) 4 (4 + sz)) 4 0 rfl
      rw [cp_0, cp_0] at K1
      clear K31
      refine q_iload 4 5 dX2_fillEnds_3 rfl rfl ?_
      refine q_iconst 4 6 dX2_fillEnds_5 ic_4 rfl ?_
      refine q_aload_n 0 7 dX2_fillEnds_6 rfl rfl rfl ?_
      refine q_getR 0 10 f_X2_12 dX2_fillEnds_7 rfl rfl rfl rfl ?_
      refine q_getI 1 13 f_X2_97 dX2_fillEnds_10 rfl rfl rfl ?_
      refine q_iadd 14 dX2_fillEnds_13 rfl ?_
      refine q_icmp_ge 28 17 dX2_fillEnds_14 (by decide) rfl (fun h14 => ?_) (fun h14 => absurd hge h14)
      refine q_iconst 0 29 dX2_fillEnds_28 ic_0 rfl ?_
      refine q_istore 4 31 (L' := [_, _, _, _, _]) dX2_fillEnds_29 (by decide) rfl rfl ?_
      exact K1
    | succ c ih =>
      intro k hk h4
      have hlt : ¬ 4 + ip 2 ≤ nI k := by rw [e4]; exact nI_ge (by omega) (by omega)
      have K1 := ih (k + 1) (by omega) (by omega)
      clear ih
      rw [← cpA_s f1 (fun _ => 0) h4] at K1
      refine q_iload 4 5 dX2_fillEnds_3 rfl rfl ?_
      refine q_iconst 4 6 dX2_fillEnds_5 ic_4 rfl ?_
      refine q_aload_n 0 7 dX2_fillEnds_6 rfl rfl rfl ?_
      refine q_getR 0 10 f_X2_12 dX2_fillEnds_7 rfl rfl rfl rfl ?_
      refine q_getI 1 13 f_X2_97 dX2_fillEnds_10 rfl rfl rfl ?_
      refine q_iadd 14 dX2_fillEnds_13 rfl ?_
      refine q_icmp_ge 28 17 dX2_fillEnds_14 (by decide) rfl (fun h14 => absurd h14 hlt) (fun h14 => ?_)
      refine q_aload_n 1 18 dX2_fillEnds_17 rfl rfl rfl ?_
      refine q_iload 4 20 dX2_fillEnds_18 rfl rfl ?_
      refine q_iconst 0 21 dX2_fillEnds_20 ic_0 rfl ?_
      refine q_iast 2 k 22 (w' := [_, _, _, _]) dX2_fillEnds_21 rfl ⟨rfl, by omega, by omega⟩ rfl rfl ?_
      refine q_iinc 4 (nI (k + 1)) 25 (L' := [_, _, _, _, _]) dX2_fillEnds_22 rfl (inc1 (k)) (by decide) rfl rfl ?_
      refine q_goto 3 dX2_fillEnds_25 (by decide) ?_
      exact K1
  have K1 := K3 sz 4 (by omega) (by omega)
  rw [cpA_0] at K1
  clear K3 K31
  refine q_iconst 4 1 dX2_fillEnds_0 ic_4 rfl ?_
  refine q_istore 4 3 (L' := [_, _, _, _, _]) dX2_fillEnds_1 (by decide) rfl rfl ?_
  exact K1

