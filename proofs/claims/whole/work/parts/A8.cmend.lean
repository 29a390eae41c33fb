/-! ===== Mender: rows, reach ===== -/
/-- rows: places (cell, state), costs, numbers (cells, what they hold) -/
abbrev MrS : Type := Nat × PlS × Nat × Nat × Sc × (Nat → Int64)
abbrev mrA (X : MrS) : Nat := X.1
abbrev mrP (X : MrS) : PlS := X.2.1
abbrev mrC (X : MrS) : Nat := X.2.2.1
abbrev mrN (X : MrS) : Nat := X.2.2.2.1
abbrev mrF (X : MrS) : Sc := X.2.2.2.2.1
abbrev mrG (X : MrS) : Nat → Int64 := X.2.2.2.2.2
abbrev rMd (fr be : Nat) (X Y : MrS) (sd : Option Nat) : List (Option Nat) := [some fr, some be, some (mrA X), some (mrA Y), some (mrC X), some (mrC Y), some (mrN X), some (mrN Y), sd, none, none]
abbrev ME : Type := List (Int32 × Int32 × Int64)
def e0M : Int32 × Int32 × Int64 := (0, 0, 0)
abbrev kyE (E : ME) : List Int32 := E.map (fun e => e.1)
def MrO (X : MrS) (E : ME) : Prop := PlO (mrP X) ∧ plN (mrP X) ≤ 4096 ∧ plK (mrP X) = kyE E ∧ ∀ k, k < E.length → mrF X k = (E.getD k e0M).2.1 ∧ mrG X k = (E.getD k e0M).2.2
def kyM (s : Sc) : Int32 := sCode s * 49 + (s 7 * 7 + s 8)
def meU (e : Int32 × Int32 × Int64) (co : Int32) (wy : Int64) : Int32 × Int32 × Int64 := if co < e.2.1 then (e.1, co, wy) else if co = e.2.1 then (e.1, e.2.1, e.2.2 + wy) else e
def meR (E : ME) (key co : Int32) (wy : Int64) : ME := if key ∈ kyE E then E.set ((kyE E).idxOf key) (meU (E.getD ((kyE E).idxOf key) e0M) co wy) else E ++ [(key, co, wy)]
theorem meU_1 (e : Int32 × Int32 × Int64) (co : Int32) (wy : Int64) : (meU e co wy).1 = e.1 := by
  unfold meU
  split
  · rfl
  · split <;> rfl
theorem kyE_at {E : ME} {k : Nat} (h : k < E.length) : kAt (kyE E) k = (E.getD k e0M).1 := by
  simp [kAt, kyE, List.getD, h]
theorem kyE_set {E : ME} {k : Nat} {e : Int32 × Int32 × Int64} (h : k < E.length) (he : e.1 = (E.getD k e0M).1) : kyE (E.set k e) = kyE E := by
  have e2 : (E.getD k e0M).1 = (E[k]).1 := by simp [List.getD, h]
  rw [kyE, kyE, List.map_set, he, e2]
  apply List.ext_getElem?
  intro z
  by_cases hz : z = k
  · subst hz
    rw [List.getElem?_set_self (by simpa using h)]
    simp [h]
  · rw [List.getElem?_set_ne (Ne.symm hz)]
theorem meR_keys (E : ME) (key co : Int32) (wy : Int64) : kyE (meR E key co wy) = kPut (kyE E) key := by
  unfold meR kPut
  by_cases h : key ∈ kyE E
  · rw [if_pos h, if_pos h]
    have hl : (kyE E).idxOf key < E.length := by have := List.idxOf_lt_length_iff.mpr h; simpa [kyE] using this
    exact kyE_set hl (meU_1 _ _ _)
  · rw [if_neg h, if_neg h]
    simp [kyE]
theorem mr_gr {P : PlS} (h : PlO P) (hN : plN P ≤ 4096) (hl : (plK P).length ≤ 4000) : gN (plK P).length (plN P) ≤ 4096 ∧ 16 ≤ plN P ∧ (gN (plK P).length (plN P) = plN P ∧ gC (plK P).length (plN P) = 0 ∧ gS (plK P).length (plN P) = 0 ∨ gN (plK P).length (plN P) = 2 * plN P ∧ gC (plK P).length (plN P) = 2 ∧ gS (plK P).length (plN P) = 10 * plN P) ∧ (plK P).length < gN (plK P).length (plN P) := by
  obtain ⟨_, hk, _, m, hm, e⟩ := h
  have hkl := hk.1
  have h16 : 16 ≤ plN P := by rw [e]; have := Nat.pow_le_pow_right (n := 2) (by decide) (Nat.zero_le m); omega
  unfold gN gC gS
  by_cases hg : plN P ≤ (plK P).length
  · rw [if_pos hg, if_pos hg, if_pos hg]
    have hm7 : m ≤ 7 := by
      refine Classical.byContradiction fun hc => ?_
      have : 2 ^ 8 ≤ 2 ^ m := Nat.pow_le_pow_right (by decide) (by omega)
      omega
    have : 2 ^ m ≤ 2 ^ 7 := Nat.pow_le_pow_right (by decide) hm7
    omega
  · rw [if_neg hg, if_neg hg, if_neg hg]
    omega
theorem getD_setM {E : ME} {k z : Nat} {e : Int32 × Int32 × Int64} (h : k < E.length) : (E.set k e).getD z e0M = if z = k then e else E.getD z e0M := by
  by_cases hz : z = k
  · subst hz; rw [if_pos rfl]; simp [List.getD, h]
  · rw [if_neg hz]; simp [List.getD, List.getElem?_set_ne (Ne.symm hz)]
theorem getD_appM {E : ME} {z : Nat} {e : Int32 × Int32 × Int64} (h : z < (E ++ [e]).length) : (E ++ [e]).getD z e0M = if z = E.length then e else E.getD z e0M := by
  by_cases hz : z = E.length
  · subst hz; rw [if_pos rfl]; simp [List.getD]
  · rw [if_neg hz]
    have : z < E.length := by simp at h; omega
    simp [List.getD, List.getElem?_append_left this]
theorem upd_at (f : Sc) (k z : Nat) (v : Int32) : upd f k v z = if z = k then v else f z := by
  by_cases h : z = k
  · rw [if_pos h, h, pk_us]
  · rw [if_neg h, pk_un h]
theorem updL_at (f : Nat → Int64) (k z : Nat) (v : Int64) : vp_updL f k v z = if z = k then v else f z := by
  by_cases h : z = k
  · rw [if_pos h, h, pk_uLs]
  · rw [if_neg h, pk_uLn h]
theorem c_X1_reach {l : Launch} {g : Gh} {q fr be : Nat} {X Y : MrS} {sd : Option Nat} {i sb : Sc} {j : Nat → Int64} {E : ME} {co : Int32} {wy : Int64} (hY : MrO Y E) (hE : E.length ≤ 4000) : Cn l g yX1_reach (Cond.code yX1_reach cX1_reach 7 none) 5 (4096 - plN (mrP Y)) (14 * (4096 - plN (mrP Y))) [.ref q, .int co, .long wy] [(q, obj 1 i (rMd fr be X Y sd) j), (be, ob 8 sb []), (mrA Y, ob 3 (plI (mrP Y)) (rPl (plKe (mrP Y)) (plTa (mrP Y)))), (plKe (mrP Y), aI g (plN (mrP Y)) (plKf (mrP Y))), (plTa (mrP Y), aI g (4 * plN (mrP Y)) (plTb (mrP Y))), (mrC Y, aI g (plN (mrP Y)) (mrF Y)), (mrN Y, aJ g (plN (mrP Y)) (mrG Y))] (fun _ : MrS => none) (fun Z : MrS => [(q, obj 1 i (rMd fr be X Z sd) j), (be, ob 8 sb []), (mrA Z, ob 3 (plI (mrP Z)) (rPl (plKe (mrP Z)) (plTa (mrP Z)))), (plKe (mrP Z), aI g (plN (mrP Z)) (plKf (mrP Z))), (plTa (mrP Z), aI g (4 * plN (mrP Z)) (plTb (mrP Z))), (mrC Z, aI g (plN (mrP Z)) (mrF Z)), (mrN Z, aJ g (plN (mrP Z)) (mrG Z))]) (fun Z k n => MrO Z (meR E (kyM sb) co wy) ∧ mrA Z = mrA Y ∧ plN (mrP Y) ≤ plN (mrP Z) ∧ k + plN (mrP Y) ≤ plN (mrP Z) ∧ n + 14 * plN (mrP Y) ≤ 14 * plN (mrP Z)) := by
  refine ct_of (M := mtX1_reach) [some (.ref q), some (.int co), some (.long wy), none, none, none, none] rfl (by decide) (Nat.le_of_ble_eq_true rfl) (fun _ h => h) (fun a => ?_)
  obtain ⟨hP, hN, hK, hV⟩ := hY
  have hKl : (plK (mrP Y)).length = E.length := by rw [hK]; simp
  obtain ⟨g1, g2, g3, g4⟩ := mr_gr hP hN (by omega)
  have hsz : plI (mrP Y) 2 = nI E.length := by rw [hP.1, hKl]
  have hkN : (plK (mrP Y)).length ≤ plN (mrP Y) := hP.2.1.1
  have K102 : ∀ (P : PlS) (c n NN : Nat) (F : Sc) (G : Nat → Int64) (L5 : Option Value) (kk nn : Nat), NN = plN P → PlO P → plK P = kPut (plK (mrP Y)) (kyM sb) → plN P = gN (plK (mrP Y)).length (plN (mrP Y)) → (∀ z, z < E.length → F z = (E.getD z e0M).2.1 ∧ G z = (E.getD z e0M).2.2) → kk + plN (mrP Y) ≤ plN P → nn + 14 * plN (mrP Y) ≤ 14 * plN P → kk ≤ 4096 - plN (mrP Y) → nn ≤ 14 * (4096 - plN (mrP Y)) → WPs l g mtX1_reach 5 (4096 - plN (mrP Y)) (14 * (4096 - plN (mrP Y))) (pX (fun _ : MrS => none) (fun Z : MrS => [(q, obj 1 i (rMd fr be X Z sd) j), (be, ob 8 sb []), (mrA Z, ob 3 (plI (mrP Z)) (rPl (plKe (mrP Z)) (plTa (mrP Z)))), (plKe (mrP Z), aI g (plN (mrP Z)) (plKf (mrP Z))), (plTa (mrP Z), aI g (4 * plN (mrP Z)) (plTb (mrP Z))), (mrC Z, aI g (plN (mrP Z)) (mrF Z)), (mrN Z, aJ g (plN (mrP Z)) (mrG Z))]) (fun Z k n => MrO Z (meR E (kyM sb) co wy) ∧ mrA Z = mrA Y ∧ plN (mrP Y) ≤ plN (mrP Z) ∧ k + plN (mrP Y) ≤ plN (mrP Z) ∧ n + 14 * plN (mrP Y) ≤ 14 * plN (mrP Z))) noX a 102 [some (.ref q), some (.int co), some (.long wy), none, some (.int (nI E.length)), L5, some (.int (nI ((plK (mrP Y)).idxOf (kyM sb))))] [] [(q, obj 1 i [some fr, some be, some (mrA X), some (mrA Y), some (mrC X), some c, some (mrN X), some n, sd, none, none] j), (be, ob 8 sb []), (mrA Y, ob 3 (plI P) (rPl (plKe P) (plTa P))), (plKe P, aI g (plN P) (plKf P)), (plTa P, aI g (4 * plN P) (plTb P)), (c, aI g NN F), (n, aJ g NN G)] kk nn := by
    intro P c n NN F G L5 kk nn hNN hP2 hK2 hN2 hFG hkk hnn hk9 hn9
    have hgo : ∀ (F2 : Sc) (G2 : Nat → Int64), (∀ z, z < (meR E (kyM sb) co wy).length → F2 z = ((meR E (kyM sb) co wy).getD z e0M).2.1 ∧ G2 z = ((meR E (kyM sb) co wy).getD z e0M).2.2) → (fun Z k n => MrO Z (meR E (kyM sb) co wy) ∧ mrA Z = mrA Y ∧ plN (mrP Y) ≤ plN (mrP Z) ∧ k + plN (mrP Y) ≤ plN (mrP Z) ∧ n + 14 * plN (mrP Y) ≤ 14 * plN (mrP Z)) (mrA Y, P, c, n, F2, G2) kk nn := fun F2 G2 h => ⟨⟨hP2, by show plN P ≤ 4096; omega, by show plK P = _; rw [hK2, meR_keys, hK], h⟩, rfl, by show _ ≤ plN P; omega, hkk, hnn⟩
    subst hNN
    rw [hK]
    by_cases hm : kyM sb ∈ kyE E
    · have hix : (kyE E).idxOf (kyM sb) < E.length := by have := List.idxOf_lt_length_iff.mpr hm; simpa [kyE] using this
      have hmE : meR E (kyM sb) co wy = E.set ((kyE E).idxOf (kyM sb)) (meU (E.getD ((kyE E).idxOf (kyM sb)) e0M) co wy) := by rw [meR, if_pos hm]
      have hP4 : plN P ≤ 4096 := by omega
      generalize hx : (kyE E).idxOf (kyM sb) = x at *
      obtain ⟨f1, f2⟩ := hFG x hix
      have hxN : x < plN P := by omega
      have hne : ¬ nI x = nI E.length := fun h => by have := nI_eqI (by omega) (by omega) h; omega
      clear hK hKl g3 g4 hP hK2 hx hsz hV g1
      have hgo2 : ∀ (F2 : Sc) (G2 : Nat → Int64), F2 x = (meU (E.getD x e0M) co wy).2.1 → G2 x = (meU (E.getD x e0M) co wy).2.2 → (∀ z, z ≠ x → F2 z = F z) → (∀ z, z ≠ x → G2 z = G z) → (pX (fun _ : MrS => none) (fun Z : MrS => [(q, obj 1 i (rMd fr be X Z sd) j), (be, ob 8 sb []), (mrA Z, ob 3 (plI (mrP Z)) (rPl (plKe (mrP Z)) (plTa (mrP Z)))), (plKe (mrP Z), aI g (plN (mrP Z)) (plKf (mrP Z))), (plTa (mrP Z), aI g (4 * plN (mrP Z)) (plTb (mrP Z))), (mrC Z, aI g (plN (mrP Z)) (mrF Z)), (mrN Z, aJ g (plN (mrP Z)) (mrG Z))]) (fun Z k n => MrO Z (meR E (kyM sb) co wy) ∧ mrA Z = mrA Y ∧ plN (mrP Y) ≤ plN (mrP Z) ∧ k + plN (mrP Y) ≤ plN (mrP Z) ∧ n + 14 * plN (mrP Y) ≤ 14 * plN (mrP Z))) none [(q, obj 1 i [some fr, some be, some (mrA X), some (mrA Y), some (mrC X), some c, some (mrN X), some n, sd, none, none] j), (be, ob 8 sb []), (mrA Y, ob 3 (plI P) (rPl (plKe P) (plTa P))), (plKe P, aI g (plN P) (plKf P)), (plTa P, aI g (4 * plN P) (plTb P)), (c, aI g (plN P) F2), (n, aJ g (plN P) G2)] kk nn := by
        intro F2 G2 h1 h2 h3 h4
        refine pX.mk (mrA Y, P, c, n, F2, G2) (hgo F2 G2 fun z hz => ?_) rfl rfl
        rw [hmE] at hz ⊢
        rw [List.length_set] at hz
        rw [getD_setM hix]
        by_cases hzx : z = x
        · rw [if_pos hzx, hzx]; exact ⟨h1, h2⟩
        · rw [if_neg hzx, h3 z hzx, h4 z hzx]; exact hFG z hz
      clear hgo hFG
      by_cases hlt : co < F x
      · have hd : meU (E.getD x e0M) co wy = ((E.getD x e0M).1, co, wy) := by rw [meU, if_pos (by rw [← f1]; exact hlt)]
        rw [hd] at hgo2
        have hge : ¬ F x ≤ co := fun h => absurd hlt (Int32.not_lt.mpr h)
        have h9 := hgo2 (upd F x co) (vp_updL G x wy) (by rw [pk_us]) (by rw [pk_uLs]) (fun z hz => pk_un hz) (fun z hz => pk_uLn hz)
        clear hgo2
        refine q_iload 6 104 dX1_reach_102 rfl rfl ?_
        refine q_iload 4 106 dX1_reach_104 rfl rfl ?_
        refine q_icmp_eq 120 109 dX1_reach_106 (by decide) rfl (fun h106 => absurd h106 hne) (fun h106 => ?_)
        refine q_iload_n 1 110 dX1_reach_109 rfl rfl rfl ?_
        refine q_aload_n 0 111 dX1_reach_110 rfl rfl rfl ?_
        refine q_getR 0 114 f_X1_35 dX1_reach_111 rfl rfl rfl rfl ?_
        refine q_iload 6 116 dX1_reach_114 rfl rfl ?_
        refine q_iald 5 x 117 dX1_reach_116 rfl ⟨rfl, by omega, by omega⟩ rfl ?_
        refine q_icmp_ge 139 120 dX1_reach_117 (by decide) rfl (fun h117 => absurd h117 hge) (fun h117 => ?_)
        refine q_aload_n 0 121 dX1_reach_120 rfl rfl rfl ?_
        refine q_getR 0 124 f_X1_35 dX1_reach_121 rfl rfl rfl rfl ?_
        refine q_iload 6 126 dX1_reach_124 rfl rfl ?_
        refine q_iload_n 1 127 dX1_reach_126 rfl rfl rfl ?_
        refine q_iast 5 x 128 (w' := [_, _, _, _, _, _, _]) dX1_reach_127 rfl ⟨rfl, by omega, by omega⟩ rfl rfl ?_
        refine q_aload_n 0 129 dX1_reach_128 rfl rfl rfl ?_
        refine q_getR 0 132 f_X1_42 dX1_reach_129 rfl rfl rfl rfl ?_
        refine q_iload 6 134 dX1_reach_132 rfl rfl ?_
        refine q_lload_n 2 135 dX1_reach_134 rfl rfl rfl ?_
        refine q_last 6 x 136 (w' := [_, _, _, _, _, _, _]) dX1_reach_135 rfl ⟨rfl, by omega, by omega⟩ rfl rfl ?_
        refine q_goto 161 dX1_reach_136 (by decide) ?_
        refine q_return dX1_reach_161 rfl ?_
        exact h9
      · have hge : F x ≤ co := Int32.not_lt.mp hlt
        by_cases heq : co = F x
        · have hd : meU (E.getD x e0M) co wy = ((E.getD x e0M).1, (E.getD x e0M).2.1, (E.getD x e0M).2.2 + wy) := by rw [meU, if_neg (by rw [← f1]; exact hlt), if_pos (by rw [← f1]; exact heq)]
          rw [hd] at hgo2
          have h9 := hgo2 F (vp_updL G x (G x + wy)) f1 (by rw [pk_uLs, f2]) (fun z hz => rfl) (fun z hz => pk_uLn hz)
          clear hgo2
          refine q_iload 6 104 dX1_reach_102 rfl rfl ?_
          refine q_iload 4 106 dX1_reach_104 rfl rfl ?_
          refine q_icmp_eq 120 109 dX1_reach_106 (by decide) rfl (fun h106 => absurd h106 hne) (fun h106 => ?_)
          refine q_iload_n 1 110 dX1_reach_109 rfl rfl rfl ?_
          refine q_aload_n 0 111 dX1_reach_110 rfl rfl rfl ?_
          refine q_getR 0 114 f_X1_35 dX1_reach_111 rfl rfl rfl rfl ?_
          refine q_iload 6 116 dX1_reach_114 rfl rfl ?_
          refine q_iald 5 x 117 dX1_reach_116 rfl ⟨rfl, by omega, by omega⟩ rfl ?_
          refine q_icmp_ge 139 120 dX1_reach_117 (by decide) rfl (fun h117 => ?_) (fun h117 => absurd hge h117)
          refine q_iload_n 1 140 dX1_reach_139 rfl rfl rfl ?_
          refine q_aload_n 0 141 dX1_reach_140 rfl rfl rfl ?_
          refine q_getR 0 144 f_X1_35 dX1_reach_141 rfl rfl rfl rfl ?_
          refine q_iload 6 146 dX1_reach_144 rfl rfl ?_
          refine q_iald 5 x 147 dX1_reach_146 rfl ⟨rfl, by omega, by omega⟩ rfl ?_
          refine q_icmp_ne 161 150 dX1_reach_147 (by decide) rfl (fun h147 => absurd heq h147) (fun h147 => ?_)
          refine q_aload_n 0 151 dX1_reach_150 rfl rfl rfl ?_
          refine q_getR 0 154 f_X1_42 dX1_reach_151 rfl rfl rfl rfl ?_
          refine q_iload 6 156 dX1_reach_154 rfl rfl ?_
          refine q_dup2 157 dX1_reach_156 rfl rfl rfl ?_
          refine q_lald 6 x 158 dX1_reach_157 rfl ⟨rfl, by omega, by omega⟩ rfl ?_
          refine q_lload_n 2 159 dX1_reach_158 rfl rfl rfl ?_
          refine q_ladd 160 dX1_reach_159 rfl ?_
          refine q_last 6 x 161 (w' := [_, _, _, _, _, _, _]) dX1_reach_160 rfl ⟨rfl, by omega, by omega⟩ rfl rfl ?_
          refine q_return dX1_reach_161 rfl ?_
          exact h9
        · have hd : meU (E.getD x e0M) co wy = E.getD x e0M := by rw [meU, if_neg (by rw [← f1]; exact hlt), if_neg (by rw [← f1]; exact heq)]
          rw [hd] at hgo2
          have h9 := hgo2 F G f1 f2 (fun z hz => rfl) (fun z hz => rfl)
          clear hgo2
          refine q_iload 6 104 dX1_reach_102 rfl rfl ?_
          refine q_iload 4 106 dX1_reach_104 rfl rfl ?_
          refine q_icmp_eq 120 109 dX1_reach_106 (by decide) rfl (fun h106 => absurd h106 hne) (fun h106 => ?_)
          refine q_iload_n 1 110 dX1_reach_109 rfl rfl rfl ?_
          refine q_aload_n 0 111 dX1_reach_110 rfl rfl rfl ?_
          refine q_getR 0 114 f_X1_35 dX1_reach_111 rfl rfl rfl rfl ?_
          refine q_iload 6 116 dX1_reach_114 rfl rfl ?_
          refine q_iald 5 x 117 dX1_reach_116 rfl ⟨rfl, by omega, by omega⟩ rfl ?_
          refine q_icmp_ge 139 120 dX1_reach_117 (by decide) rfl (fun h117 => ?_) (fun h117 => absurd hge h117)
          refine q_iload_n 1 140 dX1_reach_139 rfl rfl rfl ?_
          refine q_aload_n 0 141 dX1_reach_140 rfl rfl rfl ?_
          refine q_getR 0 144 f_X1_35 dX1_reach_141 rfl rfl rfl rfl ?_
          refine q_iload 6 146 dX1_reach_144 rfl rfl ?_
          refine q_iald 5 x 147 dX1_reach_146 rfl ⟨rfl, by omega, by omega⟩ rfl ?_
          refine q_icmp_ne 161 150 dX1_reach_147 (by decide) rfl (fun h147 => ?_) (fun h147 => absurd h147 heq)
          refine q_return dX1_reach_161 rfl ?_
          exact h9
    · have hix : (kyE E).idxOf (kyM sb) = E.length := by rw [List.idxOf_eq_length hm]; simp
      have hmE : meR E (kyM sb) co wy = E ++ [(kyM sb, co, wy)] := by rw [meR, if_neg hm]
      have hP4 : plN P ≤ 4096 := by omega
      rw [hix]
      have hxN : E.length < plN P := by omega
      have h9 : (pX (fun _ : MrS => none) (fun Z : MrS => [(q, obj 1 i (rMd fr be X Z sd) j), (be, ob 8 sb []), (mrA Z, ob 3 (plI (mrP Z)) (rPl (plKe (mrP Z)) (plTa (mrP Z)))), (plKe (mrP Z), aI g (plN (mrP Z)) (plKf (mrP Z))), (plTa (mrP Z), aI g (4 * plN (mrP Z)) (plTb (mrP Z))), (mrC Z, aI g (plN (mrP Z)) (mrF Z)), (mrN Z, aJ g (plN (mrP Z)) (mrG Z))]) (fun Z k n => MrO Z (meR E (kyM sb) co wy) ∧ mrA Z = mrA Y ∧ plN (mrP Y) ≤ plN (mrP Z) ∧ k + plN (mrP Y) ≤ plN (mrP Z) ∧ n + 14 * plN (mrP Y) ≤ 14 * plN (mrP Z))) none [(q, obj 1 i [some fr, some be, some (mrA X), some (mrA Y), some (mrC X), some c, some (mrN X), some n, sd, none, none] j), (be, ob 8 sb []), (mrA Y, ob 3 (plI P) (rPl (plKe P) (plTa P))), (plKe P, aI g (plN P) (plKf P)), (plTa P, aI g (4 * plN P) (plTb P)), (c, aI g (plN P) (upd F E.length co)), (n, aJ g (plN P) (vp_updL G E.length wy))] kk nn := by
        refine pX.mk (mrA Y, P, c, n, upd F E.length co, vp_updL G E.length wy) (hgo _ _ fun z hz => ?_) rfl rfl
        rw [hmE] at hz ⊢
        rw [getD_appM hz, upd_at, updL_at]
        by_cases hzx : z = E.length
        · rw [if_pos hzx, if_pos hzx, if_pos hzx]; exact ⟨rfl, rfl⟩
        · rw [if_neg hzx, if_neg hzx, if_neg hzx]
          have : z < E.length := by simp at hz; omega
          exact hFG z this
      clear hgo hFG hK hKl g3 g4 hP hK2 hix hsz hV g1
      generalize hx : E.length = x at *
      refine q_iload 6 104 dX1_reach_102 rfl rfl ?_
      refine q_iload 4 106 dX1_reach_104 rfl rfl ?_
      refine q_icmp_eq 120 109 dX1_reach_106 (by decide) rfl (fun h106 => ?_) (fun h106 => absurd rfl h106)
      refine q_aload_n 0 121 dX1_reach_120 rfl rfl rfl ?_
      refine q_getR 0 124 f_X1_35 dX1_reach_121 rfl rfl rfl rfl ?_
      refine q_iload 6 126 dX1_reach_124 rfl rfl ?_
      refine q_iload_n 1 127 dX1_reach_126 rfl rfl rfl ?_
      refine q_iast 5 x 128 (w' := [_, _, _, _, _, _, _]) dX1_reach_127 rfl ⟨rfl, by omega, by omega⟩ rfl rfl ?_
      refine q_aload_n 0 129 dX1_reach_128 rfl rfl rfl ?_
      refine q_getR 0 132 f_X1_42 dX1_reach_129 rfl rfl rfl rfl ?_
      refine q_iload 6 134 dX1_reach_132 rfl rfl ?_
      refine q_lload_n 2 135 dX1_reach_134 rfl rfl rfl ?_
      refine q_last 6 x 136 (w' := [_, _, _, _, _, _, _]) dX1_reach_135 rfl ⟨rfl, by omega, by omega⟩ rfl rfl ?_
      refine q_goto 161 dX1_reach_136 (by decide) ?_
      refine q_return dX1_reach_161 rfl ?_
      exact h9
  have eky : sCode sb * 49 + (sb 7 * 7 + sb 8) = kyM sb := rfl
  refine q_aload_n 0 1 dX1_reach_0 rfl rfl rfl ?_
  refine q_getR 0 4 f_X1_28 dX1_reach_1 rfl rfl rfl rfl ?_
  refine q_getI 2 7 f_X1_68 dX1_reach_4 rfl rfl rfl ?_
  rw [hsz]
  refine q_istore 4 9 (L' := [_, _, _, _, _, _, _]) dX1_reach_7 (by decide) rfl rfl ?_
  refine q_aload_n 0 10 dX1_reach_9 rfl rfl rfl ?_
  refine q_getR 0 13 f_X1_18 dX1_reach_10 rfl rfl rfl rfl ?_
  refine q_getI 1 16 f_X1_120 dX1_reach_13 rfl rfl rfl ?_
  refine q_bipush 7 18 dX1_reach_16 bc_7 rfl ?_
  refine q_imul 19 dX1_reach_18 rfl ?_
  refine q_aload_n 0 20 dX1_reach_19 rfl rfl rfl ?_
  refine q_getR 0 23 f_X1_18 dX1_reach_20 rfl rfl rfl rfl ?_
  refine q_getI 1 26 f_X1_123 dX1_reach_23 rfl rfl rfl ?_
  refine q_iadd 27 dX1_reach_26 rfl ?_
  refine q_istore 5 29 (L' := [_, _, _, _, _, _, _]) dX1_reach_27 (by decide) rfl rfl ?_
  refine q_aload_n 0 30 dX1_reach_29 rfl rfl rfl ?_
  refine q_getR 0 33 f_X1_28 dX1_reach_30 rfl rfl rfl rfl ?_
  refine q_aload_n 0 34 dX1_reach_33 rfl rfl rfl ?_
  refine q_getR 0 37 f_X1_18 dX1_reach_34 rfl rfl rfl rfl ?_
  refine q_cVi 1 [1] [0, 2, 3, 4, 5, 6] [0, 6, 1, 2, 3, 4, 5] 40 (wr := [_, _, _, _, _, _]) (w1 := _) (ws' := [_, _, _, _, _, _, _]) c_X8_code m_X1_126 dX1_reach_37 rfl rfl rfl rfl rfl rfl rfl rfl (by decide) (by decide) (by decide) (by decide) (Nat.le_of_ble_eq_true rfl) (by omega) (by omega) (by omega) rfl ?_
  refine q_bipush 49 42 dX1_reach_40 bc_49 rfl ?_
  refine q_imul 43 dX1_reach_42 rfl ?_
  refine q_iload 5 45 dX1_reach_43 rfl rfl ?_
  refine q_iadd 46 dX1_reach_45 rfl ?_
  rw [eky]
  refine q_yVi 2 [2, 3, 4] [0, 1, 5, 6] [0, 1, 4, 5, 6, 2, 3] 49 (wr := [_, _, _, _]) (w1 := _) (ws' := fun _ => [_, _, _, _, _, _, _]) (c_X3_pl hP (by omega)) m_X1_130 dX1_reach_46 rfl rfl rfl rfl rfl rfl rfl (fun _ => rfl) (by decide) (by decide) (by decide) (by decide) (Nat.le_of_ble_eq_true rfl) (by omega) (by omega) (by omega) rfl (fun P46 k46 n46 hx46 => ?_)
  refine q_istore 6 51 (L' := [_, _, _, _, _, _, _]) dX1_reach_49 (by decide) rfl rfl ?_
  skip
  obtain ⟨hP2, hK2, hN2, hk2, hn2⟩ := hx46
  rcases g3 with ⟨ga, gb, gc⟩ | ⟨ga, gb, gc⟩
  · have eN : plN (mrP Y) = plN P46 := by omega
    have k2 := K102 P46 (mrC Y) (mrN Y) (plN (mrP Y)) (mrF Y) (mrG Y) (some (.int (sb 7 * 7 + sb 8))) (0 + k46) (0 + n46) eN hP2 hK2 hN2 hV (by omega) (by omega) (by omega) (by omega)
    have hge : nI (plN P46) ≤ nI (plN (mrP Y)) := by rw [eN]; exact Int32.le_refl _
    clear K102
    refine q_aload_n 0 52 dX1_reach_51 rfl rfl rfl ?_
    refine q_getR 0 55 f_X1_35 dX1_reach_52 rfl rfl rfl rfl ?_
    refine q_alenI 5 _ 56 dX1_reach_55 rfl rfl rfl ?_
    refine q_aload_n 0 57 dX1_reach_56 rfl rfl rfl ?_
    refine q_getR 0 60 f_X1_28 dX1_reach_57 rfl rfl rfl rfl ?_
    refine q_cVi 2 [2, 3] [0, 1, 4, 5, 6] [0, 1, 5, 6, 2, 3, 4] 63 (wr := [_, _, _, _, _]) (w1 := _) (ws' := [_, _, _, _, _, _, _]) c_X3_room m_X1_133 dX1_reach_60 rfl rfl rfl rfl rfl rfl rfl rfl (by decide) (by decide) (by decide) (by decide) (Nat.le_of_ble_eq_true rfl) (by omega) (by omega) (by omega) rfl ?_
    refine q_icmp_ge 102 66 dX1_reach_63 (by decide) rfl (fun h63 => ?_) (fun h63 => absurd hge h63)
    exact k2
  · have eN : plN P46 = 2 * plN (mrP Y) := by omega
    have hlt : ¬ nI (plN P46) ≤ nI (plN (mrP Y)) := nI_ge (by omega) (by omega)
    have k2 := fun c n kk nn => K102 P46 c n (plN P46) (ext (mrF Y) (plN (mrP Y)) (plN P46)) (extJ (mrG Y) (plN (mrP Y)) (plN P46)) (some (.int (sb 7 * 7 + sb 8))) kk nn rfl hP2 hK2 hN2 (fun z hz => by rw [ext_lt _ (by omega) (by omega), extJ_lt _ (by omega) (by omega)]; exact hV z hz)
    clear K102
    refine q_aload_n 0 52 dX1_reach_51 rfl rfl rfl ?_
    refine q_getR 0 55 f_X1_35 dX1_reach_52 rfl rfl rfl rfl ?_
    refine q_alenI 5 _ 56 dX1_reach_55 rfl rfl rfl ?_
    refine q_aload_n 0 57 dX1_reach_56 rfl rfl rfl ?_
    refine q_getR 0 60 f_X1_28 dX1_reach_57 rfl rfl rfl rfl ?_
    refine q_cVi 2 [2, 3] [0, 1, 4, 5, 6] [0, 1, 5, 6, 2, 3, 4] 63 (wr := [_, _, _, _, _]) (w1 := _) (ws' := [_, _, _, _, _, _, _]) c_X3_room m_X1_133 dX1_reach_60 rfl rfl rfl rfl rfl rfl rfl rfl (by decide) (by decide) (by decide) (by decide) (Nat.le_of_ble_eq_true rfl) (by omega) (by omega) (by omega) rfl ?_
    refine q_icmp_ge 102 66 dX1_reach_63 (by decide) rfl (fun h63 => absurd h63 hlt) (fun h63 => ?_)
    refine q_aload_n 0 67 dX1_reach_66 rfl rfl rfl ?_
    refine q_aload_n 0 68 dX1_reach_67 rfl rfl rfl ?_
    refine q_getR 0 71 f_X1_35 dX1_reach_68 rfl rfl rfl rfl ?_
    refine q_aload_n 0 72 dX1_reach_71 rfl rfl rfl ?_
    refine q_getR 0 75 f_X1_28 dX1_reach_72 rfl rfl rfl rfl ?_
    refine q_cVi 2 [2, 3] [0, 1, 4, 5, 6] [0, 1, 5, 6, 2, 3, 4] 78 (wr := [_, _, _, _, _]) (w1 := _) (ws' := [_, _, _, _, _, _, _]) c_X3_room m_X1_133 dX1_reach_75 rfl rfl rfl rfl rfl rfl rfl rfl (by decide) (by decide) (by decide) (by decide) (Nat.le_of_ble_eq_true rfl) (by omega) (by omega) (by omega) rfl ?_
    refine q_ySr [5] [0, 1, 2, 3, 4, 6] [0, 1, 2, 3, 4, 6, 5, 7] 81 (wr := [_, _, _, _, _, _]) (w1 := _) (ws' := fun _ => [_, _, _, _, _, _, _, _]) (c_copyI (n := plN (mrP Y)) (N := plN P46) (by omega) (by omega) (by omega)) m_X1_136 dX1_reach_78 rfl rfl rfl rfl (fun _ => rfl) (by decide) (by decide) (by decide) (by decide) (Nat.le_of_ble_eq_true rfl) (by omega) (by omega) (by omega) rfl (fun q978 k78 n78 hx78 => ?_)
    refine q_putR 0 84 (w' := [_, _, _, _, _, _, _, _]) (r' := [_, _, _, _, _, _, _, _, _, _, _]) f_X1_35 ft_X1_5 dX1_reach_81 rfl rfl (Nat.le_of_ble_eq_true rfl) rfl rfl rfl rfl rfl ?_
    refine q_aload_n 0 85 dX1_reach_84 rfl rfl rfl ?_
    refine q_aload_n 0 86 dX1_reach_85 rfl rfl rfl ?_
    refine q_getR 0 89 f_X1_42 dX1_reach_86 rfl rfl rfl rfl ?_
    refine q_aload_n 0 90 dX1_reach_89 rfl rfl rfl ?_
    refine q_getR 0 93 f_X1_28 dX1_reach_90 rfl rfl rfl rfl ?_
    refine q_cVi 2 [2, 3] [0, 1, 4, 5, 6, 7] [0, 1, 6, 7, 2, 3, 4, 5] 96 (wr := [_, _, _, _, _, _]) (w1 := _) (ws' := [_, _, _, _, _, _, _, _]) c_X3_room m_X1_133 dX1_reach_93 rfl rfl rfl rfl rfl rfl rfl rfl (by decide) (by decide) (by decide) (by decide) (Nat.le_of_ble_eq_true rfl) (by omega) (by omega) (by omega) rfl ?_
    refine q_ySr [6] [0, 1, 2, 3, 4, 5, 7] [0, 1, 2, 3, 4, 5, 7, 6, 8] 99 (wr := [_, _, _, _, _, _, _]) (w1 := _) (ws' := fun _ => [_, _, _, _, _, _, _, _, _]) (c_copyJ (n := plN (mrP Y)) (N := plN P46) (by omega) (by omega) (by omega)) m_X1_142 dX1_reach_96 rfl rfl rfl rfl (fun _ => rfl) (by decide) (by decide) (by decide) (by decide) (Nat.le_of_ble_eq_true rfl) (by omega) (by omega) (by omega) rfl (fun q996 k96 n96 hx96 => ?_)
    refine q_putR 0 102 (w' := [_, _, _, _, _, _, _, _, _]) (r' := [_, _, _, _, _, _, _, _, _, _, _]) f_X1_42 ft_X1_7 dX1_reach_99 rfl rfl (Nat.le_of_ble_eq_true rfl) rfl rfl rfl rfl rfl ?_
    refine q_sub (ws' := [_, _, _, _, _, _, _]) [0, 1, 2, 3, 4, 7, 8] rfl rfl ?_
    exact k2 _ _ _ _ (by omega) (by omega) (by omega) (by omega)

