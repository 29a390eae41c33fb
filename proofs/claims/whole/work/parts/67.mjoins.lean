/-! ===== whole, unwhole, joins ===== -/
def rWh (x : Sc) : Int32 := (rNum x * 8 + x 7) * 8 + x 8
theorem p_whole {l : Launch} {g : Gh} {q : Nat} {A : Nat → Nat} {i x : Sc} : Cp l g yX12_whole (Cond.code yX12_whole cX12_whole 1 (some .int)) 2 [.ref q] [(q, ob 12 i (rM A)), (A 16, aI g 9 x)] (some (.int (rWh x))) [(q, ob 12 i (rM A)), (A 16, aI g 9 x)] := by
  refine ct_of (M := mtX12_whole) [some (.ref q)] rfl (by decide) (Nat.le_of_ble_eq_true rfl) (fun _ h => h) (fun a => ?_)
  refine q_aload_n 0 1 dX12_whole_0 rfl rfl rfl ?_
  refine q_cVi 0 [0, 1] [] [0, 1] 4 (wr := []) (w1 := _) (ws' := [_, _]) c_M_number m_X12_242 dX12_whole_1 rfl rfl rfl rfl rfl rfl rfl rfl (by decide) (by decide) (by decide) (by decide) (Nat.le_of_ble_eq_true rfl) (by omega) (by omega) (by omega) rfl ?_
  refine q_bipush 8 6 dX12_whole_4 bc_8 rfl ?_
  refine q_imul 7 dX12_whole_6 rfl ?_
  refine q_aload_n 0 8 dX12_whole_7 rfl rfl rfl ?_
  refine q_getR 0 11 f_X12_29 dX12_whole_8 rfl rfl rfl rfl ?_
  refine q_bipush 7 13 dX12_whole_11 bc_7 rfl ?_
  refine q_iald 1 7 14 dX12_whole_13 rfl ⟨by decide, by decide, by decide⟩ rfl ?_
  refine q_iadd 15 dX12_whole_14 rfl ?_
  refine q_bipush 8 17 dX12_whole_15 bc_8 rfl ?_
  refine q_imul 18 dX12_whole_17 rfl ?_
  refine q_aload_n 0 19 dX12_whole_18 rfl rfl rfl ?_
  refine q_getR 0 22 f_X12_29 dX12_whole_19 rfl rfl rfl rfl ?_
  refine q_bipush 8 24 dX12_whole_22 bc_8 rfl ?_
  refine q_iald 1 8 25 dX12_whole_24 rfl ⟨by decide, by decide, by decide⟩ rfl ?_
  refine q_iadd 26 dX12_whole_25 rfl ?_
  refine q_ireturn dX12_whole_26 rfl ?_
  exact pR.rf
def rUw (m x : Sc) (k : Int32) : Sc := upd (upd (rUn m x (k / 64)) 7 (k / 8 - k / 8 / 8 * 8)) 8 (k - k / 8 * 8)
theorem p_unwhole {l : Launch} {g : Gh} {q : Nat} {A : Nat → Nat} {i m x : Sc} {k : Int32} : Cp l g yX12_unwhole (Cond.code yX12_unwhole cX12_unwhole 2 none) 2 [.ref q, .int k] [(q, ob 12 i (rM A)), (A 1, aI g 2616 m), (A 16, aI g 9 x)] none [(q, ob 12 i (rM A)), (A 1, aI g 2616 m), (A 16, aI g 9 (rUw m x k))] := by
  refine ct_of (M := mtX12_unwhole) [some (.ref q), some (.int k)] rfl (by decide) (Nat.le_of_ble_eq_true rfl) (fun _ h => h) (fun a => ?_)
  unfold rUw
  refine q_aload_n 0 1 dX12_unwhole_0 rfl rfl rfl ?_
  refine q_iload_n 1 2 dX12_unwhole_1 rfl rfl rfl ?_
  refine q_bipush 64 4 dX12_unwhole_2 bc_64 rfl ?_
  refine q_idiv 5 dX12_unwhole_4 (by decide) rfl ?_
  refine q_cVv 0 [0, 1, 2] [] [0, 1, 2] 8 (wr := []) (w1 := _) (ws' := [_, _, _]) c_M_unnumber m_X12_239 dX12_unwhole_5 rfl rfl rfl rfl rfl rfl rfl rfl (by decide) (by decide) (by decide) (by decide) (Nat.le_of_ble_eq_true rfl) (by omega) (by omega) (by omega) rfl ?_
  refine q_aload_n 0 9 dX12_unwhole_8 rfl rfl rfl ?_
  refine q_getR 0 12 f_X12_29 dX12_unwhole_9 rfl rfl rfl rfl ?_
  refine q_bipush 7 14 dX12_unwhole_12 bc_7 rfl ?_
  refine q_iload_n 1 15 dX12_unwhole_14 rfl rfl rfl ?_
  refine q_bipush 8 17 dX12_unwhole_15 bc_8 rfl ?_
  refine q_idiv 18 dX12_unwhole_17 (by decide) rfl ?_
  refine q_bipush 8 20 dX12_unwhole_18 bc_8 rfl ?_
  refine q_irem 21 dX12_unwhole_20 (by decide) rfl ?_
  refine q_iast 2 7 22 (w' := [_, _, _]) dX12_unwhole_21 rfl ⟨by decide, by decide, by decide⟩ rfl rfl ?_
  refine q_aload_n 0 23 dX12_unwhole_22 rfl rfl rfl ?_
  refine q_getR 0 26 f_X12_29 dX12_unwhole_23 rfl rfl rfl rfl ?_
  refine q_bipush 8 28 dX12_unwhole_26 bc_8 rfl ?_
  refine q_iload_n 1 29 dX12_unwhole_28 rfl rfl rfl ?_
  refine q_bipush 8 31 dX12_unwhole_29 bc_8 rfl ?_
  refine q_irem 32 dX12_unwhole_31 (by decide) rfl ?_
  refine q_iast 2 8 33 (w' := [_, _, _]) dX12_unwhole_32 rfl ⟨by decide, by decide, by decide⟩ rfl rfl ?_
  refine q_return dX12_unwhole_33 rfl ?_
  exact pR.rf
/-- the state of a whole number -/
def UW (m : Sc) (c : Nat) : Sc := upd (upd (U m (nI (c / 64))) 7 (nI (c / 8 % 8))) 8 (nI (c % 8))
theorem UW_eq (m x : Sc) {c : Nat} (hc : c < 2 ^ 20) : ∀ j, j < 9 → rUw m x (nI c) j = UW m c j := by
  intro j hj
  unfold rUw UW
  rw [nI_div (d := 64) (by decide) (by omega) (by decide) (by decide), nI_rem (d := 8) (by decide) (by omega) (by decide) (by decide), nI_div (d := 8) (by decide) (by omega) (by decide) (by decide), nI_rem (d := 8) (by decide) (by omega) (by decide) (by decide)]
  by_cases h8 : j = 8
  · subst h8; rfl
  · rw [pk_un h8, pk_un h8]
    by_cases h7 : j = 7
    · subst h7; rfl
    · rw [pk_un h7, pk_un h7]
      exact U_eq m x _ j hj
/-- a list of states with their counts -/
abbrev St : Type := List (Nat × (Nat → Int64))
def d0 : Nat × (Nat → Int64) := (0, fun _ => 0)
def ixC (c : Nat) : St → Nat
  | [] => 0
  | e :: L => if e.1 = c then 0 else ixC c L + 1
def sh (f : Nat → Int64) (mo i : Nat) : Int64 := if mo ≤ i then f (i - mo) else 0
def jn (c : Nat) (f : Nat → Int64) (mo : Nat) (L : St) : St := if ixC c L < L.length then L.set (ixC c L) (c, fun i => (L.getD (ixC c L) d0).2 i + sh f mo i) else L ++ [(c, sh f mo)]
theorem ixC_le (c : Nat) : ∀ L : St, ixC c L ≤ L.length
  | [] => Nat.le_refl _
  | e :: L => by
    rw [ixC]
    have := ixC_le c L
    split <;> simp <;> omega
theorem ixC_ne (c : Nat) : ∀ (L : St) (j : Nat), j < ixC c L → ¬ (L.getD j d0).1 = c
  | [], j, h => by simp [ixC] at h
  | e :: L, j, h => by
    rw [ixC] at h
    by_cases he : e.1 = c
    · rw [if_pos he] at h; omega
    · rw [if_neg he] at h
      cases j with
      | zero => exact he
      | succ j => exact ixC_ne c L j (by omega)
theorem ixC_eq (c : Nat) : ∀ (L : St), ixC c L < L.length → (L.getD (ixC c L) d0).1 = c
  | [], h => by simp at h
  | e :: L, h => by
    rw [ixC] at *
    by_cases he : e.1 = c
    · rw [if_pos he]; exact he
    · rw [if_neg he] at h ⊢
      exact ixC_eq c L (by simpa using h)
theorem jn_len (c : Nat) (f : Nat → Int64) (mo : Nat) (L : St) : (jn c f mo L).length = if ixC c L < L.length then L.length else L.length + 1 := by
  unfold jn
  split <;> simp
def RepS (L : St) (ni : Int32) (ns : Sc) (nc : Nat → Int64) : Prop := ni = nI L.length ∧ L.length ≤ 4000 ∧ ∀ k, k < L.length → ns k = nI (L.getD k d0).1 ∧ (L.getD k d0).1 < 2 ^ 20 ∧ ∀ i, i < 31 → nc (31 * k + i) = (L.getD k d0).2 i
/-- counts of block k, moved by mo, added for the first j -/
def blk (nc cs : Nat → Int64) (k s mo j : Nat) : Nat → Int64 := fun z => if 31 * k + mo ≤ z ∧ z < 31 * k + mo + j then nc z + cs (31 * s + (z - (31 * k + mo))) else nc z
theorem blk_0 (nc cs : Nat → Int64) (k s mo : Nat) : blk nc cs k s mo 0 = nc := by
  funext z
  unfold blk
  rw [if_neg (by omega)]
theorem blk_s (nc cs : Nat → Int64) (k s mo j : Nat) : vp_updL (blk nc cs k s mo j) (31 * k + j + mo) (blk nc cs k s mo j (31 * k + j + mo) + cs (31 * s + j)) = blk nc cs k s mo (j + 1) := by
  funext z
  by_cases hz : z = 31 * k + j + mo
  · subst hz
    rw [pk_uLs]
    unfold blk
    rw [if_neg (by omega), if_pos (by omega), show 31 * k + j + mo - (31 * k + mo) = j by omega]
  · rw [pk_uLn hz]
    unfold blk
    by_cases h : 31 * k + mo ≤ z ∧ z < 31 * k + mo + j
    · rw [if_pos h, if_pos (by omega)]
    · rw [if_neg h, if_neg (by omega)]
/-- block k cleared, the first j -/
def clr (nc : Nat → Int64) (k j : Nat) : Nat → Int64 := fun z => if 31 * k ≤ z ∧ z < 31 * k + j then 0 else nc z
theorem clr_0 (nc : Nat → Int64) (k : Nat) : clr nc k 0 = nc := by
  funext z
  unfold clr
  rw [if_neg (by omega)]
theorem clr_s (nc : Nat → Int64) (k j : Nat) : vp_updL (clr nc k j) (31 * k + j) 0 = clr nc k (j + 1) := by
  funext z
  by_cases hz : z = 31 * k + j
  · subst hz
    rw [pk_uLs]
    unfold clr
    rw [if_pos (by omega)]
  · rw [pk_uLn hz]
    unfold clr
    by_cases h : 31 * k ≤ z ∧ z < 31 * k + j
    · rw [if_pos h, if_pos (by omega)]
    · rw [if_neg h, if_neg (by omega)]
theorem getD_set_eq {L : St} {k : Nat} {e : Nat × (Nat → Int64)} (h : k < L.length) : (L.set k e).getD k d0 = e := by simp [List.getD, h]
theorem getD_set_ne {L : St} {k j : Nat} {e : Nat × (Nat → Int64)} (h : ¬ j = k) : (L.set k e).getD j d0 = L.getD j d0 := by simp [List.getD, List.getElem?_set_ne (Ne.symm h)]
theorem getD_app_lt {L : St} {k : Nat} {e : Nat × (Nat → Int64)} (h : k < L.length) : (L ++ [e]).getD k d0 = L.getD k d0 := by simp [List.getD, List.getElem?_append_left h]
theorem getD_app_eq {L : St} {e : Nat × (Nat → Int64)} : (L ++ [e]).getD L.length d0 = e := by simp [List.getD]
theorem rep_old {L : St} {ni : Int32} {ns : Sc} {nc cs : Nat → Int64} {c s mo : Nat} {f : Nat → Int64} (hR : RepS L ni ns nc) (hc : c < 2 ^ 20) (hf : ∀ i, i < 31 → cs (31 * s + i) = f i) (hm : mo ≤ 1) (hi : ixC c L < L.length) : RepS (jn c f mo L) ni ns (blk nc cs (ixC c L) s mo (31 - mo)) := by
  obtain ⟨h1, h2, h3⟩ := hR
  have hj : jn c f mo L = L.set (ixC c L) (c, fun i => (L.getD (ixC c L) d0).2 i + sh f mo i) := if_pos hi
  have hl : (jn c f mo L).length = L.length := by rw [hj, List.length_set]
  refine ⟨by rw [hl]; exact h1, by rw [hl]; exact h2, fun k hk => ?_⟩
  rw [hl] at hk
  obtain ⟨a1, a2, a3⟩ := h3 k hk
  rw [hj]
  by_cases hk2 : k = ixC c L
  · subst hk2
    rw [getD_set_eq hi]
    refine ⟨by rw [a1, ixC_eq c L hi], hc, fun i hi9 => ?_⟩
    dsimp only
    rw [← a3 i hi9]
    unfold blk sh
    by_cases hmi : mo ≤ i
    · rw [if_pos (by omega), if_pos hmi, show 31 * ixC c L + i - (31 * ixC c L + mo) = i - mo by omega, hf _ (by omega)]
    · rw [if_neg (by omega), if_neg hmi, l_add0]
  · rw [getD_set_ne hk2]
    refine ⟨a1, a2, fun i hi9 => ?_⟩
    rw [← a3 i hi9]
    unfold blk
    rw [if_neg (by omega)]
theorem rep_new {L : St} {ni : Int32} {ns : Sc} {nc cs : Nat → Int64} {c s mo : Nat} {f : Nat → Int64} (hR : RepS L ni ns nc) (hc : c < 2 ^ 20) (hf : ∀ i, i < 31 → cs (31 * s + i) = f i) (hm : mo ≤ 1) (hi : ¬ ixC c L < L.length) (hL : L.length < 4000) : RepS (jn c f mo L) (nI (L.length + 1)) (upd ns L.length (nI c)) (blk (clr nc L.length 31) cs L.length s mo (31 - mo)) := by
  obtain ⟨h1, h2, h3⟩ := hR
  have hj : jn c f mo L = L ++ [(c, sh f mo)] := if_neg hi
  have hl : (jn c f mo L).length = L.length + 1 := by rw [hj]; simp
  refine ⟨by rw [hl], by rw [hl]; omega, fun k hk => ?_⟩
  rw [hl] at hk
  rw [hj]
  by_cases hk2 : k = L.length
  · subst hk2
    rw [getD_app_eq, pk_us]
    refine ⟨rfl, hc, fun i hi9 => ?_⟩
    dsimp only
    unfold blk clr sh
    by_cases hmi : mo ≤ i
    · rw [if_pos (by omega), if_pos (by omega), if_pos hmi, show 31 * L.length + i - (31 * L.length + mo) = i - mo by omega, hf _ (by omega), Int64.zero_add]
    · rw [if_neg (by omega), if_pos (by omega), if_neg hmi]
  · obtain ⟨a1, a2, a3⟩ := h3 k (by omega)
    rw [getD_app_lt (by omega), pk_un hk2]
    refine ⟨a1, a2, fun i hi9 => ?_⟩
    rw [← a3 i hi9]
    unfold blk clr
    rw [if_neg (by omega), if_neg (by omega)]
def sm1 (i j : Sc) : Prop := ∀ z, z ≠ 31 → j z = i z
theorem ix31 (k j : Nat) : (31 : Int32) * nI k + nI j = nI (31 * k + j) := by rw [show (31 : Int32) = nI 31 from by decide, pk_mul, nI_add]
theorem p_joins {l : Launch} {g : Gh} {q : Nat} {A : Nat → Nat} {i x ns : Sc} {cs nc : Nat → Int64} {c s mo : Nat} {f : Nat → Int64} {L : St} (hx : rWh x = nI c) (hc : c < 2 ^ 20) (hR : RepS L (i 31) ns nc) (hf : ∀ i, i < 31 → cs (31 * s + i) = f i) (hs : s < 4000) (hm : mo ≤ 1) (hL : ixC c L < L.length ∨ L.length < 4000) :
    Ce l g yX12_joins (Cond.code yX12_joins cX12_joins 6 none) 3 [.ref q, .int (nI s), .int (nI mo)] [(q, ob 12 i (rM A)), (A 16, aI g 9 x), (A 27, aI g 4000 ns), (A 28, aJ g 124000 cs), (A 29, aJ g 124000 nc)]
      (fun z : Sc × Sc × (Nat → Int64) => none) (fun z : Sc × Sc × (Nat → Int64) => [(q, ob 12 z.1 (rM A)), (A 16, aI g 9 x), (A 27, aI g 4000 z.2.1), (A 28, aJ g 124000 cs), (A 29, aJ g 124000 z.2.2)]) (fun z : Sc × Sc × (Nat → Int64) => sm1 i z.1 ∧ RepS (jn c f mo L) (z.1 31) z.2.1 z.2.2) := by
  refine ct_of (M := mtX12_joins) [some (.ref q), some (.int (nI s)), some (.int (nI mo)), none, none, none] rfl (by decide) (Nat.le_of_ble_eq_true rfl) (fun _ h => h) (fun a => ?_)
  have hl4 := hR.2.1
  have K94 : ∀ (k : Nat) (i2 ns2 : Sc) (nc2 : Nat → Int64), k < 4000 → sm1 i i2 → RepS (jn c f mo L) (i2 31) ns2 (blk nc2 cs k s mo (31 - mo)) → ∀ (c9 j : Nat), c9 + j = 31 - mo → WPs l g mtX12_joins 3 0 0 (pE (fun z : Sc × Sc × (Nat → Int64) => none) (fun z : Sc × Sc × (Nat → Int64) => [(q, ob 12 z.1 (rM A)), (A 16, aI g 9 x), (A 27, aI g 4000 z.2.1), (A 28, aJ g 124000 cs), (A 29, aJ g 124000 z.2.2)]) (fun z : Sc × Sc × (Nat → Int64) => sm1 i z.1 ∧ RepS (jn c f mo L) (z.1 31) z.2.1 z.2.2)) noX a 94 [some (.ref q), some (.int (nI s)), some (.int (nI mo)), some (.int (nI c)), some (.int (nI k)), some (.int (nI j))] [] [(q, ob 12 i2 (rM A)), (A 16, aI g 9 x), (A 27, aI g 4000 ns2), (A 28, aJ g 124000 cs), (A 29, aJ g 124000 (blk nc2 cs k s mo j))] 0 0 := by
    intro k i2 ns2 nc2 hk hi2 hR2 c9
    induction c9 with
    | zero =>
      intro j hj
      obtain rfl : j = 31 - mo := by omega
      have hge : (31 : Int32) ≤ nI (31 - mo) + nI mo := by rw [nI_add]; exact nI_le (a := 31) (by omega) (by omega)
      refine q_iload 5 96 dX12_joins_94 rfl rfl ?_
      refine q_iload_n 2 97 dX12_joins_96 rfl rfl rfl ?_
      refine q_iadd 98 dX12_joins_97 rfl ?_
      refine q_bipush 31 100 dX12_joins_98 bc_31 rfl ?_
      refine q_icmp_ge 139 103 dX12_joins_100 (by decide) rfl (fun h100 => ?_) (fun h100 => absurd hge h100)
      refine q_return dX12_joins_139 rfl ?_
      exact pE.mk (_, _, _) ⟨hi2, hR2⟩ rfl rfl
    | succ c9 ih =>
      intro j hj
      have hlt : ¬ (31 : Int32) ≤ nI j + nI mo := by rw [nI_add]; exact nI_ge (b := 31) (by omega) (by decide)
      have K1 := ih (j + 1) (by omega)
      rw [← blk_s] at K1
      clear ih
      have b1 : 31 * k + j + mo < 124000 := by omega
      have b2 : 31 * s + j < 124000 := by omega
      have e1 : (31 : Int32) * nI k + nI j + nI mo = nI (31 * k + j + mo) := by rw [ix31, nI_add]
      generalize 31 * k + j + mo = k1 at *
      generalize hk2 : 31 * s + j = k2 at *
      generalize blk nc2 cs k s mo j = nc3 at *
      refine q_iload 5 96 dX12_joins_94 rfl rfl ?_
      refine q_iload_n 2 97 dX12_joins_96 rfl rfl rfl ?_
      refine q_iadd 98 dX12_joins_97 rfl ?_
      refine q_bipush 31 100 dX12_joins_98 bc_31 rfl ?_
      refine q_icmp_ge 139 103 dX12_joins_100 (by decide) rfl (fun h100 => absurd h100 hlt) (fun h100 => ?_)
      refine q_aload_n 0 104 dX12_joins_103 rfl rfl rfl ?_
      refine q_getR 0 107 f_X12_64 dX12_joins_104 rfl rfl rfl rfl ?_
      refine q_bipush 31 109 dX12_joins_107 bc_31 rfl ?_
      refine q_iload 4 111 dX12_joins_109 rfl rfl ?_
      refine q_imul 112 dX12_joins_111 rfl ?_
      refine q_iload 5 114 dX12_joins_112 rfl rfl ?_
      refine q_iadd 115 dX12_joins_114 rfl ?_
      refine q_iload_n 2 116 dX12_joins_115 rfl rfl rfl ?_
      refine q_iadd 117 dX12_joins_116 rfl ?_
      rw [e1]
      refine q_dup2 118 dX12_joins_117 rfl rfl rfl ?_
      refine q_lald 4 k1 119 dX12_joins_118 rfl ⟨rfl, by omega, by decide⟩ rfl ?_
      refine q_aload_n 0 120 dX12_joins_119 rfl rfl rfl ?_
      refine q_getR 0 123 f_X12_61 dX12_joins_120 rfl rfl rfl rfl ?_
      refine q_bipush 31 125 dX12_joins_123 bc_31 rfl ?_
      refine q_iload_n 1 126 dX12_joins_125 rfl rfl rfl ?_
      refine q_imul 127 dX12_joins_126 rfl ?_
      refine q_iload 5 129 dX12_joins_127 rfl rfl ?_
      refine q_iadd 130 dX12_joins_129 rfl ?_
      rw [ix31, hk2]
      refine q_lald 3 k2 131 dX12_joins_130 rfl ⟨rfl, by omega, by decide⟩ rfl ?_
      refine q_ladd 132 dX12_joins_131 rfl ?_
      refine q_last 4 k1 133 (w' := [_, _, _, _, _]) dX12_joins_132 rfl ⟨rfl, by omega, by decide⟩ rfl rfl ?_
      refine q_iinc 5 (nI (j + 1)) 136 (L' := [_, _, _, _, _, _]) dX12_joins_133 rfl (inc1 (j)) (by decide) rfl rfl ?_
      refine q_goto 94 dX12_joins_136 (by decide) ?_
      exact K1
  have K54 : ¬ ixC c L < L.length → L.length < 4000 → ∀ (c9 j : Nat), c9 + j = 31 → WPs l g mtX12_joins 3 0 0 (pE (fun z : Sc × Sc × (Nat → Int64) => none) (fun z : Sc × Sc × (Nat → Int64) => [(q, ob 12 z.1 (rM A)), (A 16, aI g 9 x), (A 27, aI g 4000 z.2.1), (A 28, aJ g 124000 cs), (A 29, aJ g 124000 z.2.2)]) (fun z : Sc × Sc × (Nat → Int64) => sm1 i z.1 ∧ RepS (jn c f mo L) (z.1 31) z.2.1 z.2.2)) noX a 54 [some (.ref q), some (.int (nI s)), some (.int (nI mo)), some (.int (nI c)), some (.int (nI L.length)), some (.int (nI j))] [] [(q, ob 12 i (rM A)), (A 16, aI g 9 x), (A 27, aI g 4000 (upd ns L.length (nI c))), (A 28, aJ g 124000 cs), (A 29, aJ g 124000 (clr nc L.length j))] 0 0 := by
    intro hn hl c9
    induction c9 with
    | zero =>
      intro j hj
      obtain rfl : j = 31 := by omega
      have hge : (31 : Int32) ≤ nI 31 := by decide
      have hRn := rep_new hR hc hf hm hn hl
      have e31 : i 31 + 1 = nI (L.length + 1) := by rw [hR.1, nI_1]
      have K1 := K94 L.length (upd i 31 (i 31 + 1)) (upd ns L.length (nI c)) (clr nc L.length 31) hl (fun z hz => pk_un hz) (by rw [pk_us, e31]; exact hRn) (31 - mo) 0 rfl
      rw [blk_0] at K1
      clear K94 hRn
      generalize clr nc L.length 31 = nc9 at *
      refine q_iload 5 56 dX12_joins_54 rfl rfl ?_
      refine q_bipush 31 58 dX12_joins_56 bc_31 rfl ?_
      refine q_icmp_ge 81 61 dX12_joins_58 (by decide) rfl (fun h58 => ?_) (fun h58 => absurd hge h58)
      refine q_aload_n 0 82 dX12_joins_81 rfl rfl rfl ?_
      refine q_dup 83 dX12_joins_82 rfl rfl ?_
      refine q_getI 0 86 f_X12_293 dX12_joins_83 rfl rfl rfl ?_
      refine q_iconst 1 87 dX12_joins_86 ic_1 rfl ?_
      refine q_iadd 88 dX12_joins_87 rfl ?_
      refine q_putI 0 91 (w' := [_, _, _, _, _]) f_X12_293 ft_X12_31 dX12_joins_88 rfl rfl rfl rfl ?_
      refine q_iconst 0 92 dX12_joins_91 ic_0 rfl ?_
      refine q_istore 5 94 (L' := [_, _, _, _, _, _]) dX12_joins_92 (by decide) rfl rfl ?_
      exact K1
    | succ c9 ih =>
      intro j hj
      have hlt : ¬ (31 : Int32) ≤ nI j := nI_ge (b := 31) (by omega) (by decide)
      have K1 := ih (j + 1) (by omega)
      rw [← clr_s] at K1
      clear ih K94
      have b1 : 31 * L.length + j < 124000 := by omega
      generalize hk1 : 31 * L.length + j = k1 at *
      generalize clr nc L.length j = nc3 at *
      refine q_iload 5 56 dX12_joins_54 rfl rfl ?_
      refine q_bipush 31 58 dX12_joins_56 bc_31 rfl ?_
      refine q_icmp_ge 81 61 dX12_joins_58 (by decide) rfl (fun h58 => absurd h58 hlt) (fun h58 => ?_)
      refine q_aload_n 0 62 dX12_joins_61 rfl rfl rfl ?_
      refine q_getR 0 65 f_X12_64 dX12_joins_62 rfl rfl rfl rfl ?_
      refine q_bipush 31 67 dX12_joins_65 bc_31 rfl ?_
      refine q_iload 4 69 dX12_joins_67 rfl rfl ?_
      refine q_imul 70 dX12_joins_69 rfl ?_
      refine q_iload 5 72 dX12_joins_70 rfl rfl ?_
      refine q_iadd 73 dX12_joins_72 rfl ?_
      rw [ix31, hk1]
      refine q_lconst 0 74 dX12_joins_73 (by decide) rfl ?_
      refine q_last 4 k1 75 (w' := [_, _, _, _, _]) dX12_joins_74 rfl ⟨rfl, by omega, by decide⟩ rfl rfl ?_
      refine q_iinc 5 (nI (j + 1)) 78 (L' := [_, _, _, _, _, _]) dX12_joins_75 rfl (inc1 (j)) (by decide) rfl rfl ?_
      refine q_goto 54 dX12_joins_78 (by decide) ?_
      exact K1
  have K34 : ∀ k, k = ixC c L → WPs l g mtX12_joins 3 0 0 (pE (fun z : Sc × Sc × (Nat → Int64) => none) (fun z : Sc × Sc × (Nat → Int64) => [(q, ob 12 z.1 (rM A)), (A 16, aI g 9 x), (A 27, aI g 4000 z.2.1), (A 28, aJ g 124000 cs), (A 29, aJ g 124000 z.2.2)]) (fun z : Sc × Sc × (Nat → Int64) => sm1 i z.1 ∧ RepS (jn c f mo L) (z.1 31) z.2.1 z.2.2)) noX a 34 [some (.ref q), some (.int (nI s)), some (.int (nI mo)), some (.int (nI c)), some (.int (nI k)), none] [] [(q, ob 12 i (rM A)), (A 16, aI g 9 x), (A 27, aI g 4000 ns), (A 28, aJ g 124000 cs), (A 29, aJ g 124000 nc)] 0 0 := by
    intro k hk
    by_cases hi : ixC c L < L.length
    · have hne : ¬ nI k = i 31 := by
        rw [hR.1]
        intro h
        have := (nI_eq (a := k) (b := L.length) (by omega) (by omega)).mp h
        omega
      have K1 := K94 k i ns nc (by omega) (fun _ _ => rfl) (by rw [hk]; exact rep_old hR hc hf hm hi) (31 - mo) 0 rfl
      rw [blk_0] at K1
      clear K94 K54
      refine q_iload 4 36 dX12_joins_34 rfl rfl ?_
      refine q_aload_n 0 37 dX12_joins_36 rfl rfl rfl ?_
      refine q_getI 0 40 f_X12_293 dX12_joins_37 rfl rfl rfl ?_
      refine q_icmp_ne 91 43 dX12_joins_40 (by decide) rfl (fun h40 => ?_) (fun h40 => absurd h40 hne)
      refine q_iconst 0 92 dX12_joins_91 ic_0 rfl ?_
      refine q_istore 5 94 (L' := [_, _, _, _, _, _]) dX12_joins_92 (by decide) rfl rfl ?_
      exact K1
    · have hle := ixC_le c L
      obtain rfl : k = L.length := by omega
      have heq : nI L.length = i 31 := hR.1.symm
      have hl : L.length < 4000 := hL.resolve_left hi
      have K1 := K54 hi hl 31 0 rfl
      rw [clr_0] at K1
      clear K94 K54
      generalize hll : L.length = ll at *
      refine q_iload 4 36 dX12_joins_34 rfl rfl ?_
      refine q_aload_n 0 37 dX12_joins_36 rfl rfl rfl ?_
      refine q_getI 0 40 f_X12_293 dX12_joins_37 rfl rfl rfl ?_
      refine q_icmp_ne 91 43 dX12_joins_40 (by decide) rfl (fun h40 => absurd heq h40) (fun h40 => ?_)
      refine q_aload_n 0 44 dX12_joins_43 rfl rfl rfl ?_
      refine q_getR 0 47 f_X12_57 dX12_joins_44 rfl rfl rfl rfl ?_
      refine q_iload 4 49 dX12_joins_47 rfl rfl ?_
      refine q_iload_n 3 50 dX12_joins_49 rfl rfl rfl ?_
      refine q_iast 2 ll 51 (w' := [_, _, _, _, _]) dX12_joins_50 rfl ⟨rfl, by omega, by decide⟩ rfl rfl ?_
      refine q_iconst 0 52 dX12_joins_51 ic_0 rfl ?_
      refine q_istore 5 54 (L' := [_, _, _, _, _, _]) dX12_joins_52 (by decide) rfl rfl ?_
      exact K1
  have K8 : ∀ (c9 k : Nat), c9 + k = ixC c L → WPs l g mtX12_joins 3 0 0 (pE (fun z : Sc × Sc × (Nat → Int64) => none) (fun z : Sc × Sc × (Nat → Int64) => [(q, ob 12 z.1 (rM A)), (A 16, aI g 9 x), (A 27, aI g 4000 z.2.1), (A 28, aJ g 124000 cs), (A 29, aJ g 124000 z.2.2)]) (fun z : Sc × Sc × (Nat → Int64) => sm1 i z.1 ∧ RepS (jn c f mo L) (z.1 31) z.2.1 z.2.2)) noX a 8 [some (.ref q), some (.int (nI s)), some (.int (nI mo)), some (.int (nI c)), some (.int (nI k)), none] [] [(q, ob 12 i (rM A)), (A 16, aI g 9 x), (A 27, aI g 4000 ns), (A 28, aJ g 124000 cs), (A 29, aJ g 124000 nc)] 0 0 := by
    intro c9
    have hle := ixC_le c L
    induction c9 with
    | zero =>
      intro k hk
      have K1 := K34 k (by omega)
      clear K94 K54 K34
      by_cases hi : ixC c L < L.length
      · have hlt : ¬ i 31 ≤ nI k := by rw [hR.1]; exact nI_ge (by omega) (by omega)
        have heq : ns k = nI c := by rw [(hR.2.2 k (by omega)).1, show k = ixC c L by omega, ixC_eq c L hi]
        refine q_iload 4 10 dX12_joins_8 rfl rfl ?_
        refine q_aload_n 0 11 dX12_joins_10 rfl rfl rfl ?_
        refine q_getI 0 14 f_X12_293 dX12_joins_11 rfl rfl rfl ?_
        refine q_icmp_ge 34 17 dX12_joins_14 (by decide) rfl (fun h14 => absurd h14 hlt) (fun h14 => ?_)
        refine q_aload_n 0 18 dX12_joins_17 rfl rfl rfl ?_
        refine q_getR 0 21 f_X12_57 dX12_joins_18 rfl rfl rfl rfl ?_
        refine q_iload 4 23 dX12_joins_21 rfl rfl ?_
        refine q_iald 2 k 24 dX12_joins_23 rfl ⟨rfl, by omega, by decide⟩ rfl ?_
        refine q_iload_n 3 25 dX12_joins_24 rfl rfl rfl ?_
        refine q_icmp_eq 34 28 dX12_joins_25 (by decide) rfl (fun h25 => ?_) (fun h25 => absurd heq h25)
        exact K1
      · have hge : i 31 ≤ nI k := by rw [hR.1]; exact nI_le (by omega) (by omega)
        refine q_iload 4 10 dX12_joins_8 rfl rfl ?_
        refine q_aload_n 0 11 dX12_joins_10 rfl rfl rfl ?_
        refine q_getI 0 14 f_X12_293 dX12_joins_11 rfl rfl rfl ?_
        refine q_icmp_ge 34 17 dX12_joins_14 (by decide) rfl (fun h14 => ?_) (fun h14 => absurd hge h14)
        exact K1
    | succ c9 ih =>
      intro k hk
      have K1 := ih (k + 1) (by omega)
      clear K94 K54 K34 ih
      have hlt : ¬ i 31 ≤ nI k := by rw [hR.1]; exact nI_ge (by omega) (by omega)
      have hne : ¬ ns k = nI c := by
        obtain ⟨a1, a2, -⟩ := hR.2.2 k (by omega)
        rw [a1]
        intro h
        exact ixC_ne c L k (by omega) ((nI_eq (by omega) (by omega)).mp h)
      refine q_iload 4 10 dX12_joins_8 rfl rfl ?_
      refine q_aload_n 0 11 dX12_joins_10 rfl rfl rfl ?_
      refine q_getI 0 14 f_X12_293 dX12_joins_11 rfl rfl rfl ?_
      refine q_icmp_ge 34 17 dX12_joins_14 (by decide) rfl (fun h14 => absurd h14 hlt) (fun h14 => ?_)
      refine q_aload_n 0 18 dX12_joins_17 rfl rfl rfl ?_
      refine q_getR 0 21 f_X12_57 dX12_joins_18 rfl rfl rfl rfl ?_
      refine q_iload 4 23 dX12_joins_21 rfl rfl ?_
      refine q_iald 2 k 24 dX12_joins_23 rfl ⟨rfl, by omega, by decide⟩ rfl ?_
      refine q_iload_n 3 25 dX12_joins_24 rfl rfl rfl ?_
      refine q_icmp_eq 34 28 dX12_joins_25 (by decide) rfl (fun h25 => absurd h25 hne) (fun h25 => ?_)
      refine q_iinc 4 (nI (k + 1)) 31 (L' := [_, _, _, _, _, _]) dX12_joins_28 rfl (inc1 (k)) (by decide) rfl rfl ?_
      refine q_goto 8 dX12_joins_31 (by decide) ?_
      exact K1
  have K1 := K8 (ixC c L) 0 rfl
  clear K94 K54 K34 K8
  refine q_aload_n 0 1 dX12_joins_0 rfl rfl rfl ?_
  refine q_cVi 0 [0, 1] [2, 3, 4] [3, 4, 0, 1, 2] 4 (wr := [_, _, _]) (w1 := _) (ws' := [_, _, _, _, _]) p_whole m_X12_290 dX12_joins_1 rfl rfl rfl rfl rfl rfl rfl rfl (by decide) (by decide) (by decide) (by decide) (Nat.le_of_ble_eq_true rfl) (by omega) (by omega) (by omega) rfl ?_
  rw [hx]
  refine q_istore_n 3 5 (L' := [_, _, _, _, _, _]) dX12_joins_4 rfl (by decide) rfl rfl ?_
  refine q_iconst 0 6 dX12_joins_5 ic_0 rfl ?_
  refine q_istore 4 8 (L' := [_, _, _, _, _, _]) dX12_joins_6 (by decide) rfl rfl ?_
  exact K1

