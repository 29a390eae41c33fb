/-! ===== the reference: one object (class 12) with its arrays; A k is the address of the array in field k ===== -/
abbrev rM (A : Nat → Nat) : List (Option Nat) := [none, some (A 1), some (A 2), none, some (A 4), some (A 5), none, none, none, none, none, none, some (A 12), none, none, none, some (A 16), none, none, some (A 19), some (A 20), some (A 21), some (A 22), some (A 23), some (A 24), some (A 25), some (A 26), some (A 27), some (A 28), some (A 29), none, none]
def rIn (v lo hi : Int32) : Int32 := if lo ≤ v ∧ v ≤ hi then 1 else 0
theorem rIn_or (v lo hi : Int32) : rIn v lo hi = 0 ∨ rIn v lo hi = 1 := by unfold rIn; split <;> simp
theorem c_isIn {l : Launch} {g : Gh} {v lo hi : Int32} : Cp l g yX12_isIn (Cond.code yX12_isIn cX12_isIn 3 (some .boolean)) 1 [.int v, .int lo, .int hi] [] (some (.int (rIn v lo hi))) [] := by
  refine ct_of (M := mtX12_isIn) [some (.int v), some (.int lo), some (.int hi)] rfl (by decide) (Nat.le_of_ble_eq_true rfl) (fun _ h => h) (fun a => ?_)
  refine q_iload_n 0 1 dX12_isIn_0 rfl rfl rfl ?_
  refine q_iload_n 1 2 dX12_isIn_1 rfl rfl rfl ?_
  refine q_icmp_lt 14 5 dX12_isIn_2 (by decide) rfl (fun h2 => ?_) (fun h2 => ?_)
  · refine q_iconst 0 15 dX12_isIn_14 ic_0 rfl ?_
    refine q_zreturn dX12_isIn_15 rfl (Or.inl rfl) ?_
    exact pR.mk (by unfold rIn; split <;> first | rfl | (exfalso; (try simp only [i_lt, i_le, i_eq, Int32.reduceToInt] at *); omega)) rfl
  · refine q_iload_n 0 6 dX12_isIn_5 rfl rfl rfl ?_
    refine q_iload_n 2 7 dX12_isIn_6 rfl rfl rfl ?_
    refine q_icmp_gt 14 10 dX12_isIn_7 (by decide) rfl (fun h7 => ?_) (fun h7 => ?_)
    · refine q_iconst 0 15 dX12_isIn_14 ic_0 rfl ?_
      refine q_zreturn dX12_isIn_15 rfl (Or.inl rfl) ?_
      exact pR.mk (by unfold rIn; split <;> first | rfl | (exfalso; (try simp only [i_lt, i_le, i_eq, Int32.reduceToInt] at *); omega)) rfl
    · refine q_iconst 1 11 dX12_isIn_10 ic_1 rfl ?_
      refine q_goto 15 dX12_isIn_11 (by decide) ?_
      refine q_zreturn dX12_isIn_15 rfl (Or.inr rfl) ?_
      exact pR.mk (by unfold rIn; split <;> first | rfl | (exfalso; (try simp only [i_lt, i_le, i_eq, Int32.reduceToInt] at *); omega)) rfl
theorem c_isPlayer {l : Launch} {g : Gh} {v : Int32} : Cp l g yX12_isPlayer (Cond.code yX12_isPlayer cX12_isPlayer 1 (some .boolean)) 2 [.int v] [] (some (.int (rIn v 0 1))) [] := by
  refine ct_of (M := mtX12_isPlayer) [some (.int v)] rfl (by decide) (Nat.le_of_ble_eq_true rfl) (fun _ h => h) (fun a => ?_)
  refine q_iload_n 0 1 dX12_isPlayer_0 rfl rfl rfl ?_
  refine q_iconst 0 2 dX12_isPlayer_1 ic_0 rfl ?_
  refine q_iconst 1 3 dX12_isPlayer_2 ic_1 rfl ?_
  refine q_cSi [] [] [] 6 (wr := []) (w1 := _) (ws' := []) c_isIn m_X12_70 dX12_isPlayer_3 rfl rfl rfl rfl rfl (by decide) (by decide) (by decide) (by decide) (Nat.le_of_ble_eq_true rfl) (by omega) (by omega) (by omega) rfl ?_
  refine q_zreturn dX12_isPlayer_6 rfl (rIn_or _ _ _) ?_
  exact pR.rf
def rWin (x y : Int32) : Int32 := if 4 ≤ x + 1 ∧ 2 ≤ x + 1 - y then 1 else 0
theorem rWin_or (x y : Int32) : rWin x y = 0 ∨ rWin x y = 1 := by unfold rWin; split <;> simp
theorem c_wouldWin {l : Launch} {g : Gh} {q : Nat} {A : Nat → Nat} {i : Nat → Int32} {x : Sc} {p : Int32} (hp : p = 0 ∨ p = 1) : Cp l g yX12_wouldWin (Cond.code yX12_wouldWin cX12_wouldWin 2 (some .boolean)) 1 [.ref q, .int p] [(q, ob 12 i (rM A)), (A 16, aI g 9 x)] (some (.int (rWin (sMine x p) (sHis x p)))) [(q, ob 12 i (rM A)), (A 16, aI g 9 x)] := by
  refine ct_of (M := mtX12_wouldWin) [some (.ref q), some (.int p)] rfl (by decide) (Nat.le_of_ble_eq_true rfl) (fun _ h => h) (fun a => ?_)
  rcases hp with rfl | rfl
  · skip
    refine q_aload_n 0 1 dX12_wouldWin_0 rfl rfl rfl ?_
    refine q_getR 0 4 f_X12_29 dX12_wouldWin_1 rfl rfl rfl rfl ?_
    refine q_iload_n 1 5 dX12_wouldWin_4 rfl rfl rfl ?_
    refine q_iald 1 0 6 dX12_wouldWin_5 rfl ⟨by decide, by decide, by decide⟩ rfl ?_
    refine q_iconst 1 7 dX12_wouldWin_6 ic_1 rfl ?_
    refine q_iadd 8 dX12_wouldWin_7 rfl ?_
    refine q_iconst 4 9 dX12_wouldWin_8 ic_4 rfl ?_
    refine q_icmp_lt 37 12 dX12_wouldWin_9 (by decide) rfl (fun h9 => ?_) (fun h9 => ?_)
    · refine q_iconst 0 38 dX12_wouldWin_37 ic_0 rfl ?_
      refine q_zreturn dX12_wouldWin_38 rfl (Or.inl rfl) ?_
      exact pR.mk (by show _ = some (Value.int (rWin (x 0) (x 1))); unfold rWin; split <;> first | rfl | (exfalso; (try simp only [i_lt, i_le, i_eq, Int32.reduceToInt] at *); omega)) rfl
    · refine q_aload_n 0 13 dX12_wouldWin_12 rfl rfl rfl ?_
      refine q_getR 0 16 f_X12_29 dX12_wouldWin_13 rfl rfl rfl rfl ?_
      refine q_iload_n 1 17 dX12_wouldWin_16 rfl rfl rfl ?_
      refine q_iald 1 0 18 dX12_wouldWin_17 rfl ⟨by decide, by decide, by decide⟩ rfl ?_
      refine q_iconst 1 19 dX12_wouldWin_18 ic_1 rfl ?_
      refine q_iadd 20 dX12_wouldWin_19 rfl ?_
      refine q_aload_n 0 21 dX12_wouldWin_20 rfl rfl rfl ?_
      refine q_getR 0 24 f_X12_29 dX12_wouldWin_21 rfl rfl rfl rfl ?_
      refine q_iconst 1 25 dX12_wouldWin_24 ic_1 rfl ?_
      refine q_iload_n 1 26 dX12_wouldWin_25 rfl rfl rfl ?_
      refine q_isub 27 dX12_wouldWin_26 rfl ?_
      refine q_iald 1 1 28 dX12_wouldWin_27 rfl ⟨by decide, by decide, by decide⟩ rfl ?_
      refine q_isub 29 dX12_wouldWin_28 rfl ?_
      refine q_iconst 2 30 dX12_wouldWin_29 ic_2 rfl ?_
      refine q_icmp_lt 37 33 dX12_wouldWin_30 (by decide) rfl (fun h30 => ?_) (fun h30 => ?_)
      · refine q_iconst 0 38 dX12_wouldWin_37 ic_0 rfl ?_
        refine q_zreturn dX12_wouldWin_38 rfl (Or.inl rfl) ?_
        exact pR.mk (by show _ = some (Value.int (rWin (x 0) (x 1))); unfold rWin; split <;> first | rfl | (exfalso; (try simp only [i_lt, i_le, i_eq, Int32.reduceToInt] at *); omega)) rfl
      · refine q_iconst 1 34 dX12_wouldWin_33 ic_1 rfl ?_
        refine q_goto 38 dX12_wouldWin_34 (by decide) ?_
        refine q_zreturn dX12_wouldWin_38 rfl (Or.inr rfl) ?_
        exact pR.mk (by show _ = some (Value.int (rWin (x 0) (x 1))); unfold rWin; split <;> first | rfl | (exfalso; (try simp only [i_lt, i_le, i_eq, Int32.reduceToInt] at *); omega)) rfl
  · skip
    refine q_aload_n 0 1 dX12_wouldWin_0 rfl rfl rfl ?_
    refine q_getR 0 4 f_X12_29 dX12_wouldWin_1 rfl rfl rfl rfl ?_
    refine q_iload_n 1 5 dX12_wouldWin_4 rfl rfl rfl ?_
    refine q_iald 1 1 6 dX12_wouldWin_5 rfl ⟨by decide, by decide, by decide⟩ rfl ?_
    refine q_iconst 1 7 dX12_wouldWin_6 ic_1 rfl ?_
    refine q_iadd 8 dX12_wouldWin_7 rfl ?_
    refine q_iconst 4 9 dX12_wouldWin_8 ic_4 rfl ?_
    refine q_icmp_lt 37 12 dX12_wouldWin_9 (by decide) rfl (fun h9 => ?_) (fun h9 => ?_)
    · refine q_iconst 0 38 dX12_wouldWin_37 ic_0 rfl ?_
      refine q_zreturn dX12_wouldWin_38 rfl (Or.inl rfl) ?_
      exact pR.mk (by show _ = some (Value.int (rWin (x 1) (x 0))); unfold rWin; split <;> first | rfl | (exfalso; (try simp only [i_lt, i_le, i_eq, Int32.reduceToInt] at *); omega)) rfl
    · refine q_aload_n 0 13 dX12_wouldWin_12 rfl rfl rfl ?_
      refine q_getR 0 16 f_X12_29 dX12_wouldWin_13 rfl rfl rfl rfl ?_
      refine q_iload_n 1 17 dX12_wouldWin_16 rfl rfl rfl ?_
      refine q_iald 1 1 18 dX12_wouldWin_17 rfl ⟨by decide, by decide, by decide⟩ rfl ?_
      refine q_iconst 1 19 dX12_wouldWin_18 ic_1 rfl ?_
      refine q_iadd 20 dX12_wouldWin_19 rfl ?_
      refine q_aload_n 0 21 dX12_wouldWin_20 rfl rfl rfl ?_
      refine q_getR 0 24 f_X12_29 dX12_wouldWin_21 rfl rfl rfl rfl ?_
      refine q_iconst 1 25 dX12_wouldWin_24 ic_1 rfl ?_
      refine q_iload_n 1 26 dX12_wouldWin_25 rfl rfl rfl ?_
      refine q_isub 27 dX12_wouldWin_26 rfl ?_
      refine q_iald 1 0 28 dX12_wouldWin_27 rfl ⟨by decide, by decide, by decide⟩ rfl ?_
      refine q_isub 29 dX12_wouldWin_28 rfl ?_
      refine q_iconst 2 30 dX12_wouldWin_29 ic_2 rfl ?_
      refine q_icmp_lt 37 33 dX12_wouldWin_30 (by decide) rfl (fun h30 => ?_) (fun h30 => ?_)
      · refine q_iconst 0 38 dX12_wouldWin_37 ic_0 rfl ?_
        refine q_zreturn dX12_wouldWin_38 rfl (Or.inl rfl) ?_
        exact pR.mk (by show _ = some (Value.int (rWin (x 1) (x 0))); unfold rWin; split <;> first | rfl | (exfalso; (try simp only [i_lt, i_le, i_eq, Int32.reduceToInt] at *); omega)) rfl
      · refine q_iconst 1 34 dX12_wouldWin_33 ic_1 rfl ?_
        refine q_goto 38 dX12_wouldWin_34 (by decide) ?_
        refine q_zreturn dX12_wouldWin_38 rfl (Or.inr rfl) ?_
        exact pR.mk (by show _ = some (Value.int (rWin (x 1) (x 0))); unfold rWin; split <;> first | rfl | (exfalso; (try simp only [i_lt, i_le, i_eq, Int32.reduceToInt] at *); omega)) rfl
def rOver (m x : Sc) : Int32 := if m 194 ≤ x 7 ∨ m 194 ≤ x 8 then 1 else 0
theorem rOver_or (m x : Sc) : rOver m x = 0 ∨ rOver m x = 1 := by unfold rOver; split <;> simp
theorem c_M_isOver {l : Launch} {g : Gh} {q : Nat} {A : Nat → Nat} {i : Nat → Int32} {m x : Sc} : Cp l g yX12_isOver (Cond.code yX12_isOver cX12_isOver 1 (some .boolean)) 1 [.ref q] [(q, ob 12 i (rM A)), (A 1, aI g 2616 m), (A 16, aI g 9 x)] (some (.int (rOver m x))) [(q, ob 12 i (rM A)), (A 1, aI g 2616 m), (A 16, aI g 9 x)] := by
  refine ct_of (M := mtX12_isOver) [some (.ref q)] rfl (by decide) (Nat.le_of_ble_eq_true rfl) (fun _ h => h) (fun a => ?_)
  refine q_aload_n 0 1 dX12_isOver_0 rfl rfl rfl ?_
  refine q_getR 0 4 f_X12_29 dX12_isOver_1 rfl rfl rfl rfl ?_
  refine q_bipush 7 6 dX12_isOver_4 bc_7 rfl ?_
  refine q_iald 2 7 7 dX12_isOver_6 rfl ⟨by decide, by decide, by decide⟩ rfl ?_
  refine q_aload_n 0 8 dX12_isOver_7 rfl rfl rfl ?_
  refine q_getR 0 11 f_X12_7 dX12_isOver_8 rfl rfl rfl rfl ?_
  refine q_sipush 194 14 dX12_isOver_11 sc_194 rfl ?_
  refine q_iald 1 194 15 dX12_isOver_14 rfl ⟨by decide, by decide, by decide⟩ rfl ?_
  refine q_icmp_ge 36 18 dX12_isOver_15 (by decide) rfl (fun h15 => ?_) (fun h15 => ?_)
  · refine q_iconst 1 37 dX12_isOver_36 ic_1 rfl ?_
    refine q_goto 41 dX12_isOver_37 (by decide) ?_
    refine q_zreturn dX12_isOver_41 rfl (Or.inr rfl) ?_
    exact pR.mk (by unfold rOver; split <;> first | rfl | (exfalso; (try simp only [i_lt, i_le, i_eq, Int32.reduceToInt] at *); omega)) rfl
  · refine q_aload_n 0 19 dX12_isOver_18 rfl rfl rfl ?_
    refine q_getR 0 22 f_X12_29 dX12_isOver_19 rfl rfl rfl rfl ?_
    refine q_bipush 8 24 dX12_isOver_22 bc_8 rfl ?_
    refine q_iald 2 8 25 dX12_isOver_24 rfl ⟨by decide, by decide, by decide⟩ rfl ?_
    refine q_aload_n 0 26 dX12_isOver_25 rfl rfl rfl ?_
    refine q_getR 0 29 f_X12_7 dX12_isOver_26 rfl rfl rfl rfl ?_
    refine q_sipush 194 32 dX12_isOver_29 sc_194 rfl ?_
    refine q_iald 1 194 33 dX12_isOver_32 rfl ⟨by decide, by decide, by decide⟩ rfl ?_
    refine q_icmp_lt 40 36 dX12_isOver_33 (by decide) rfl (fun h33 => ?_) (fun h33 => ?_)
    · refine q_iconst 0 41 dX12_isOver_40 ic_0 rfl ?_
      refine q_zreturn dX12_isOver_41 rfl (Or.inl rfl) ?_
      exact pR.mk (by unfold rOver; split <;> first | rfl | (exfalso; (try simp only [i_lt, i_le, i_eq, Int32.reduceToInt] at *); omega)) rfl
    · refine q_iconst 1 37 dX12_isOver_36 ic_1 rfl ?_
      refine q_goto 41 dX12_isOver_37 (by decide) ?_
      refine q_zreturn dX12_isOver_41 rfl (Or.inr rfl) ?_
      exact pR.mk (by unfold rOver; split <;> first | rfl | (exfalso; (try simp only [i_lt, i_le, i_eq, Int32.reduceToInt] at *); omega)) rfl
/-! a point -/
theorem sMine_0 (s : Sc) : sMine s 0 = s 0 := if_pos rfl
theorem sHis_0 (s : Sc) : sHis s 0 = s 1 := if_pos rfl
theorem sMine_1 (s : Sc) : sMine s 1 = s 1 := if_neg (by decide)
theorem sHis_1 (s : Sc) : sHis s 1 = s 0 := if_neg (by decide)
theorem sBump_0 (s : Sc) : sBump s 0 = upd s 7 (s 7 + 1) := if_pos rfl
theorem sBump_1 (s : Sc) : sBump s 1 = upd s 8 (s 8 + 1) := if_neg (by decide)
theorem sPt0_0 (s : Sc) : sPt0 s 0 = upd s 0 (s 0 + 1) := if_pos rfl
theorem sPt0_1 (s : Sc) : sPt0 s 1 = upd s 1 (s 1 + 1) := if_neg (by decide)
def rRestart (m x : Sc) : Sc := upd (upd (upd (upd x 0 (-(m 197))) 1 (m 198)) 3 0) 6 0
def rPtE (m t : Sc) (p : Int32) : Sc := if sWins t p = 0 then t else rRestart m (sBump t p)
def rPt (m x : Sc) (p : Int32) : Sc := rPtE m (sPt1 (sPt0 x p)) p
def iPtE (i t : Sc) (p : Int32) : Sc := if sWins t p = 0 then i else upd i 17 p
def iPt (i x : Sc) (p : Int32) : Sc := iPtE (upd i 18 p) (sPt1 (sPt0 x p)) p
theorem c_M_point {l : Launch} {g : Gh} {q : Nat} {A : Nat → Nat} {i : Nat → Int32} {m x : Sc} {p : Int32} (hp : p = 0 ∨ p = 1) : Cp l g yX12_point (Cond.code yX12_point cX12_point 2 none) 1 [.ref q, .int p] [(q, ob 12 i (rM A)), (A 1, aI g 2616 m), (A 16, aI g 9 x)] none [(q, ob 12 (iPt i x p) (rM A)), (A 1, aI g 2616 m), (A 16, aI g 9 (rPt m x p))] := by
  refine ct_of (M := mtX12_point) [some (.ref q), some (.int p)] rfl (by decide) (Nat.le_of_ble_eq_true rfl) (fun _ h => h) (fun a => ?_)
  have K49 : ∀ (j t : Sc), WPs l g mtX12_point 1 0 0 (pR none [(q, ob 12 (iPtE j t p) (rM A)), (A 1, aI g 2616 m), (A 16, aI g 9 (rPtE m t p))]) noX a 49 [some (.ref q), some (.int p)] [] [(q, ob 12 j (rM A)), (A 1, aI g 2616 m), (A 16, aI g 9 t)] 0 0 := by
    intro j t
    rcases hp with rfl | rfl
    · skip
      refine q_aload_n 0 50 dX12_point_49 rfl rfl rfl ?_
      refine q_getR 0 53 f_X12_29 dX12_point_50 rfl rfl rfl rfl ?_
      refine q_iload_n 1 54 dX12_point_53 rfl rfl rfl ?_
      refine q_iald 2 0 55 dX12_point_54 rfl ⟨by decide, by decide, by decide⟩ rfl ?_
      refine q_iconst 4 56 dX12_point_55 ic_4 rfl ?_
      refine q_icmp_lt 78 59 dX12_point_56 (by decide) rfl (fun h56 => ?_) (fun h56 => ?_)
      · refine q_return dX12_point_78 rfl ?_
        have e : sWins t 0 = 0 := by
          simp only [sWins, sMine_0, sHis_0]
          split <;> first | rfl | (exfalso; (try simp only [i_lt, i_le, i_eq, Int32.reduceToInt] at *); omega)
        exact pR.mk rfl (by simp only [iPtE, rPtE, e, if_true])
      · refine q_aload_n 0 60 dX12_point_59 rfl rfl rfl ?_
        refine q_getR 0 63 f_X12_29 dX12_point_60 rfl rfl rfl rfl ?_
        refine q_iload_n 1 64 dX12_point_63 rfl rfl rfl ?_
        refine q_iald 2 0 65 dX12_point_64 rfl ⟨by decide, by decide, by decide⟩ rfl ?_
        refine q_aload_n 0 66 dX12_point_65 rfl rfl rfl ?_
        refine q_getR 0 69 f_X12_29 dX12_point_66 rfl rfl rfl rfl ?_
        refine q_iconst 1 70 dX12_point_69 ic_1 rfl ?_
        refine q_iload_n 1 71 dX12_point_70 rfl rfl rfl ?_
        refine q_isub 72 dX12_point_71 rfl ?_
        refine q_iald 2 1 73 dX12_point_72 rfl ⟨by decide, by decide, by decide⟩ rfl ?_
        refine q_isub 74 dX12_point_73 rfl ?_
        refine q_iconst 2 75 dX12_point_74 ic_2 rfl ?_
        refine q_icmp_ge 79 78 dX12_point_75 (by decide) rfl (fun h75 => ?_) (fun h75 => ?_)
        · refine q_aload_n 0 80 dX12_point_79 rfl rfl rfl ?_
          refine q_iload_n 1 81 dX12_point_80 rfl rfl rfl ?_
          refine q_putI 0 84 (w' := [_, _, _]) f_X12_215 ft_X12_17 dX12_point_81 rfl rfl rfl rfl ?_
          refine q_aload_n 0 85 dX12_point_84 rfl rfl rfl ?_
          refine q_getR 0 88 f_X12_29 dX12_point_85 rfl rfl rfl rfl ?_
          refine q_bipush 7 90 dX12_point_88 bc_7 rfl ?_
          refine q_iload_n 1 91 dX12_point_90 rfl rfl rfl ?_
          refine q_iadd 92 dX12_point_91 rfl ?_
          refine q_dup2 93 dX12_point_92 rfl rfl rfl ?_
          refine q_iald 2 7 94 dX12_point_93 rfl ⟨by decide, by decide, by decide⟩ rfl ?_
          refine q_iconst 1 95 dX12_point_94 ic_1 rfl ?_
          refine q_iadd 96 dX12_point_95 rfl ?_
          refine q_iast 2 7 97 (w' := [_, _, _]) dX12_point_96 rfl ⟨by decide, by decide, by decide⟩ rfl rfl ?_
          refine q_aload_n 0 98 dX12_point_97 rfl rfl rfl ?_
          refine q_getR 0 101 f_X12_29 dX12_point_98 rfl rfl rfl rfl ?_
          refine q_iconst 0 102 dX12_point_101 ic_0 rfl ?_
          refine q_aload_n 0 103 dX12_point_102 rfl rfl rfl ?_
          refine q_getR 0 106 f_X12_7 dX12_point_103 rfl rfl rfl rfl ?_
          refine q_sipush 197 109 dX12_point_106 sc_197 rfl ?_
          refine q_iald 1 197 110 dX12_point_109 rfl ⟨by decide, by decide, by decide⟩ rfl ?_
          refine q_ineg 111 dX12_point_110 rfl ?_
          refine q_iast 2 0 112 (w' := [_, _, _]) dX12_point_111 rfl ⟨by decide, by decide, by decide⟩ rfl rfl ?_
          refine q_aload_n 0 113 dX12_point_112 rfl rfl rfl ?_
          refine q_getR 0 116 f_X12_29 dX12_point_113 rfl rfl rfl rfl ?_
          refine q_iconst 1 117 dX12_point_116 ic_1 rfl ?_
          refine q_aload_n 0 118 dX12_point_117 rfl rfl rfl ?_
          refine q_getR 0 121 f_X12_7 dX12_point_118 rfl rfl rfl rfl ?_
          refine q_sipush 198 124 dX12_point_121 sc_198 rfl ?_
          refine q_iald 1 198 125 dX12_point_124 rfl ⟨by decide, by decide, by decide⟩ rfl ?_
          refine q_iast 2 1 126 (w' := [_, _, _]) dX12_point_125 rfl ⟨by decide, by decide, by decide⟩ rfl rfl ?_
          refine q_aload_n 0 127 dX12_point_126 rfl rfl rfl ?_
          refine q_getR 0 130 f_X12_29 dX12_point_127 rfl rfl rfl rfl ?_
          refine q_iconst 3 131 dX12_point_130 ic_3 rfl ?_
          refine q_iconst 0 132 dX12_point_131 ic_0 rfl ?_
          refine q_iast 2 3 133 (w' := [_, _, _]) dX12_point_132 rfl ⟨by decide, by decide, by decide⟩ rfl rfl ?_
          refine q_aload_n 0 134 dX12_point_133 rfl rfl rfl ?_
          refine q_getR 0 137 f_X12_29 dX12_point_134 rfl rfl rfl rfl ?_
          refine q_bipush 6 139 dX12_point_137 bc_6 rfl ?_
          refine q_iconst 0 140 dX12_point_139 ic_0 rfl ?_
          refine q_iast 2 6 141 (w' := [_, _, _]) dX12_point_140 rfl ⟨by decide, by decide, by decide⟩ rfl rfl ?_
          refine q_return dX12_point_141 rfl ?_
          have e : sWins t 0 = 1 := by
            simp only [sWins, sMine_0, sHis_0]
            split <;> first | rfl | (exfalso; (try simp only [i_lt, i_le, i_eq, Int32.reduceToInt] at *); omega)
          exact pR.mk rfl (by simp only [iPtE, rPtE, e, sBump_0]; rfl)
        · refine q_return dX12_point_78 rfl ?_
          have e : sWins t 0 = 0 := by
            simp only [sWins, sMine_0, sHis_0]
            split <;> first | rfl | (exfalso; (try simp only [i_lt, i_le, i_eq, Int32.reduceToInt] at *); omega)
          exact pR.mk rfl (by simp only [iPtE, rPtE, e, if_true])
    · skip
      refine q_aload_n 0 50 dX12_point_49 rfl rfl rfl ?_
      refine q_getR 0 53 f_X12_29 dX12_point_50 rfl rfl rfl rfl ?_
      refine q_iload_n 1 54 dX12_point_53 rfl rfl rfl ?_
      refine q_iald 2 1 55 dX12_point_54 rfl ⟨by decide, by decide, by decide⟩ rfl ?_
      refine q_iconst 4 56 dX12_point_55 ic_4 rfl ?_
      refine q_icmp_lt 78 59 dX12_point_56 (by decide) rfl (fun h56 => ?_) (fun h56 => ?_)
      · refine q_return dX12_point_78 rfl ?_
        have e : sWins t 1 = 0 := by
          simp only [sWins, sMine_1, sHis_1]
          split <;> first | rfl | (exfalso; (try simp only [i_lt, i_le, i_eq, Int32.reduceToInt] at *); omega)
        exact pR.mk rfl (by simp only [iPtE, rPtE, e, if_true])
      · refine q_aload_n 0 60 dX12_point_59 rfl rfl rfl ?_
        refine q_getR 0 63 f_X12_29 dX12_point_60 rfl rfl rfl rfl ?_
        refine q_iload_n 1 64 dX12_point_63 rfl rfl rfl ?_
        refine q_iald 2 1 65 dX12_point_64 rfl ⟨by decide, by decide, by decide⟩ rfl ?_
        refine q_aload_n 0 66 dX12_point_65 rfl rfl rfl ?_
        refine q_getR 0 69 f_X12_29 dX12_point_66 rfl rfl rfl rfl ?_
        refine q_iconst 1 70 dX12_point_69 ic_1 rfl ?_
        refine q_iload_n 1 71 dX12_point_70 rfl rfl rfl ?_
        refine q_isub 72 dX12_point_71 rfl ?_
        refine q_iald 2 0 73 dX12_point_72 rfl ⟨by decide, by decide, by decide⟩ rfl ?_
        refine q_isub 74 dX12_point_73 rfl ?_
        refine q_iconst 2 75 dX12_point_74 ic_2 rfl ?_
        refine q_icmp_ge 79 78 dX12_point_75 (by decide) rfl (fun h75 => ?_) (fun h75 => ?_)
        · refine q_aload_n 0 80 dX12_point_79 rfl rfl rfl ?_
          refine q_iload_n 1 81 dX12_point_80 rfl rfl rfl ?_
          refine q_putI 0 84 (w' := [_, _, _]) f_X12_215 ft_X12_17 dX12_point_81 rfl rfl rfl rfl ?_
          refine q_aload_n 0 85 dX12_point_84 rfl rfl rfl ?_
          refine q_getR 0 88 f_X12_29 dX12_point_85 rfl rfl rfl rfl ?_
          refine q_bipush 7 90 dX12_point_88 bc_7 rfl ?_
          refine q_iload_n 1 91 dX12_point_90 rfl rfl rfl ?_
          refine q_iadd 92 dX12_point_91 rfl ?_
          refine q_dup2 93 dX12_point_92 rfl rfl rfl ?_
          refine q_iald 2 8 94 dX12_point_93 rfl ⟨by decide, by decide, by decide⟩ rfl ?_
          refine q_iconst 1 95 dX12_point_94 ic_1 rfl ?_
          refine q_iadd 96 dX12_point_95 rfl ?_
          refine q_iast 2 8 97 (w' := [_, _, _]) dX12_point_96 rfl ⟨by decide, by decide, by decide⟩ rfl rfl ?_
          refine q_aload_n 0 98 dX12_point_97 rfl rfl rfl ?_
          refine q_getR 0 101 f_X12_29 dX12_point_98 rfl rfl rfl rfl ?_
          refine q_iconst 0 102 dX12_point_101 ic_0 rfl ?_
          refine q_aload_n 0 103 dX12_point_102 rfl rfl rfl ?_
          refine q_getR 0 106 f_X12_7 dX12_point_103 rfl rfl rfl rfl ?_
          refine q_sipush 197 109 dX12_point_106 sc_197 rfl ?_
          refine q_iald 1 197 110 dX12_point_109 rfl ⟨by decide, by decide, by decide⟩ rfl ?_
          refine q_ineg 111 dX12_point_110 rfl ?_
          refine q_iast 2 0 112 (w' := [_, _, _]) dX12_point_111 rfl ⟨by decide, by decide, by decide⟩ rfl rfl ?_
          refine q_aload_n 0 113 dX12_point_112 rfl rfl rfl ?_
          refine q_getR 0 116 f_X12_29 dX12_point_113 rfl rfl rfl rfl ?_
          refine q_iconst 1 117 dX12_point_116 ic_1 rfl ?_
          refine q_aload_n 0 118 dX12_point_117 rfl rfl rfl ?_
          refine q_getR 0 121 f_X12_7 dX12_point_118 rfl rfl rfl rfl ?_
          refine q_sipush 198 124 dX12_point_121 sc_198 rfl ?_
          refine q_iald 1 198 125 dX12_point_124 rfl ⟨by decide, by decide, by decide⟩ rfl ?_
          refine q_iast 2 1 126 (w' := [_, _, _]) dX12_point_125 rfl ⟨by decide, by decide, by decide⟩ rfl rfl ?_
          refine q_aload_n 0 127 dX12_point_126 rfl rfl rfl ?_
          refine q_getR 0 130 f_X12_29 dX12_point_127 rfl rfl rfl rfl ?_
          refine q_iconst 3 131 dX12_point_130 ic_3 rfl ?_
          refine q_iconst 0 132 dX12_point_131 ic_0 rfl ?_
          refine q_iast 2 3 133 (w' := [_, _, _]) dX12_point_132 rfl ⟨by decide, by decide, by decide⟩ rfl rfl ?_
          refine q_aload_n 0 134 dX12_point_133 rfl rfl rfl ?_
          refine q_getR 0 137 f_X12_29 dX12_point_134 rfl rfl rfl rfl ?_
          refine q_bipush 6 139 dX12_point_137 bc_6 rfl ?_
          refine q_iconst 0 140 dX12_point_139 ic_0 rfl ?_
          refine q_iast 2 6 141 (w' := [_, _, _]) dX12_point_140 rfl ⟨by decide, by decide, by decide⟩ rfl rfl ?_
          refine q_return dX12_point_141 rfl ?_
          have e : sWins t 1 = 1 := by
            simp only [sWins, sMine_1, sHis_1]
            split <;> first | rfl | (exfalso; (try simp only [i_lt, i_le, i_eq, Int32.reduceToInt] at *); omega)
          exact pR.mk rfl (by simp only [iPtE, rPtE, e, sBump_1]; rfl)
        · refine q_return dX12_point_78 rfl ?_
          have e : sWins t 1 = 0 := by
            simp only [sWins, sMine_1, sHis_1]
            split <;> first | rfl | (exfalso; (try simp only [i_lt, i_le, i_eq, Int32.reduceToInt] at *); omega)
          exact pR.mk rfl (by simp only [iPtE, rPtE, e, if_true])
  have K15 : ∀ (j t : Sc), WPs l g mtX12_point 1 0 0 (pR none [(q, ob 12 (iPtE j (sPt1 t) p) (rM A)), (A 1, aI g 2616 m), (A 16, aI g 9 (rPtE m (sPt1 t) p))]) noX a 15 [some (.ref q), some (.int p)] [] [(q, ob 12 j (rM A)), (A 1, aI g 2616 m), (A 16, aI g 9 t)] 0 0 := by
    intro j t
    by_cases hc : t 0 = 4 ∧ t 1 = 4
    · rw [show sPt1 t = upd (upd t 0 3) 1 3 from if_pos hc]
      refine q_aload_n 0 16 dX12_point_15 rfl rfl rfl ?_
      refine q_getR 0 19 f_X12_29 dX12_point_16 rfl rfl rfl rfl ?_
      refine q_iconst 0 20 dX12_point_19 ic_0 rfl ?_
      refine q_iald 2 0 21 dX12_point_20 rfl ⟨by decide, by decide, by decide⟩ rfl ?_
      refine q_iconst 4 22 dX12_point_21 ic_4 rfl ?_
      refine q_icmp_ne 49 25 dX12_point_22 (by decide) rfl (fun h22 => absurd hc.1 h22) (fun h22 => ?_)
      refine q_aload_n 0 26 dX12_point_25 rfl rfl rfl ?_
      refine q_getR 0 29 f_X12_29 dX12_point_26 rfl rfl rfl rfl ?_
      refine q_iconst 1 30 dX12_point_29 ic_1 rfl ?_
      refine q_iald 2 1 31 dX12_point_30 rfl ⟨by decide, by decide, by decide⟩ rfl ?_
      refine q_iconst 4 32 dX12_point_31 ic_4 rfl ?_
      refine q_icmp_ne 49 35 dX12_point_32 (by decide) rfl (fun h32 => absurd hc.2 h32) (fun h32 => ?_)
      refine q_aload_n 0 36 dX12_point_35 rfl rfl rfl ?_
      refine q_getR 0 39 f_X12_29 dX12_point_36 rfl rfl rfl rfl ?_
      refine q_iconst 0 40 dX12_point_39 ic_0 rfl ?_
      refine q_iconst 3 41 dX12_point_40 ic_3 rfl ?_
      refine q_iast 2 0 42 (w' := [_, _, _]) dX12_point_41 rfl ⟨by decide, by decide, by decide⟩ rfl rfl ?_
      refine q_aload_n 0 43 dX12_point_42 rfl rfl rfl ?_
      refine q_getR 0 46 f_X12_29 dX12_point_43 rfl rfl rfl rfl ?_
      refine q_iconst 1 47 dX12_point_46 ic_1 rfl ?_
      refine q_iconst 3 48 dX12_point_47 ic_3 rfl ?_
      refine q_iast 2 1 49 (w' := [_, _, _]) dX12_point_48 rfl ⟨by decide, by decide, by decide⟩ rfl rfl ?_
      exact K49 _ _
    · rw [show sPt1 t = t from if_neg hc]
      refine q_aload_n 0 16 dX12_point_15 rfl rfl rfl ?_
      refine q_getR 0 19 f_X12_29 dX12_point_16 rfl rfl rfl rfl ?_
      refine q_iconst 0 20 dX12_point_19 ic_0 rfl ?_
      refine q_iald 2 0 21 dX12_point_20 rfl ⟨by decide, by decide, by decide⟩ rfl ?_
      refine q_iconst 4 22 dX12_point_21 ic_4 rfl ?_
      refine q_icmp_ne 49 25 dX12_point_22 (by decide) rfl (fun h22 => ?_) (fun h22 => ?_)
      · exact K49 _ _
      · refine q_aload_n 0 26 dX12_point_25 rfl rfl rfl ?_
        refine q_getR 0 29 f_X12_29 dX12_point_26 rfl rfl rfl rfl ?_
        refine q_iconst 1 30 dX12_point_29 ic_1 rfl ?_
        refine q_iald 2 1 31 dX12_point_30 rfl ⟨by decide, by decide, by decide⟩ rfl ?_
        refine q_iconst 4 32 dX12_point_31 ic_4 rfl ?_
        refine q_icmp_ne 49 35 dX12_point_32 (by decide) rfl (fun h32 => ?_) (fun h32 => absurd h32 (fun h => hc ⟨h22, h⟩))
        exact K49 _ _
  unfold iPt rPt
  rcases hp with rfl | rfl
  · rw [sPt0_0]
    refine q_aload_n 0 1 dX12_point_0 rfl rfl rfl ?_
    refine q_iload_n 1 2 dX12_point_1 rfl rfl rfl ?_
    refine q_putI 0 5 (w' := [_, _, _]) f_X12_212 ft_X12_18 dX12_point_2 rfl rfl rfl rfl ?_
    refine q_aload_n 0 6 dX12_point_5 rfl rfl rfl ?_
    refine q_getR 0 9 f_X12_29 dX12_point_6 rfl rfl rfl rfl ?_
    refine q_iload_n 1 10 dX12_point_9 rfl rfl rfl ?_
    refine q_dup2 11 dX12_point_10 rfl rfl rfl ?_
    refine q_iald 2 0 12 dX12_point_11 rfl ⟨by decide, by decide, by decide⟩ rfl ?_
    refine q_iconst 1 13 dX12_point_12 ic_1 rfl ?_
    refine q_iadd 14 dX12_point_13 rfl ?_
    refine q_iast 2 0 15 (w' := [_, _, _]) dX12_point_14 rfl ⟨by decide, by decide, by decide⟩ rfl rfl ?_
    exact K15 _ _
  · rw [sPt0_1]
    refine q_aload_n 0 1 dX12_point_0 rfl rfl rfl ?_
    refine q_iload_n 1 2 dX12_point_1 rfl rfl rfl ?_
    refine q_putI 0 5 (w' := [_, _, _]) f_X12_212 ft_X12_18 dX12_point_2 rfl rfl rfl rfl ?_
    refine q_aload_n 0 6 dX12_point_5 rfl rfl rfl ?_
    refine q_getR 0 9 f_X12_29 dX12_point_6 rfl rfl rfl rfl ?_
    refine q_iload_n 1 10 dX12_point_9 rfl rfl rfl ?_
    refine q_dup2 11 dX12_point_10 rfl rfl rfl ?_
    refine q_iald 2 1 12 dX12_point_11 rfl ⟨by decide, by decide, by decide⟩ rfl ?_
    refine q_iconst 1 13 dX12_point_12 ic_1 rfl ?_
    refine q_iadd 14 dX12_point_13 rfl ?_
    refine q_iast 2 1 15 (w' := [_, _, _]) dX12_point_14 rfl ⟨by decide, by decide, by decide⟩ rfl rfl ?_
    exact K15 _ _
/-! ends are changed -/
def rEnd1 (x : Sc) : Sc := upd (upd x 2 (1 - x 2)) 6 1
def rEnds (m x : Sc) : Sc := if x 3 = 0 then x else if x 3 = 2 ∨ m 195 = 1 ∨ (m 195 = 0 ∧ (¬ rWin (x 0) (x 1) = 0 ∨ ¬ rWin (x 1) (x 0) = 0)) then rEnd1 x else x
theorem c_M_changes {l : Launch} {g : Gh} {q : Nat} {A : Nat → Nat} {i : Nat → Int32} {m x : Sc} : Cp l g yX12_changes (Cond.code yX12_changes cX12_changes 2 none) 2 [.ref q] [(q, ob 12 i (rM A)), (A 1, aI g 2616 m), (A 16, aI g 9 x)] none [(q, ob 12 i (rM A)), (A 1, aI g 2616 m), (A 16, aI g 9 (rEnds m x))] := by
  refine ct_of (M := mtX12_changes) [some (.ref q), none] rfl (by decide) (Nat.le_of_ble_eq_true rfl) (fun _ h => h) (fun a => ?_)
  refine q_aload_n 0 1 dX12_changes_0 rfl rfl rfl ?_
  refine q_getR 0 4 f_X12_29 dX12_changes_1 rfl rfl rfl rfl ?_
  refine q_iconst 3 5 dX12_changes_4 ic_3 rfl ?_
  refine q_iald 2 3 6 dX12_changes_5 rfl ⟨by decide, by decide, by decide⟩ rfl ?_
  refine q_if_ne 10 9 dX12_changes_6 (by decide) rfl (fun h6 => ?_) (fun h6 => ?_)
  · refine q_aload_n 0 11 dX12_changes_10 rfl rfl rfl ?_
    refine q_getR 0 14 f_X12_29 dX12_changes_11 rfl rfl rfl rfl ?_
    refine q_iconst 3 15 dX12_changes_14 ic_3 rfl ?_
    refine q_iald 2 3 16 dX12_changes_15 rfl ⟨by decide, by decide, by decide⟩ rfl ?_
    refine q_iconst 2 17 dX12_changes_16 ic_2 rfl ?_
    refine q_icmp_eq 59 20 dX12_changes_17 (by decide) rfl (fun h17 => ?_) (fun h17 => ?_)
    · refine q_iconst 1 60 dX12_changes_59 ic_1 rfl ?_
      refine q_goto 64 dX12_changes_60 (by decide) ?_
      refine q_istore_n 1 65 (L' := [_, _]) dX12_changes_64 rfl (by decide) rfl rfl ?_
      refine q_iload_n 1 66 dX12_changes_65 rfl rfl rfl ?_
      refine q_if_ne 70 69 dX12_changes_66 (by decide) rfl (fun h66 => ?_) (fun h66 => absurd h66 (by decide))
      refine q_aload_n 0 71 dX12_changes_70 rfl rfl rfl ?_
      refine q_getR 0 74 f_X12_29 dX12_changes_71 rfl rfl rfl rfl ?_
      refine q_iconst 2 75 dX12_changes_74 ic_2 rfl ?_
      refine q_iconst 1 76 dX12_changes_75 ic_1 rfl ?_
      refine q_aload_n 0 77 dX12_changes_76 rfl rfl rfl ?_
      refine q_getR 0 80 f_X12_29 dX12_changes_77 rfl rfl rfl rfl ?_
      refine q_iconst 2 81 dX12_changes_80 ic_2 rfl ?_
      refine q_iald 2 2 82 dX12_changes_81 rfl ⟨by decide, by decide, by decide⟩ rfl ?_
      refine q_isub 83 dX12_changes_82 rfl ?_
      refine q_iast 2 2 84 (w' := [_, _, _]) dX12_changes_83 rfl ⟨by decide, by decide, by decide⟩ rfl rfl ?_
      refine q_aload_n 0 85 dX12_changes_84 rfl rfl rfl ?_
      refine q_getR 0 88 f_X12_29 dX12_changes_85 rfl rfl rfl rfl ?_
      refine q_bipush 6 90 dX12_changes_88 bc_6 rfl ?_
      refine q_iconst 1 91 dX12_changes_90 ic_1 rfl ?_
      refine q_iast 2 6 92 (w' := [_, _, _]) dX12_changes_91 rfl ⟨by decide, by decide, by decide⟩ rfl rfl ?_
      refine q_return dX12_changes_92 rfl ?_
      exact pR.mk rfl (by simp_all [rEnds, rEnd1, sMine_0, sHis_0, sMine_1, sHis_1])
    · refine q_aload_n 0 21 dX12_changes_20 rfl rfl rfl ?_
      refine q_getR 0 24 f_X12_7 dX12_changes_21 rfl rfl rfl rfl ?_
      refine q_sipush 195 27 dX12_changes_24 sc_195 rfl ?_
      refine q_iald 1 195 28 dX12_changes_27 rfl ⟨by decide, by decide, by decide⟩ rfl ?_
      refine q_iconst 1 29 dX12_changes_28 ic_1 rfl ?_
      refine q_icmp_eq 59 32 dX12_changes_29 (by decide) rfl (fun h29 => ?_) (fun h29 => ?_)
      · refine q_iconst 1 60 dX12_changes_59 ic_1 rfl ?_
        refine q_goto 64 dX12_changes_60 (by decide) ?_
        refine q_istore_n 1 65 (L' := [_, _]) dX12_changes_64 rfl (by decide) rfl rfl ?_
        refine q_iload_n 1 66 dX12_changes_65 rfl rfl rfl ?_
        refine q_if_ne 70 69 dX12_changes_66 (by decide) rfl (fun h66 => ?_) (fun h66 => absurd h66 (by decide))
        refine q_aload_n 0 71 dX12_changes_70 rfl rfl rfl ?_
        refine q_getR 0 74 f_X12_29 dX12_changes_71 rfl rfl rfl rfl ?_
        refine q_iconst 2 75 dX12_changes_74 ic_2 rfl ?_
        refine q_iconst 1 76 dX12_changes_75 ic_1 rfl ?_
        refine q_aload_n 0 77 dX12_changes_76 rfl rfl rfl ?_
        refine q_getR 0 80 f_X12_29 dX12_changes_77 rfl rfl rfl rfl ?_
        refine q_iconst 2 81 dX12_changes_80 ic_2 rfl ?_
        refine q_iald 2 2 82 dX12_changes_81 rfl ⟨by decide, by decide, by decide⟩ rfl ?_
        refine q_isub 83 dX12_changes_82 rfl ?_
        refine q_iast 2 2 84 (w' := [_, _, _]) dX12_changes_83 rfl ⟨by decide, by decide, by decide⟩ rfl rfl ?_
        refine q_aload_n 0 85 dX12_changes_84 rfl rfl rfl ?_
        refine q_getR 0 88 f_X12_29 dX12_changes_85 rfl rfl rfl rfl ?_
        refine q_bipush 6 90 dX12_changes_88 bc_6 rfl ?_
        refine q_iconst 1 91 dX12_changes_90 ic_1 rfl ?_
        refine q_iast 2 6 92 (w' := [_, _, _]) dX12_changes_91 rfl ⟨by decide, by decide, by decide⟩ rfl rfl ?_
        refine q_return dX12_changes_92 rfl ?_
        exact pR.mk rfl (by simp_all [rEnds, rEnd1, sMine_0, sHis_0, sMine_1, sHis_1])
      · refine q_aload_n 0 33 dX12_changes_32 rfl rfl rfl ?_
        refine q_getR 0 36 f_X12_7 dX12_changes_33 rfl rfl rfl rfl ?_
        refine q_sipush 195 39 dX12_changes_36 sc_195 rfl ?_
        refine q_iald 1 195 40 dX12_changes_39 rfl ⟨by decide, by decide, by decide⟩ rfl ?_
        refine q_if_ne 63 43 dX12_changes_40 (by decide) rfl (fun h40 => ?_) (fun h40 => ?_)
        · refine q_iconst 0 64 dX12_changes_63 ic_0 rfl ?_
          refine q_istore_n 1 65 (L' := [_, _]) dX12_changes_64 rfl (by decide) rfl rfl ?_
          refine q_iload_n 1 66 dX12_changes_65 rfl rfl rfl ?_
          refine q_if_ne 70 69 dX12_changes_66 (by decide) rfl (fun h66 => absurd (by decide) h66) (fun h66 => ?_)
          refine q_return dX12_changes_69 rfl ?_
          exact pR.mk rfl (by simp_all [rEnds, rEnd1, sMine_0, sHis_0, sMine_1, sHis_1])
        · refine q_aload_n 0 44 dX12_changes_43 rfl rfl rfl ?_
          refine q_iconst 0 45 dX12_changes_44 ic_0 rfl ?_
          refine q_cVi 0 [0, 2] [1] [1, 0, 2] 48 (wr := [_]) (w1 := _) (ws' := [_, _, _]) (c_wouldWin (Or.inl rfl)) m_X12_206 dX12_changes_45 rfl rfl rfl rfl rfl rfl rfl rfl (by decide) (by decide) (by decide) (by decide) (Nat.le_of_ble_eq_true rfl) (by omega) (by omega) (by omega) rfl ?_
          refine q_if_ne 59 51 dX12_changes_48 (by decide) rfl (fun h48 => ?_) (fun h48 => ?_)
          · refine q_iconst 1 60 dX12_changes_59 ic_1 rfl ?_
            refine q_goto 64 dX12_changes_60 (by decide) ?_
            refine q_istore_n 1 65 (L' := [_, _]) dX12_changes_64 rfl (by decide) rfl rfl ?_
            refine q_iload_n 1 66 dX12_changes_65 rfl rfl rfl ?_
            refine q_if_ne 70 69 dX12_changes_66 (by decide) rfl (fun h66 => ?_) (fun h66 => absurd h66 (by decide))
            refine q_aload_n 0 71 dX12_changes_70 rfl rfl rfl ?_
            refine q_getR 0 74 f_X12_29 dX12_changes_71 rfl rfl rfl rfl ?_
            refine q_iconst 2 75 dX12_changes_74 ic_2 rfl ?_
            refine q_iconst 1 76 dX12_changes_75 ic_1 rfl ?_
            refine q_aload_n 0 77 dX12_changes_76 rfl rfl rfl ?_
            refine q_getR 0 80 f_X12_29 dX12_changes_77 rfl rfl rfl rfl ?_
            refine q_iconst 2 81 dX12_changes_80 ic_2 rfl ?_
            refine q_iald 2 2 82 dX12_changes_81 rfl ⟨by decide, by decide, by decide⟩ rfl ?_
            refine q_isub 83 dX12_changes_82 rfl ?_
            refine q_iast 2 2 84 (w' := [_, _, _]) dX12_changes_83 rfl ⟨by decide, by decide, by decide⟩ rfl rfl ?_
            refine q_aload_n 0 85 dX12_changes_84 rfl rfl rfl ?_
            refine q_getR 0 88 f_X12_29 dX12_changes_85 rfl rfl rfl rfl ?_
            refine q_bipush 6 90 dX12_changes_88 bc_6 rfl ?_
            refine q_iconst 1 91 dX12_changes_90 ic_1 rfl ?_
            refine q_iast 2 6 92 (w' := [_, _, _]) dX12_changes_91 rfl ⟨by decide, by decide, by decide⟩ rfl rfl ?_
            refine q_return dX12_changes_92 rfl ?_
            exact pR.mk rfl (by simp_all [rEnds, rEnd1, sMine_0, sHis_0, sMine_1, sHis_1])
          · refine q_aload_n 0 52 dX12_changes_51 rfl rfl rfl ?_
            refine q_iconst 1 53 dX12_changes_52 ic_1 rfl ?_
            refine q_cVi 0 [0, 2] [1] [1, 0, 2] 56 (wr := [_]) (w1 := _) (ws' := [_, _, _]) (c_wouldWin (Or.inr rfl)) m_X12_206 dX12_changes_53 rfl rfl rfl rfl rfl rfl rfl rfl (by decide) (by decide) (by decide) (by decide) (Nat.le_of_ble_eq_true rfl) (by omega) (by omega) (by omega) rfl ?_
            refine q_if_eq 63 59 dX12_changes_56 (by decide) rfl (fun h56 => ?_) (fun h56 => ?_)
            · refine q_iconst 0 64 dX12_changes_63 ic_0 rfl ?_
              refine q_istore_n 1 65 (L' := [_, _]) dX12_changes_64 rfl (by decide) rfl rfl ?_
              refine q_iload_n 1 66 dX12_changes_65 rfl rfl rfl ?_
              refine q_if_ne 70 69 dX12_changes_66 (by decide) rfl (fun h66 => absurd (by decide) h66) (fun h66 => ?_)
              refine q_return dX12_changes_69 rfl ?_
              exact pR.mk rfl (by simp_all [rEnds, rEnd1, sMine_0, sHis_0, sMine_1, sHis_1])
            · refine q_iconst 1 60 dX12_changes_59 ic_1 rfl ?_
              refine q_goto 64 dX12_changes_60 (by decide) ?_
              refine q_istore_n 1 65 (L' := [_, _]) dX12_changes_64 rfl (by decide) rfl rfl ?_
              refine q_iload_n 1 66 dX12_changes_65 rfl rfl rfl ?_
              refine q_if_ne 70 69 dX12_changes_66 (by decide) rfl (fun h66 => ?_) (fun h66 => absurd h66 (by decide))
              refine q_aload_n 0 71 dX12_changes_70 rfl rfl rfl ?_
              refine q_getR 0 74 f_X12_29 dX12_changes_71 rfl rfl rfl rfl ?_
              refine q_iconst 2 75 dX12_changes_74 ic_2 rfl ?_
              refine q_iconst 1 76 dX12_changes_75 ic_1 rfl ?_
              refine q_aload_n 0 77 dX12_changes_76 rfl rfl rfl ?_
              refine q_getR 0 80 f_X12_29 dX12_changes_77 rfl rfl rfl rfl ?_
              refine q_iconst 2 81 dX12_changes_80 ic_2 rfl ?_
              refine q_iald 2 2 82 dX12_changes_81 rfl ⟨by decide, by decide, by decide⟩ rfl ?_
              refine q_isub 83 dX12_changes_82 rfl ?_
              refine q_iast 2 2 84 (w' := [_, _, _]) dX12_changes_83 rfl ⟨by decide, by decide, by decide⟩ rfl rfl ?_
              refine q_aload_n 0 85 dX12_changes_84 rfl rfl rfl ?_
              refine q_getR 0 88 f_X12_29 dX12_changes_85 rfl rfl rfl rfl ?_
              refine q_bipush 6 90 dX12_changes_88 bc_6 rfl ?_
              refine q_iconst 1 91 dX12_changes_90 ic_1 rfl ?_
              refine q_iast 2 6 92 (w' := [_, _, _]) dX12_changes_91 rfl ⟨by decide, by decide, by decide⟩ rfl rfl ?_
              refine q_return dX12_changes_92 rfl ?_
              exact pR.mk rfl (by simp_all [rEnds, rEnd1, sMine_0, sHis_0, sMine_1, sHis_1])
  · refine q_return dX12_changes_9 rfl ?_
    exact pR.mk rfl (by simp_all [rEnds, rEnd1, sMine_0, sHis_0, sMine_1, sHis_1])
def rGone (x : Sc) : Sc := if x 6 = 0 then x else upd (upd (upd x 3 (x 3 - 1)) 4 (x 5)) 6 (if x 3 - 1 ≤ 0 then 0 else 1)
theorem c_M_gone {l : Launch} {g : Gh} {q : Nat} {A : Nat → Nat} {i : Nat → Int32} {x : Sc} : Cp l g yX12_gone (Cond.code yX12_gone cX12_gone 1 none) 1 [.ref q] [(q, ob 12 i (rM A)), (A 16, aI g 9 x)] none [(q, ob 12 i (rM A)), (A 16, aI g 9 (rGone x))] := by
  refine ct_of (M := mtX12_gone) [some (.ref q)] rfl (by decide) (Nat.le_of_ble_eq_true rfl) (fun _ h => h) (fun a => ?_)
  refine q_aload_n 0 1 dX12_gone_0 rfl rfl rfl ?_
  refine q_getR 0 4 f_X12_29 dX12_gone_1 rfl rfl rfl rfl ?_
  refine q_bipush 6 6 dX12_gone_4 bc_6 rfl ?_
  refine q_iald 1 6 7 dX12_gone_6 rfl ⟨by decide, by decide, by decide⟩ rfl ?_
  refine q_if_ne 11 10 dX12_gone_7 (by decide) rfl (fun h7 => ?_) (fun h7 => ?_)
  · refine q_aload_n 0 12 dX12_gone_11 rfl rfl rfl ?_
    refine q_getR 0 15 f_X12_29 dX12_gone_12 rfl rfl rfl rfl ?_
    refine q_iconst 3 16 dX12_gone_15 ic_3 rfl ?_
    refine q_dup2 17 dX12_gone_16 rfl rfl rfl ?_
    refine q_iald 1 3 18 dX12_gone_17 rfl ⟨by decide, by decide, by decide⟩ rfl ?_
    refine q_iconst 1 19 dX12_gone_18 ic_1 rfl ?_
    refine q_isub 20 dX12_gone_19 rfl ?_
    refine q_iast 1 3 21 (w' := [_, _]) dX12_gone_20 rfl ⟨by decide, by decide, by decide⟩ rfl rfl ?_
    refine q_aload_n 0 22 dX12_gone_21 rfl rfl rfl ?_
    refine q_getR 0 25 f_X12_29 dX12_gone_22 rfl rfl rfl rfl ?_
    refine q_iconst 4 26 dX12_gone_25 ic_4 rfl ?_
    refine q_aload_n 0 27 dX12_gone_26 rfl rfl rfl ?_
    refine q_getR 0 30 f_X12_29 dX12_gone_27 rfl rfl rfl rfl ?_
    refine q_iconst 5 31 dX12_gone_30 ic_5 rfl ?_
    refine q_iald 1 5 32 dX12_gone_31 rfl ⟨by decide, by decide, by decide⟩ rfl ?_
    refine q_iast 1 4 33 (w' := [_, _]) dX12_gone_32 rfl ⟨by decide, by decide, by decide⟩ rfl rfl ?_
    refine q_aload_n 0 34 dX12_gone_33 rfl rfl rfl ?_
    refine q_getR 0 37 f_X12_29 dX12_gone_34 rfl rfl rfl rfl ?_
    refine q_bipush 6 39 dX12_gone_37 bc_6 rfl ?_
    refine q_aload_n 0 40 dX12_gone_39 rfl rfl rfl ?_
    refine q_getR 0 43 f_X12_29 dX12_gone_40 rfl rfl rfl rfl ?_
    refine q_iconst 3 44 dX12_gone_43 ic_3 rfl ?_
    refine q_iald 1 3 45 dX12_gone_44 rfl ⟨by decide, by decide, by decide⟩ rfl ?_
    refine q_if_le 52 48 dX12_gone_45 (by decide) rfl (fun h45 => ?_) (fun h45 => ?_)
    · refine q_iconst 0 53 dX12_gone_52 ic_0 rfl ?_
      refine q_iast 1 6 54 (w' := [_, _]) dX12_gone_53 rfl ⟨by decide, by decide, by decide⟩ rfl rfl ?_
      refine q_return dX12_gone_54 rfl ?_
      refine pR.mk rfl ?_
      have h7' : ¬ x 6 = 0 := h7
      unfold rGone
      rw [if_neg h7']
      first
        | (have hc2 : x 3 - 1 ≤ 0 := h45
           rw [if_pos hc2]
           rfl)
        | (have hc2 : ¬ x 3 - 1 ≤ 0 := h45
           rw [if_neg hc2]
           rfl)
    · refine q_iconst 1 49 dX12_gone_48 ic_1 rfl ?_
      refine q_goto 53 dX12_gone_49 (by decide) ?_
      refine q_iast 1 6 54 (w' := [_, _]) dX12_gone_53 rfl ⟨by decide, by decide, by decide⟩ rfl rfl ?_
      refine q_return dX12_gone_54 rfl ?_
      refine pR.mk rfl ?_
      have h7' : ¬ x 6 = 0 := h7
      unfold rGone
      rw [if_neg h7']
      first
        | (have hc2 : x 3 - 1 ≤ 0 := h45
           rw [if_pos hc2]
           rfl)
        | (have hc2 : ¬ x 3 - 1 ≤ 0 := h45
           rw [if_neg hc2]
           rfl)
  · refine q_return dX12_gone_10 rfl ?_
    exact pR.mk rfl (by simp_all [rGone])
/-! a rally: how 0, 1; 2 and on dead at how - 2; 12, 13, 14 as better, worse, the same -/
def rAs (x : Sc) (how : Int32) : Int32 := if 12 ≤ how then how else if how - 2 < x 4 then 12 else if x 4 < how - 2 then 13 else 14
/-- whose point: 0 nobody, 1 the server, 2 the striker -/
def rWho (m x : Sc) (how : Int32) : Int32 := if how < 2 then (if how = 0 then 1 else 2) else if x 6 = 0 then 0 else if rAs x how = 12 then 2 else if rAs x how = 13 ∨ m 196 = 1 then 1 else 0
def rP (x : Sc) (w : Int32) : Int32 := if w = 1 then x 2 else 1 - x 2
def rGive (m x : Sc) (w : Int32) : Sc := if w = 0 then x else rPt m x (rP x w)
def iGive (i x : Sc) (w : Int32) : Sc := if w = 0 then i else iPt i x (rP x w)
def i0 (i : Sc) : Sc := upd (upd i 17 (-1)) 18 (-1)
def rRal0 (m x : Sc) (how : Int32) : Sc := if how < 2 then rGive m x (rWho m x how) else sAdd x (how - 2)
def rRal (m x : Sc) (how : Int32) : Sc := if x 6 = 0 then (if rRal0 m x how 6 = 0 then rEnds m (rRal0 m x how) else rRal0 m x how) else rGone (rGive m x (rWho m x how))
def iRal (i m x : Sc) (how : Int32) : Sc := iGive (i0 i) x (rWho m x how)
theorem rP_or {x : Sc} (hs : x 2 = 0 ∨ x 2 = 1) (w : Int32) : rP x w = 0 ∨ rP x w = 1 := by
  unfold rP
  rcases hs with h | h <;> rw [h] <;> split <;> simp
theorem one_or {z : Int32} (hs : z = 0 ∨ z = 1) : 1 - z = 0 ∨ 1 - z = 1 := by
  rcases hs with h | h <;> rw [h] <;> simp
theorem c_M_rallies {l : Launch} {g : Gh} {q : Nat} {A : Nat → Nat} {i : Nat → Int32} {m x : Sc} {how : Int32} (hs : x 2 = 0 ∨ x 2 = 1) : Cp l g yX12_rallies (Cond.code yX12_rallies cX12_rallies 5 none) 3 [.ref q, .int how] [(q, ob 12 i (rM A)), (A 1, aI g 2616 m), (A 16, aI g 9 x)] none [(q, ob 12 (iRal i m x how) (rM A)), (A 1, aI g 2616 m), (A 16, aI g 9 (rRal m x how))] := by
  refine ct_of (M := mtX12_rallies) [some (.ref q), some (.int how), none, none, none] rfl (by decide) (Nat.le_of_ble_eq_true rfl) (fun _ h => h) (fun a => ?_)
  have K90 : ∀ (j t : Sc) (z : Option Value), WPs l g mtX12_rallies 3 0 0 (pR none [(q, ob 12 j (rM A)), (A 1, aI g 2616 m), (A 16, aI g 9 (if t 6 = 0 then rEnds m t else t))]) noX a 90 [some (.ref q), some (.int how), some (.int (x 2)), none, none] [] [(q, ob 12 j (rM A)), (A 1, aI g 2616 m), (A 16, aI g 9 t)] 0 0 := by
    intro j t z
    refine q_aload_n 0 91 dX12_rallies_90 rfl rfl rfl ?_
    refine q_getR 0 94 f_X12_29 dX12_rallies_91 rfl rfl rfl rfl ?_
    refine q_bipush 6 96 dX12_rallies_94 bc_6 rfl ?_
    refine q_iald 2 6 97 dX12_rallies_96 rfl ⟨by decide, by decide, by decide⟩ rfl ?_
    refine q_if_ne 104 100 dX12_rallies_97 (by decide) rfl (fun h97 => ?_) (fun h97 => ?_)
    · refine q_return dX12_rallies_104 rfl ?_
      exact pR.mk rfl (by simp_all)
    · refine q_aload_n 0 101 dX12_rallies_100 rfl rfl rfl ?_
      refine q_cVv 0 [0, 1, 2] [] [0, 1, 2] 104 (wr := []) (w1 := _) (ws' := [_, _, _]) c_M_changes m_X12_221 dX12_rallies_101 rfl rfl rfl rfl rfl rfl rfl rfl (by decide) (by decide) (by decide) (by decide) (Nat.le_of_ble_eq_true rfl) (by omega) (by omega) (by omega) rfl ?_
      refine q_return dX12_rallies_104 rfl ?_
      exact pR.mk rfl (by simp_all)
  have K217 : ∀ (j t : Sc) (z1 z2 : Int32), WPs l g mtX12_rallies 3 0 0 (pR none [(q, ob 12 j (rM A)), (A 1, aI g 2616 m), (A 16, aI g 9 (rGone t))]) noX a 217 [some (.ref q), some (.int how), some (.int (x 2)), some (.int z1), some (.int z2)] [] [(q, ob 12 j (rM A)), (A 1, aI g 2616 m), (A 16, aI g 9 t)] 0 0 := by
    intro j t z1 z2
    refine q_aload_n 0 218 dX12_rallies_217 rfl rfl rfl ?_
    refine q_cVv 0 [0, 2] [1] [1, 0, 2] 221 (wr := [_]) (w1 := _) (ws' := [_, _, _]) c_M_gone m_X12_224 dX12_rallies_218 rfl rfl rfl rfl rfl rfl rfl rfl (by decide) (by decide) (by decide) (by decide) (Nat.le_of_ble_eq_true rfl) (by omega) (by omega) (by omega) rfl ?_
    refine q_return dX12_rallies_221 rfl ?_
    exact pR.rf
  by_cases hoff : x 6 = 0
  · have e1 : rRal m x how = (if rRal0 m x how 6 = 0 then rEnds m (rRal0 m x how) else rRal0 m x how) := if_pos hoff
    rw [e1]
    by_cases hw2 : how < 2
    · have e2 : rRal0 m x how = rGive m x (rWho m x how) := if_pos hw2
      rw [e2]
      by_cases hw0 : how = 0
      · have e3 : rWho m x how = 1 := by simp [rWho, hw0]
        have e4 : rGive m x 1 = rPt m x (x 2) := rfl
        have e5 : iRal i m x how = iPt (i0 i) x (x 2) := by unfold iRal; rw [e3]; rfl
        rw [e3, e4, e5]
        refine q_aload_n 0 1 dX12_rallies_0 rfl rfl rfl ?_
        refine q_iconst (-1) 2 dX12_rallies_1 ic_m1 rfl ?_
        refine q_putI 0 5 (w' := [_, _, _]) f_X12_215 ft_X12_17 dX12_rallies_2 rfl rfl rfl rfl ?_
        refine q_aload_n 0 6 dX12_rallies_5 rfl rfl rfl ?_
        refine q_iconst (-1) 7 dX12_rallies_6 ic_m1 rfl ?_
        refine q_putI 0 10 (w' := [_, _, _]) f_X12_212 ft_X12_18 dX12_rallies_7 rfl rfl rfl rfl ?_
        refine q_aload_n 0 11 dX12_rallies_10 rfl rfl rfl ?_
        refine q_getR 0 14 f_X12_29 dX12_rallies_11 rfl rfl rfl rfl ?_
        refine q_iconst 2 15 dX12_rallies_14 ic_2 rfl ?_
        refine q_iald 2 2 16 dX12_rallies_15 rfl ⟨by decide, by decide, by decide⟩ rfl ?_
        refine q_istore_n 2 17 (L' := [_, _, _, _, _]) dX12_rallies_16 rfl (by decide) rfl rfl ?_
        refine q_aload_n 0 18 dX12_rallies_17 rfl rfl rfl ?_
        refine q_getR 0 21 f_X12_29 dX12_rallies_18 rfl rfl rfl rfl ?_
        refine q_bipush 6 23 dX12_rallies_21 bc_6 rfl ?_
        refine q_iald 2 6 24 dX12_rallies_23 rfl ⟨by decide, by decide, by decide⟩ rfl ?_
        refine q_if_ne 105 27 dX12_rallies_24 (by decide) rfl (fun h24 => absurd hoff h24) (fun h24 => ?_)
        refine q_iload_n 1 28 dX12_rallies_27 rfl rfl rfl ?_
        refine q_iconst 2 29 dX12_rallies_28 ic_2 rfl ?_
        refine q_icmp_ge 50 32 dX12_rallies_29 (by decide) rfl (fun h29 => absurd h29 (Int32.not_le.mpr hw2)) (fun h29 => ?_)
        refine q_aload_n 0 33 dX12_rallies_32 rfl rfl rfl ?_
        refine q_iload_n 1 34 dX12_rallies_33 rfl rfl rfl ?_
        refine q_if_ne 41 37 dX12_rallies_34 (by decide) rfl (fun h34 => absurd hw0 h34) (fun h34 => ?_)
        refine q_iload_n 2 38 dX12_rallies_37 rfl rfl rfl ?_
        refine q_goto 44 dX12_rallies_38 (by decide) ?_
        refine q_cVv 0 [0, 1, 2] [] [0, 1, 2] 47 (wr := []) (w1 := _) (ws' := [_, _, _]) (c_M_point hs) m_X12_218 dX12_rallies_44 rfl rfl rfl rfl rfl rfl rfl rfl (by decide) (by decide) (by decide) (by decide) (Nat.le_of_ble_eq_true rfl) (by omega) (by omega) (by omega) rfl ?_
        refine q_goto 90 dX12_rallies_47 (by decide) ?_
        exact K90 _ _ none
      · have e3 : rWho m x how = 2 := by simp [rWho, hw0, hw2]
        have e4 : rGive m x 2 = rPt m x (1 - x 2) := rfl
        have e5 : iRal i m x how = iPt (i0 i) x (1 - x 2) := by unfold iRal; rw [e3]; rfl
        rw [e3, e4, e5]
        refine q_aload_n 0 1 dX12_rallies_0 rfl rfl rfl ?_
        refine q_iconst (-1) 2 dX12_rallies_1 ic_m1 rfl ?_
        refine q_putI 0 5 (w' := [_, _, _]) f_X12_215 ft_X12_17 dX12_rallies_2 rfl rfl rfl rfl ?_
        refine q_aload_n 0 6 dX12_rallies_5 rfl rfl rfl ?_
        refine q_iconst (-1) 7 dX12_rallies_6 ic_m1 rfl ?_
        refine q_putI 0 10 (w' := [_, _, _]) f_X12_212 ft_X12_18 dX12_rallies_7 rfl rfl rfl rfl ?_
        refine q_aload_n 0 11 dX12_rallies_10 rfl rfl rfl ?_
        refine q_getR 0 14 f_X12_29 dX12_rallies_11 rfl rfl rfl rfl ?_
        refine q_iconst 2 15 dX12_rallies_14 ic_2 rfl ?_
        refine q_iald 2 2 16 dX12_rallies_15 rfl ⟨by decide, by decide, by decide⟩ rfl ?_
        refine q_istore_n 2 17 (L' := [_, _, _, _, _]) dX12_rallies_16 rfl (by decide) rfl rfl ?_
        refine q_aload_n 0 18 dX12_rallies_17 rfl rfl rfl ?_
        refine q_getR 0 21 f_X12_29 dX12_rallies_18 rfl rfl rfl rfl ?_
        refine q_bipush 6 23 dX12_rallies_21 bc_6 rfl ?_
        refine q_iald 2 6 24 dX12_rallies_23 rfl ⟨by decide, by decide, by decide⟩ rfl ?_
        refine q_if_ne 105 27 dX12_rallies_24 (by decide) rfl (fun h24 => absurd hoff h24) (fun h24 => ?_)
        refine q_iload_n 1 28 dX12_rallies_27 rfl rfl rfl ?_
        refine q_iconst 2 29 dX12_rallies_28 ic_2 rfl ?_
        refine q_icmp_ge 50 32 dX12_rallies_29 (by decide) rfl (fun h29 => absurd h29 (Int32.not_le.mpr hw2)) (fun h29 => ?_)
        refine q_aload_n 0 33 dX12_rallies_32 rfl rfl rfl ?_
        refine q_iload_n 1 34 dX12_rallies_33 rfl rfl rfl ?_
        refine q_if_ne 41 37 dX12_rallies_34 (by decide) rfl (fun h34 => ?_) (fun h34 => absurd h34 hw0)
        refine q_iconst 1 42 dX12_rallies_41 ic_1 rfl ?_
        refine q_iload_n 2 43 dX12_rallies_42 rfl rfl rfl ?_
        refine q_isub 44 dX12_rallies_43 rfl ?_
        refine q_cVv 0 [0, 1, 2] [] [0, 1, 2] 47 (wr := []) (w1 := _) (ws' := [_, _, _]) (c_M_point (one_or hs)) m_X12_218 dX12_rallies_44 rfl rfl rfl rfl rfl rfl rfl rfl (by decide) (by decide) (by decide) (by decide) (Nat.le_of_ble_eq_true rfl) (by omega) (by omega) (by omega) rfl ?_
        refine q_goto 90 dX12_rallies_47 (by decide) ?_
        exact K90 _ _ none
    · have e2 : rRal0 m x how = sAdd x (how - 2) := if_neg hw2
      have e3 : rWho m x how = 0 := by simp [rWho, hw2, hoff]
      have e5 : iRal i m x how = i0 i := by unfold iRal; rw [e3]; rfl
      rw [e2, e5]
      by_cases hch : x 3 = 0
      · have e6 : sAdd x (how - 2) = upd (upd x 4 (how - 2)) 3 (x 3 + 1) := by unfold sAdd; rw [if_pos hch]
        rw [e6]
        refine q_aload_n 0 1 dX12_rallies_0 rfl rfl rfl ?_
        refine q_iconst (-1) 2 dX12_rallies_1 ic_m1 rfl ?_
        refine q_putI 0 5 (w' := [_, _, _]) f_X12_215 ft_X12_17 dX12_rallies_2 rfl rfl rfl rfl ?_
        refine q_aload_n 0 6 dX12_rallies_5 rfl rfl rfl ?_
        refine q_iconst (-1) 7 dX12_rallies_6 ic_m1 rfl ?_
        refine q_putI 0 10 (w' := [_, _, _]) f_X12_212 ft_X12_18 dX12_rallies_7 rfl rfl rfl rfl ?_
        refine q_aload_n 0 11 dX12_rallies_10 rfl rfl rfl ?_
        refine q_getR 0 14 f_X12_29 dX12_rallies_11 rfl rfl rfl rfl ?_
        refine q_iconst 2 15 dX12_rallies_14 ic_2 rfl ?_
        refine q_iald 2 2 16 dX12_rallies_15 rfl ⟨by decide, by decide, by decide⟩ rfl ?_
        refine q_istore_n 2 17 (L' := [_, _, _, _, _]) dX12_rallies_16 rfl (by decide) rfl rfl ?_
        refine q_aload_n 0 18 dX12_rallies_17 rfl rfl rfl ?_
        refine q_getR 0 21 f_X12_29 dX12_rallies_18 rfl rfl rfl rfl ?_
        refine q_bipush 6 23 dX12_rallies_21 bc_6 rfl ?_
        refine q_iald 2 6 24 dX12_rallies_23 rfl ⟨by decide, by decide, by decide⟩ rfl ?_
        refine q_if_ne 105 27 dX12_rallies_24 (by decide) rfl (fun h24 => absurd hoff h24) (fun h24 => ?_)
        refine q_iload_n 1 28 dX12_rallies_27 rfl rfl rfl ?_
        refine q_iconst 2 29 dX12_rallies_28 ic_2 rfl ?_
        refine q_icmp_ge 50 32 dX12_rallies_29 (by decide) rfl (fun h29 => ?_) (fun h29 => absurd (Int32.not_lt.mp hw2) h29)
        refine q_aload_n 0 51 dX12_rallies_50 rfl rfl rfl ?_
        refine q_getR 0 54 f_X12_29 dX12_rallies_51 rfl rfl rfl rfl ?_
        refine q_iconst 3 55 dX12_rallies_54 ic_3 rfl ?_
        refine q_iald 2 3 56 dX12_rallies_55 rfl ⟨by decide, by decide, by decide⟩ rfl ?_
        refine q_if_ne 71 59 dX12_rallies_56 (by decide) rfl (fun h56 => absurd hch h56) (fun h56 => ?_)
        refine q_aload_n 0 60 dX12_rallies_59 rfl rfl rfl ?_
        refine q_getR 0 63 f_X12_29 dX12_rallies_60 rfl rfl rfl rfl ?_
        refine q_iconst 4 64 dX12_rallies_63 ic_4 rfl ?_
        refine q_iload_n 1 65 dX12_rallies_64 rfl rfl rfl ?_
        refine q_iconst 2 66 dX12_rallies_65 ic_2 rfl ?_
        refine q_isub 67 dX12_rallies_66 rfl ?_
        refine q_iast 2 4 68 (w' := [_, _, _]) dX12_rallies_67 rfl ⟨by decide, by decide, by decide⟩ rfl rfl ?_
        refine q_goto 80 dX12_rallies_68 (by decide) ?_
        refine q_aload_n 0 81 dX12_rallies_80 rfl rfl rfl ?_
        refine q_getR 0 84 f_X12_29 dX12_rallies_81 rfl rfl rfl rfl ?_
        refine q_iconst 3 85 dX12_rallies_84 ic_3 rfl ?_
        refine q_dup2 86 dX12_rallies_85 rfl rfl rfl ?_
        refine q_iald 2 3 87 dX12_rallies_86 rfl ⟨by decide, by decide, by decide⟩ rfl ?_
        refine q_iconst 1 88 dX12_rallies_87 ic_1 rfl ?_
        refine q_iadd 89 dX12_rallies_88 rfl ?_
        refine q_iast 2 3 90 (w' := [_, _, _]) dX12_rallies_89 rfl ⟨by decide, by decide, by decide⟩ rfl rfl ?_
        exact K90 _ _ none
      · have e6 : sAdd x (how - 2) = upd (upd x 5 (how - 2)) 3 (x 3 + 1) := by unfold sAdd; rw [if_neg hch]
        rw [e6]
        refine q_aload_n 0 1 dX12_rallies_0 rfl rfl rfl ?_
        refine q_iconst (-1) 2 dX12_rallies_1 ic_m1 rfl ?_
        refine q_putI 0 5 (w' := [_, _, _]) f_X12_215 ft_X12_17 dX12_rallies_2 rfl rfl rfl rfl ?_
        refine q_aload_n 0 6 dX12_rallies_5 rfl rfl rfl ?_
        refine q_iconst (-1) 7 dX12_rallies_6 ic_m1 rfl ?_
        refine q_putI 0 10 (w' := [_, _, _]) f_X12_212 ft_X12_18 dX12_rallies_7 rfl rfl rfl rfl ?_
        refine q_aload_n 0 11 dX12_rallies_10 rfl rfl rfl ?_
        refine q_getR 0 14 f_X12_29 dX12_rallies_11 rfl rfl rfl rfl ?_
        refine q_iconst 2 15 dX12_rallies_14 ic_2 rfl ?_
        refine q_iald 2 2 16 dX12_rallies_15 rfl ⟨by decide, by decide, by decide⟩ rfl ?_
        refine q_istore_n 2 17 (L' := [_, _, _, _, _]) dX12_rallies_16 rfl (by decide) rfl rfl ?_
        refine q_aload_n 0 18 dX12_rallies_17 rfl rfl rfl ?_
        refine q_getR 0 21 f_X12_29 dX12_rallies_18 rfl rfl rfl rfl ?_
        refine q_bipush 6 23 dX12_rallies_21 bc_6 rfl ?_
        refine q_iald 2 6 24 dX12_rallies_23 rfl ⟨by decide, by decide, by decide⟩ rfl ?_
        refine q_if_ne 105 27 dX12_rallies_24 (by decide) rfl (fun h24 => absurd hoff h24) (fun h24 => ?_)
        refine q_iload_n 1 28 dX12_rallies_27 rfl rfl rfl ?_
        refine q_iconst 2 29 dX12_rallies_28 ic_2 rfl ?_
        refine q_icmp_ge 50 32 dX12_rallies_29 (by decide) rfl (fun h29 => ?_) (fun h29 => absurd (Int32.not_lt.mp hw2) h29)
        refine q_aload_n 0 51 dX12_rallies_50 rfl rfl rfl ?_
        refine q_getR 0 54 f_X12_29 dX12_rallies_51 rfl rfl rfl rfl ?_
        refine q_iconst 3 55 dX12_rallies_54 ic_3 rfl ?_
        refine q_iald 2 3 56 dX12_rallies_55 rfl ⟨by decide, by decide, by decide⟩ rfl ?_
        refine q_if_ne 71 59 dX12_rallies_56 (by decide) rfl (fun h56 => ?_) (fun h56 => absurd h56 hch)
        refine q_aload_n 0 72 dX12_rallies_71 rfl rfl rfl ?_
        refine q_getR 0 75 f_X12_29 dX12_rallies_72 rfl rfl rfl rfl ?_
        refine q_iconst 5 76 dX12_rallies_75 ic_5 rfl ?_
        refine q_iload_n 1 77 dX12_rallies_76 rfl rfl rfl ?_
        refine q_iconst 2 78 dX12_rallies_77 ic_2 rfl ?_
        refine q_isub 79 dX12_rallies_78 rfl ?_
        refine q_iast 2 5 80 (w' := [_, _, _]) dX12_rallies_79 rfl ⟨by decide, by decide, by decide⟩ rfl rfl ?_
        refine q_aload_n 0 81 dX12_rallies_80 rfl rfl rfl ?_
        refine q_getR 0 84 f_X12_29 dX12_rallies_81 rfl rfl rfl rfl ?_
        refine q_iconst 3 85 dX12_rallies_84 ic_3 rfl ?_
        refine q_dup2 86 dX12_rallies_85 rfl rfl rfl ?_
        refine q_iald 2 3 87 dX12_rallies_86 rfl ⟨by decide, by decide, by decide⟩ rfl ?_
        refine q_iconst 1 88 dX12_rallies_87 ic_1 rfl ?_
        refine q_iadd 89 dX12_rallies_88 rfl ?_
        refine q_iast 2 3 90 (w' := [_, _, _]) dX12_rallies_89 rfl ⟨by decide, by decide, by decide⟩ rfl rfl ?_
        exact K90 _ _ none
  · have e1 : rRal m x how = rGone (rGive m x (rWho m x how)) := if_neg hoff
    rw [e1]
    have K153 : ∀ z1 : Int32, WPs l g mtX12_rallies 3 0 0 (pR none [(q, ob 12 (iRal i m x how) (rM A)), (A 1, aI g 2616 m), (A 16, aI g 9 (rGone (rGive m x (rWho m x how))))]) noX a 153 [some (.ref q), some (.int how), some (.int (x 2)), some (.int z1), some (.int (rAs x how))] [] [(q, ob 12 (i0 i) (rM A)), (A 1, aI g 2616 m), (A 16, aI g 9 x)] 0 0 := by
      intro z1
      by_cases hw2 : how < 2
      · by_cases hw0 : how = 0
        · have e3 : rWho m x how = 1 := by simp [rWho, hw0]
          have e4 : rGive m x 1 = rPt m x (x 2) := rfl
          have e5 : iRal i m x how = iPt (i0 i) x (x 2) := by unfold iRal; rw [e3]; rfl
          rw [e3, e4, e5]
          refine q_iload_n 1 154 dX12_rallies_153 rfl rfl rfl ?_
          refine q_iconst 2 155 dX12_rallies_154 ic_2 rfl ?_
          refine q_icmp_ge 176 158 dX12_rallies_155 (by decide) rfl (fun h155 => absurd h155 (Int32.not_le.mpr hw2)) (fun h155 => ?_)
          refine q_aload_n 0 159 dX12_rallies_158 rfl rfl rfl ?_
          refine q_iload_n 1 160 dX12_rallies_159 rfl rfl rfl ?_
          refine q_if_ne 167 163 dX12_rallies_160 (by decide) rfl (fun h160 => absurd hw0 h160) (fun h160 => ?_)
          refine q_iload_n 2 164 dX12_rallies_163 rfl rfl rfl ?_
          refine q_goto 170 dX12_rallies_164 (by decide) ?_
          refine q_cVv 0 [0, 1, 2] [] [0, 1, 2] 173 (wr := []) (w1 := _) (ws' := [_, _, _]) (c_M_point hs) m_X12_218 dX12_rallies_170 rfl rfl rfl rfl rfl rfl rfl rfl (by decide) (by decide) (by decide) (by decide) (Nat.le_of_ble_eq_true rfl) (by omega) (by omega) (by omega) rfl ?_
          refine q_goto 217 dX12_rallies_173 (by decide) ?_
          exact K217 _ _ _ _
        · have e3 : rWho m x how = 2 := by simp [rWho, hw0, hw2]
          have e4 : rGive m x 2 = rPt m x (1 - x 2) := rfl
          have e5 : iRal i m x how = iPt (i0 i) x (1 - x 2) := by unfold iRal; rw [e3]; rfl
          rw [e3, e4, e5]
          refine q_iload_n 1 154 dX12_rallies_153 rfl rfl rfl ?_
          refine q_iconst 2 155 dX12_rallies_154 ic_2 rfl ?_
          refine q_icmp_ge 176 158 dX12_rallies_155 (by decide) rfl (fun h155 => absurd h155 (Int32.not_le.mpr hw2)) (fun h155 => ?_)
          refine q_aload_n 0 159 dX12_rallies_158 rfl rfl rfl ?_
          refine q_iload_n 1 160 dX12_rallies_159 rfl rfl rfl ?_
          refine q_if_ne 167 163 dX12_rallies_160 (by decide) rfl (fun h160 => ?_) (fun h160 => absurd h160 hw0)
          refine q_iconst 1 168 dX12_rallies_167 ic_1 rfl ?_
          refine q_iload_n 2 169 dX12_rallies_168 rfl rfl rfl ?_
          refine q_isub 170 dX12_rallies_169 rfl ?_
          refine q_cVv 0 [0, 1, 2] [] [0, 1, 2] 173 (wr := []) (w1 := _) (ws' := [_, _, _]) (c_M_point (one_or hs)) m_X12_218 dX12_rallies_170 rfl rfl rfl rfl rfl rfl rfl rfl (by decide) (by decide) (by decide) (by decide) (Nat.le_of_ble_eq_true rfl) (by omega) (by omega) (by omega) rfl ?_
          refine q_goto 217 dX12_rallies_173 (by decide) ?_
          exact K217 _ _ _ _
      · by_cases ha : rAs x how = 12
        · have e3 : rWho m x how = 2 := by simp [rWho, hw2, hoff, ha]
          have e4 : rGive m x 2 = rPt m x (1 - x 2) := rfl
          have e5 : iRal i m x how = iPt (i0 i) x (1 - x 2) := by unfold iRal; rw [e3]; rfl
          rw [e3, e4, e5]
          refine q_iload_n 1 154 dX12_rallies_153 rfl rfl rfl ?_
          refine q_iconst 2 155 dX12_rallies_154 ic_2 rfl ?_
          refine q_icmp_ge 176 158 dX12_rallies_155 (by decide) rfl (fun h155 => ?_) (fun h155 => absurd (Int32.not_lt.mp hw2) h155)
          refine q_iload 4 178 dX12_rallies_176 rfl rfl ?_
          refine q_bipush 12 180 dX12_rallies_178 bc_12 rfl ?_
          refine q_icmp_ne 193 183 dX12_rallies_180 (by decide) rfl (fun h180 => absurd ha h180) (fun h180 => ?_)
          refine q_aload_n 0 184 dX12_rallies_183 rfl rfl rfl ?_
          refine q_iconst 1 185 dX12_rallies_184 ic_1 rfl ?_
          refine q_iload_n 2 186 dX12_rallies_185 rfl rfl rfl ?_
          refine q_isub 187 dX12_rallies_186 rfl ?_
          refine q_cVv 0 [0, 1, 2] [] [0, 1, 2] 190 (wr := []) (w1 := _) (ws' := [_, _, _]) (c_M_point (one_or hs)) m_X12_218 dX12_rallies_187 rfl rfl rfl rfl rfl rfl rfl rfl (by decide) (by decide) (by decide) (by decide) (Nat.le_of_ble_eq_true rfl) (by omega) (by omega) (by omega) rfl ?_
          refine q_goto 217 dX12_rallies_190 (by decide) ?_
          exact K217 _ _ _ _
        · by_cases hb : rAs x how = 13 ∨ m 196 = 1
          · have e3 : rWho m x how = 1 := by simp [rWho, hw2, hoff, ha, hb]
            have e4 : rGive m x 1 = rPt m x (x 2) := rfl
            have e5 : iRal i m x how = iPt (i0 i) x (x 2) := by unfold iRal; rw [e3]; rfl
            rw [e3, e4, e5]
            refine q_iload_n 1 154 dX12_rallies_153 rfl rfl rfl ?_
            refine q_iconst 2 155 dX12_rallies_154 ic_2 rfl ?_
            refine q_icmp_ge 176 158 dX12_rallies_155 (by decide) rfl (fun h155 => ?_) (fun h155 => absurd (Int32.not_lt.mp hw2) h155)
            refine q_iload 4 178 dX12_rallies_176 rfl rfl ?_
            refine q_bipush 12 180 dX12_rallies_178 bc_12 rfl ?_
            refine q_icmp_ne 193 183 dX12_rallies_180 (by decide) rfl (fun h180 => ?_) (fun h180 => absurd h180 ha)
            refine q_iload 4 195 dX12_rallies_193 rfl rfl ?_
            refine q_bipush 13 197 dX12_rallies_195 bc_13 rfl ?_
            refine q_icmp_eq 212 200 dX12_rallies_197 (by decide) rfl (fun h197 => ?_) (fun h197 => ?_)
            · refine q_aload_n 0 213 dX12_rallies_212 rfl rfl rfl ?_
              refine q_iload_n 2 214 dX12_rallies_213 rfl rfl rfl ?_
              refine q_cVv 0 [0, 1, 2] [] [0, 1, 2] 217 (wr := []) (w1 := _) (ws' := [_, _, _]) (c_M_point hs) m_X12_218 dX12_rallies_214 rfl rfl rfl rfl rfl rfl rfl rfl (by decide) (by decide) (by decide) (by decide) (Nat.le_of_ble_eq_true rfl) (by omega) (by omega) (by omega) rfl ?_
              exact K217 _ _ _ _
            · refine q_aload_n 0 201 dX12_rallies_200 rfl rfl rfl ?_
              refine q_getR 0 204 f_X12_7 dX12_rallies_201 rfl rfl rfl rfl ?_
              refine q_sipush 196 207 dX12_rallies_204 sc_196 rfl ?_
              refine q_iald 1 196 208 dX12_rallies_207 rfl ⟨by decide, by decide, by decide⟩ rfl ?_
              refine q_iconst 1 209 dX12_rallies_208 ic_1 rfl ?_
              refine q_icmp_ne 217 212 dX12_rallies_209 (by decide) rfl (fun h209 => absurd (hb.resolve_left h197) h209) (fun h209 => ?_)
              refine q_aload_n 0 213 dX12_rallies_212 rfl rfl rfl ?_
              refine q_iload_n 2 214 dX12_rallies_213 rfl rfl rfl ?_
              refine q_cVv 0 [0, 1, 2] [] [0, 1, 2] 217 (wr := []) (w1 := _) (ws' := [_, _, _]) (c_M_point hs) m_X12_218 dX12_rallies_214 rfl rfl rfl rfl rfl rfl rfl rfl (by decide) (by decide) (by decide) (by decide) (Nat.le_of_ble_eq_true rfl) (by omega) (by omega) (by omega) rfl ?_
              exact K217 _ _ _ _
          · have e3 : rWho m x how = 0 := by simp [rWho, hw2, hoff, ha, hb]
            have e4 : rGive m x 0 = x := rfl
            have e5 : iRal i m x how = i0 i := by unfold iRal; rw [e3]; rfl
            rw [e3, e4, e5]
            refine q_iload_n 1 154 dX12_rallies_153 rfl rfl rfl ?_
            refine q_iconst 2 155 dX12_rallies_154 ic_2 rfl ?_
            refine q_icmp_ge 176 158 dX12_rallies_155 (by decide) rfl (fun h155 => ?_) (fun h155 => absurd (Int32.not_lt.mp hw2) h155)
            refine q_iload 4 178 dX12_rallies_176 rfl rfl ?_
            refine q_bipush 12 180 dX12_rallies_178 bc_12 rfl ?_
            refine q_icmp_ne 193 183 dX12_rallies_180 (by decide) rfl (fun h180 => ?_) (fun h180 => absurd h180 ha)
            refine q_iload 4 195 dX12_rallies_193 rfl rfl ?_
            refine q_bipush 13 197 dX12_rallies_195 bc_13 rfl ?_
            refine q_icmp_eq 212 200 dX12_rallies_197 (by decide) rfl (fun h197 => absurd h197 (fun h => hb (Or.inl h))) (fun h197 => ?_)
            refine q_aload_n 0 201 dX12_rallies_200 rfl rfl rfl ?_
            refine q_getR 0 204 f_X12_7 dX12_rallies_201 rfl rfl rfl rfl ?_
            refine q_sipush 196 207 dX12_rallies_204 sc_196 rfl ?_
            refine q_iald 1 196 208 dX12_rallies_207 rfl ⟨by decide, by decide, by decide⟩ rfl ?_
            refine q_iconst 1 209 dX12_rallies_208 ic_1 rfl ?_
            refine q_icmp_ne 217 212 dX12_rallies_209 (by decide) rfl (fun h209 => ?_) (fun h209 => absurd h209 (fun h => hb (Or.inr h)))
            exact K217 _ _ _ _
    by_cases hA12 : 12 ≤ how
    · rw [show rAs x how = how from if_pos hA12] at K153
      refine q_aload_n 0 1 dX12_rallies_0 rfl rfl rfl ?_
      refine q_iconst (-1) 2 dX12_rallies_1 ic_m1 rfl ?_
      refine q_putI 0 5 (w' := [_, _, _]) f_X12_215 ft_X12_17 dX12_rallies_2 rfl rfl rfl rfl ?_
      refine q_aload_n 0 6 dX12_rallies_5 rfl rfl rfl ?_
      refine q_iconst (-1) 7 dX12_rallies_6 ic_m1 rfl ?_
      refine q_putI 0 10 (w' := [_, _, _]) f_X12_212 ft_X12_18 dX12_rallies_7 rfl rfl rfl rfl ?_
      refine q_aload_n 0 11 dX12_rallies_10 rfl rfl rfl ?_
      refine q_getR 0 14 f_X12_29 dX12_rallies_11 rfl rfl rfl rfl ?_
      refine q_iconst 2 15 dX12_rallies_14 ic_2 rfl ?_
      refine q_iald 2 2 16 dX12_rallies_15 rfl ⟨by decide, by decide, by decide⟩ rfl ?_
      refine q_istore_n 2 17 (L' := [_, _, _, _, _]) dX12_rallies_16 rfl (by decide) rfl rfl ?_
      refine q_aload_n 0 18 dX12_rallies_17 rfl rfl rfl ?_
      refine q_getR 0 21 f_X12_29 dX12_rallies_18 rfl rfl rfl rfl ?_
      refine q_bipush 6 23 dX12_rallies_21 bc_6 rfl ?_
      refine q_iald 2 6 24 dX12_rallies_23 rfl ⟨by decide, by decide, by decide⟩ rfl ?_
      refine q_if_ne 105 27 dX12_rallies_24 (by decide) rfl (fun h24 => ?_) (fun h24 => absurd h24 hoff)
      refine q_iload_n 1 106 dX12_rallies_105 rfl rfl rfl ?_
      refine q_iconst 2 107 dX12_rallies_106 ic_2 rfl ?_
      refine q_isub 108 dX12_rallies_107 rfl ?_
      refine q_istore_n 3 109 (L' := [_, _, _, _, _]) dX12_rallies_108 rfl (by decide) rfl rfl ?_
      refine q_iload_n 1 110 dX12_rallies_109 rfl rfl rfl ?_
      refine q_bipush 12 112 dX12_rallies_110 bc_12 rfl ?_
      refine q_icmp_lt 119 115 dX12_rallies_112 (by decide) rfl (fun h112 => absurd h112 (Int32.not_lt.mpr hA12)) (fun h112 => ?_)
      refine q_iload_n 1 116 dX12_rallies_115 rfl rfl rfl ?_
      refine q_goto 151 dX12_rallies_116 (by decide) ?_
      refine q_istore 4 153 (L' := [_, _, _, _, _]) dX12_rallies_151 (by decide) rfl rfl ?_
      exact K153 _
    · by_cases hB : how - 2 < x 4
      · rw [show rAs x how = 12 by unfold rAs; rw [if_neg hA12, if_pos hB]] at K153
        refine q_aload_n 0 1 dX12_rallies_0 rfl rfl rfl ?_
        refine q_iconst (-1) 2 dX12_rallies_1 ic_m1 rfl ?_
        refine q_putI 0 5 (w' := [_, _, _]) f_X12_215 ft_X12_17 dX12_rallies_2 rfl rfl rfl rfl ?_
        refine q_aload_n 0 6 dX12_rallies_5 rfl rfl rfl ?_
        refine q_iconst (-1) 7 dX12_rallies_6 ic_m1 rfl ?_
        refine q_putI 0 10 (w' := [_, _, _]) f_X12_212 ft_X12_18 dX12_rallies_7 rfl rfl rfl rfl ?_
        refine q_aload_n 0 11 dX12_rallies_10 rfl rfl rfl ?_
        refine q_getR 0 14 f_X12_29 dX12_rallies_11 rfl rfl rfl rfl ?_
        refine q_iconst 2 15 dX12_rallies_14 ic_2 rfl ?_
        refine q_iald 2 2 16 dX12_rallies_15 rfl ⟨by decide, by decide, by decide⟩ rfl ?_
        refine q_istore_n 2 17 (L' := [_, _, _, _, _]) dX12_rallies_16 rfl (by decide) rfl rfl ?_
        refine q_aload_n 0 18 dX12_rallies_17 rfl rfl rfl ?_
        refine q_getR 0 21 f_X12_29 dX12_rallies_18 rfl rfl rfl rfl ?_
        refine q_bipush 6 23 dX12_rallies_21 bc_6 rfl ?_
        refine q_iald 2 6 24 dX12_rallies_23 rfl ⟨by decide, by decide, by decide⟩ rfl ?_
        refine q_if_ne 105 27 dX12_rallies_24 (by decide) rfl (fun h24 => ?_) (fun h24 => absurd h24 hoff)
        refine q_iload_n 1 106 dX12_rallies_105 rfl rfl rfl ?_
        refine q_iconst 2 107 dX12_rallies_106 ic_2 rfl ?_
        refine q_isub 108 dX12_rallies_107 rfl ?_
        refine q_istore_n 3 109 (L' := [_, _, _, _, _]) dX12_rallies_108 rfl (by decide) rfl rfl ?_
        refine q_iload_n 1 110 dX12_rallies_109 rfl rfl rfl ?_
        refine q_bipush 12 112 dX12_rallies_110 bc_12 rfl ?_
        refine q_icmp_lt 119 115 dX12_rallies_112 (by decide) rfl (fun h112 => ?_) (fun h112 => absurd (Int32.not_le.mp hA12) h112)
        refine q_iload_n 3 120 dX12_rallies_119 rfl rfl rfl ?_
        refine q_aload_n 0 121 dX12_rallies_120 rfl rfl rfl ?_
        refine q_getR 0 124 f_X12_29 dX12_rallies_121 rfl rfl rfl rfl ?_
        refine q_iconst 4 125 dX12_rallies_124 ic_4 rfl ?_
        refine q_iald 2 4 126 dX12_rallies_125 rfl ⟨by decide, by decide, by decide⟩ rfl ?_
        refine q_icmp_ge 134 129 dX12_rallies_126 (by decide) rfl (fun h126 => absurd h126 (Int32.not_le.mpr hB)) (fun h126 => ?_)
        refine q_bipush 12 131 dX12_rallies_129 bc_12 rfl ?_
        refine q_goto 151 dX12_rallies_131 (by decide) ?_
        refine q_istore 4 153 (L' := [_, _, _, _, _]) dX12_rallies_151 (by decide) rfl rfl ?_
        exact K153 _
      · by_cases hC : x 4 < how - 2
        · rw [show rAs x how = 13 by unfold rAs; rw [if_neg hA12, if_neg hB, if_pos hC]] at K153
          refine q_aload_n 0 1 dX12_rallies_0 rfl rfl rfl ?_
          refine q_iconst (-1) 2 dX12_rallies_1 ic_m1 rfl ?_
          refine q_putI 0 5 (w' := [_, _, _]) f_X12_215 ft_X12_17 dX12_rallies_2 rfl rfl rfl rfl ?_
          refine q_aload_n 0 6 dX12_rallies_5 rfl rfl rfl ?_
          refine q_iconst (-1) 7 dX12_rallies_6 ic_m1 rfl ?_
          refine q_putI 0 10 (w' := [_, _, _]) f_X12_212 ft_X12_18 dX12_rallies_7 rfl rfl rfl rfl ?_
          refine q_aload_n 0 11 dX12_rallies_10 rfl rfl rfl ?_
          refine q_getR 0 14 f_X12_29 dX12_rallies_11 rfl rfl rfl rfl ?_
          refine q_iconst 2 15 dX12_rallies_14 ic_2 rfl ?_
          refine q_iald 2 2 16 dX12_rallies_15 rfl ⟨by decide, by decide, by decide⟩ rfl ?_
          refine q_istore_n 2 17 (L' := [_, _, _, _, _]) dX12_rallies_16 rfl (by decide) rfl rfl ?_
          refine q_aload_n 0 18 dX12_rallies_17 rfl rfl rfl ?_
          refine q_getR 0 21 f_X12_29 dX12_rallies_18 rfl rfl rfl rfl ?_
          refine q_bipush 6 23 dX12_rallies_21 bc_6 rfl ?_
          refine q_iald 2 6 24 dX12_rallies_23 rfl ⟨by decide, by decide, by decide⟩ rfl ?_
          refine q_if_ne 105 27 dX12_rallies_24 (by decide) rfl (fun h24 => ?_) (fun h24 => absurd h24 hoff)
          refine q_iload_n 1 106 dX12_rallies_105 rfl rfl rfl ?_
          refine q_iconst 2 107 dX12_rallies_106 ic_2 rfl ?_
          refine q_isub 108 dX12_rallies_107 rfl ?_
          refine q_istore_n 3 109 (L' := [_, _, _, _, _]) dX12_rallies_108 rfl (by decide) rfl rfl ?_
          refine q_iload_n 1 110 dX12_rallies_109 rfl rfl rfl ?_
          refine q_bipush 12 112 dX12_rallies_110 bc_12 rfl ?_
          refine q_icmp_lt 119 115 dX12_rallies_112 (by decide) rfl (fun h112 => ?_) (fun h112 => absurd (Int32.not_le.mp hA12) h112)
          refine q_iload_n 3 120 dX12_rallies_119 rfl rfl rfl ?_
          refine q_aload_n 0 121 dX12_rallies_120 rfl rfl rfl ?_
          refine q_getR 0 124 f_X12_29 dX12_rallies_121 rfl rfl rfl rfl ?_
          refine q_iconst 4 125 dX12_rallies_124 ic_4 rfl ?_
          refine q_iald 2 4 126 dX12_rallies_125 rfl ⟨by decide, by decide, by decide⟩ rfl ?_
          refine q_icmp_ge 134 129 dX12_rallies_126 (by decide) rfl (fun h126 => ?_) (fun h126 => absurd (Int32.not_lt.mp hB) h126)
          refine q_iload_n 3 135 dX12_rallies_134 rfl rfl rfl ?_
          refine q_aload_n 0 136 dX12_rallies_135 rfl rfl rfl ?_
          refine q_getR 0 139 f_X12_29 dX12_rallies_136 rfl rfl rfl rfl ?_
          refine q_iconst 4 140 dX12_rallies_139 ic_4 rfl ?_
          refine q_iald 2 4 141 dX12_rallies_140 rfl ⟨by decide, by decide, by decide⟩ rfl ?_
          refine q_icmp_le 149 144 dX12_rallies_141 (by decide) rfl (fun h141 => absurd h141 (Int32.not_le.mpr hC)) (fun h141 => ?_)
          refine q_bipush 13 146 dX12_rallies_144 bc_13 rfl ?_
          refine q_goto 151 dX12_rallies_146 (by decide) ?_
          refine q_istore 4 153 (L' := [_, _, _, _, _]) dX12_rallies_151 (by decide) rfl rfl ?_
          exact K153 _
        · rw [show rAs x how = 14 by unfold rAs; rw [if_neg hA12, if_neg hB, if_neg hC]] at K153
          refine q_aload_n 0 1 dX12_rallies_0 rfl rfl rfl ?_
          refine q_iconst (-1) 2 dX12_rallies_1 ic_m1 rfl ?_
          refine q_putI 0 5 (w' := [_, _, _]) f_X12_215 ft_X12_17 dX12_rallies_2 rfl rfl rfl rfl ?_
          refine q_aload_n 0 6 dX12_rallies_5 rfl rfl rfl ?_
          refine q_iconst (-1) 7 dX12_rallies_6 ic_m1 rfl ?_
          refine q_putI 0 10 (w' := [_, _, _]) f_X12_212 ft_X12_18 dX12_rallies_7 rfl rfl rfl rfl ?_
          refine q_aload_n 0 11 dX12_rallies_10 rfl rfl rfl ?_
          refine q_getR 0 14 f_X12_29 dX12_rallies_11 rfl rfl rfl rfl ?_
          refine q_iconst 2 15 dX12_rallies_14 ic_2 rfl ?_
          refine q_iald 2 2 16 dX12_rallies_15 rfl ⟨by decide, by decide, by decide⟩ rfl ?_
          refine q_istore_n 2 17 (L' := [_, _, _, _, _]) dX12_rallies_16 rfl (by decide) rfl rfl ?_
          refine q_aload_n 0 18 dX12_rallies_17 rfl rfl rfl ?_
          refine q_getR 0 21 f_X12_29 dX12_rallies_18 rfl rfl rfl rfl ?_
          refine q_bipush 6 23 dX12_rallies_21 bc_6 rfl ?_
          refine q_iald 2 6 24 dX12_rallies_23 rfl ⟨by decide, by decide, by decide⟩ rfl ?_
          refine q_if_ne 105 27 dX12_rallies_24 (by decide) rfl (fun h24 => ?_) (fun h24 => absurd h24 hoff)
          refine q_iload_n 1 106 dX12_rallies_105 rfl rfl rfl ?_
          refine q_iconst 2 107 dX12_rallies_106 ic_2 rfl ?_
          refine q_isub 108 dX12_rallies_107 rfl ?_
          refine q_istore_n 3 109 (L' := [_, _, _, _, _]) dX12_rallies_108 rfl (by decide) rfl rfl ?_
          refine q_iload_n 1 110 dX12_rallies_109 rfl rfl rfl ?_
          refine q_bipush 12 112 dX12_rallies_110 bc_12 rfl ?_
          refine q_icmp_lt 119 115 dX12_rallies_112 (by decide) rfl (fun h112 => ?_) (fun h112 => absurd (Int32.not_le.mp hA12) h112)
          refine q_iload_n 3 120 dX12_rallies_119 rfl rfl rfl ?_
          refine q_aload_n 0 121 dX12_rallies_120 rfl rfl rfl ?_
          refine q_getR 0 124 f_X12_29 dX12_rallies_121 rfl rfl rfl rfl ?_
          refine q_iconst 4 125 dX12_rallies_124 ic_4 rfl ?_
          refine q_iald 2 4 126 dX12_rallies_125 rfl ⟨by decide, by decide, by decide⟩ rfl ?_
          refine q_icmp_ge 134 129 dX12_rallies_126 (by decide) rfl (fun h126 => ?_) (fun h126 => absurd (Int32.not_lt.mp hB) h126)
          refine q_iload_n 3 135 dX12_rallies_134 rfl rfl rfl ?_
          refine q_aload_n 0 136 dX12_rallies_135 rfl rfl rfl ?_
          refine q_getR 0 139 f_X12_29 dX12_rallies_136 rfl rfl rfl rfl ?_
          refine q_iconst 4 140 dX12_rallies_139 ic_4 rfl ?_
          refine q_iald 2 4 141 dX12_rallies_140 rfl ⟨by decide, by decide, by decide⟩ rfl ?_
          refine q_icmp_le 149 144 dX12_rallies_141 (by decide) rfl (fun h141 => ?_) (fun h141 => absurd (Int32.not_lt.mp hC) h141)
          refine q_bipush 14 151 dX12_rallies_149 bc_14 rfl ?_
          refine q_istore 4 153 (L' := [_, _, _, _, _]) dX12_rallies_151 (by decide) rfl rfl ?_
          exact K153 _

