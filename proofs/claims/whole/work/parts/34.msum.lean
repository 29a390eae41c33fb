/-! ===== part, sum ===== -/
abbrev w_mine : List Int32 := [109, 105, 110, 101]
abbrev w_his : List Int32 := [104, 105, 115]
abbrev w_line : List Int32 := [108, 105, 110, 101]
abbrev w_chases : List Int32 := [99, 104, 97, 115, 101, 115]
abbrev w_games : List Int32 := [103, 97, 109, 101, 115]
abbrev w_serving : List Int32 := [115, 101, 114, 118, 105, 110, 103]
abbrev w_off : List Int32 := [111, 102, 102]
abbrev w_not : List Int32 := [110, 111, 116]
abbrev w_and : List Int32 := [97, 110, 100]
abbrev w_or : List Int32 := [111, 114]
abbrev w_style : List Int32 := [115, 116, 121, 108, 101]
abbrev w_if : List Int32 := [105, 102]
abbrev w_rally : List Int32 := [114, 97, 108, 108, 121]
abbrev w_won : List Int32 := [119, 111, 110]
abbrev w_lost : List Int32 := [108, 111, 115, 116]
abbrev w_dead : List Int32 := [100, 101, 97, 100]
abbrev w_club : List Int32 := [99, 108, 117, 98]
abbrev w_even : List Int32 := [101, 118, 101, 110]
theorem sk_sk (T : Nat → Int32) (e n : Nat) : sk T e (sk T e n) = sk T e n := by
  have key : ∀ f n, e - n ≤ f → sk T e (sk T e n) = sk T e n := by
    intro f
    induction f with
    | zero =>
      intro n h
      have h1 : sk T e n = n := sk_end (by omega)
      rw [h1, h1]
    | succ f ih =>
      intro n h
      by_cases hc : n < e ∧ T n = 32
      · rw [sk_go hc.1 hc.2]
        exact ih (n + 1) (by omega)
      · have h1 : sk T e n = n := sk_end hc
        rw [h1, h1]
  exact key _ n (Nat.le_refl _)
theorem hasB_t {T : Nat → Int32} {e n : Nat} {bs : List Int32} (h : isW T e n bs) (hs : sk T e n = n) : hasB T e n bs = 1 := by unfold hasB; rw [hs, if_pos h]
theorem hasB_f {T : Nat → Int32} {e n : Nat} {bs : List Int32} (h : ¬ isW T e n bs) (hs : sk T e n = n) : hasB T e n bs = 0 := by unfold hasB; rw [hs, if_neg h]
theorem hasN_t {T : Nat → Int32} {e n : Nat} {bs : List Int32} (h : isW T e n bs) (hs : sk T e n = n) : hasN T e n bs = n + bs.length := by unfold hasN; rw [hs, if_pos h]
theorem hasN_f {T : Nat → Int32} {e n : Nat} {bs : List Int32} (h : ¬ isW T e n bs) (hs : sk T e n = n) : hasN T e n bs = n := by unfold hasN; rw [hs, if_neg h]
theorem isW_le {T : Nat → Int32} {e n : Nat} {bs : List Int32} (h : isW T e n bs) : n + bs.length ≤ n ∨ n + bs.length ≤ e := by
  rw [← h.1]; exact we_le T e n
/-- which of the facts' words stands at n (5: none) -/
def pK (T : Nat → Int32) (e n : Nat) : Nat := if isW T e n w_mine then 0 else if isW T e n w_his then 1 else if isW T e n w_line then 2 else if isW T e n w_chases then 3 else if isW T e n w_games then 4 else 5
def pL (k : Nat) : Nat := if k = 0 then 4 else if k = 1 then 3 else if k = 2 then 4 else if k = 3 then 6 else 5
abbrev isD (T : Nat → Int32) (e n : Nat) : Prop := n < e ∧ ¬ rIn (T n) 48 57 = 0
def ptV (T fc : Nat → Int32) (e n : Nat) (f : Int32) : Int32 := if f = -1 then (if isD T e (sk T e n) then figV T e (sk T e n) else if pK T e (sk T e n) = 5 then 0 else fc (pK T e (sk T e n))) else 0
def ptN (T : Nat → Int32) (e n : Nat) (f : Int32) : Nat := if f = -1 then (if isD T e (sk T e n) then figE T e (sk T e n) else if pK T e (sk T e n) = 5 then sk T e n else sk T e n + pL (pK T e (sk T e n))) else n
def ptF (T : Nat → Int32) (e n : Nat) (f : Int32) : Int32 := if f = -1 then (if isD T e (sk T e n) then fgF T e (sk T e n) (-1) 0 999 else if pK T e (sk T e n) = 5 then nI (sk T e n) else -1) else f
abbrev wQ (g : Gh) (q : Nat) (A : Nat → Nat) (i m tp fc : Nat → Int32) (n : Nat) (f d s : Int32) : va_W := [(q, ob 12 (ps i n f d s) (rM A)), (A 1, aI g 2616 m), (A 5, aI g 400 tp), (A 12, aI g 5 fc)]
theorem p_part {l : Launch} {g : Gh} {q : Nat} {A : Nat → Nat} {i m tp fc T : Nat → Int32} {e n : Nat} {f d s : Int32} (hT : TxOK (i 7) (i 8) m tp T e) (hn2 : n < 1000) : Cp l g yX12_part (Cond.code yX12_part cX12_part 2 (some .int)) 6 [.ref q] (wQ g q A i m tp fc n f d s) (some (.int (ptV T fc e n f))) (wQ g q A i m tp fc (ptN T e n f) (ptF T e n f) d s) := by
  refine ct_of (M := mtX12_part) [some (.ref q), none] rfl (by decide) (Nat.le_of_ble_eq_true rfl) (fun _ h => h) (fun a => ?_)
  have he : e ≤ 400 := hT.2.1
  have hb : sk T e n < 1000 := by rcases sk_le T e n with h | h <;> omega
  have hss := sk_sk T e n
  by_cases hf : f = -1
  · subst hf
    rw [show ptV T fc e n (-1) = (if isD T e (sk T e n) then figV T e (sk T e n) else if pK T e (sk T e n) = 5 then 0 else fc (pK T e (sk T e n))) from rfl, show ptN T e n (-1) = (if isD T e (sk T e n) then figE T e (sk T e n) else if pK T e (sk T e n) = 5 then sk T e n else sk T e n + pL (pK T e (sk T e n))) from rfl, show ptF T e n (-1) = (if isD T e (sk T e n) then fgF T e (sk T e n) (-1) 0 999 else if pK T e (sk T e n) = 5 then nI (sk T e n) else -1) from rfl]
    generalize hskn : sk T e n = r at *
    by_cases hd : isD T e r
    · rw [if_pos hd, if_pos hd, if_pos hd]
      refine q_aload_n 0 1 dX12_part_0 rfl rfl rfl ?_
      refine q_getI 0 4 f_X12_22 dX12_part_1 rfl rfl rfl ?_
      refine q_iconst (-1) 5 dX12_part_4 ic_m1 rfl ?_
      refine q_icmp_eq 10 8 dX12_part_5 (by decide) rfl (fun h5 => ?_) (fun h5 => absurd rfl h5)
      refine q_aload_n 0 11 dX12_part_10 rfl rfl rfl ?_
      refine q_cVv 0 [0, 1, 2] [3] [1, 2, 3, 0] 14 (wr := [_]) (w1 := _) (ws' := [_, _, _, _]) (p_skip (T := T) (e := e) (n := n) hT hn2) m_X12_90 dX12_part_11 rfl rfl rfl rfl rfl rfl rfl rfl (by decide) (by decide) (by decide) (by decide) (Nat.le_of_ble_eq_true rfl) (by omega) (by omega) (by omega) rfl ?_
      rw [hskn]
      refine q_aload_n 0 15 dX12_part_14 rfl rfl rfl ?_
      refine q_getI 0 18 f_X12_80 dX12_part_15 rfl rfl rfl ?_
      refine q_aload_n 0 19 dX12_part_18 rfl rfl rfl ?_
      refine q_getI 0 22 f_X12_83 dX12_part_19 rfl rfl rfl ?_
      refine q_icmp_ge 52 25 dX12_part_22 (by decide) rfl (fun h22 => absurd h22 (by show ¬ i 8 ≤ _; rw [hT.1]; exact nI_ge hd.1 (by omega))) (fun h22 => ?_)
      refine q_aload_n 0 26 dX12_part_25 rfl rfl rfl ?_
      refine q_aload_n 0 27 dX12_part_26 rfl rfl rfl ?_
      refine q_getI 0 30 f_X12_80 dX12_part_27 rfl rfl rfl ?_
      refine q_cVi 0 [0, 1, 2] [3] [1, 2, 3, 0] 33 (wr := [_]) (w1 := _) (ws' := [_, _, _, _]) (p_letter (T := T) (e := e) (k := r) hT rfl hd.1) m_X12_86 dX12_part_30 rfl rfl rfl rfl rfl rfl rfl rfl (by decide) (by decide) (by decide) (by decide) (Nat.le_of_ble_eq_true rfl) (by omega) (by omega) (by omega) rfl ?_
      refine q_bipush 48 35 dX12_part_33 bc_48 rfl ?_
      refine q_bipush 57 37 dX12_part_35 bc_57 rfl ?_
      refine q_cSi [] [0, 1, 2, 3] [0, 1, 2, 3] 40 (wr := [_, _, _, _]) (w1 := _) (ws' := [_, _, _, _]) c_isIn m_X12_70 dX12_part_37 rfl rfl rfl rfl rfl (by decide) (by decide) (by decide) (by decide) (Nat.le_of_ble_eq_true rfl) (by omega) (by omega) (by omega) rfl ?_
      refine q_if_eq 52 43 dX12_part_40 (by decide) rfl (fun h40 => absurd h40 hd.2) (fun h40 => ?_)
      refine q_aload_n 0 44 dX12_part_43 rfl rfl rfl ?_
      refine q_iconst 0 45 dX12_part_44 ic_0 rfl ?_
      refine q_sipush 999 48 dX12_part_45 sc_999 rfl ?_
      refine q_cVi 0 [0, 1, 2] [3] [1, 2, 3, 0] 51 (wr := [_]) (w1 := _) (ws' := [_, _, _, _]) (p_figures (T := T) (e := e) (n := r) hT hb) m_X12_113 dX12_part_48 rfl rfl rfl rfl rfl rfl rfl rfl (by decide) (by decide) (by decide) (by decide) (Nat.le_of_ble_eq_true rfl) (by omega) (by omega) (by omega) rfl ?_
      refine q_ireturn dX12_part_51 rfl ?_
      exact pR.rf
    · rw [if_neg hd, if_neg hd, if_neg hd]
      have K52 : WPs l g mtX12_part 6 0 0 (pR (some (.int (if pK T e r = 5 then 0 else fc (pK T e r)))) (wQ g q A i m tp fc (if pK T e r = 5 then r else r + pL (pK T e r)) (if pK T e r = 5 then nI r else -1) d s)) noX a 52 [some (.ref q), none] [] (wQ g q A i m tp fc r (-1) d s) 0 0 := by
        by_cases hw0 : isW T e r w_mine
        · have hk : pK T e r = 0 := by unfold pK; rw [if_pos hw0]
          rw [hk, if_neg (by decide), if_neg (by decide), if_neg (by decide), show pL 0 = 4 from rfl]
          refine q_aload_n 0 53 dX12_part_52 rfl rfl rfl ?_
          refine q_ldcS "mine" 55 sr_X12_146 dX12_part_53 rfl ?_
          refine q_cVi 0 [0, 1, 2] [3] [1, 2, 3, 0] 58 (wr := [_]) (w1 := _) (ws' := [_, _, _, _]) (p_has sw_X12_146 (by decide) (T := T) (e := e) (n := r) hT hb) m_X12_109 dX12_part_55 rfl rfl rfl rfl rfl rfl rfl rfl (by decide) (by decide) (by decide) (by decide) (Nat.le_of_ble_eq_true rfl) (by omega) (by omega) (by omega) rfl ?_
          rw [hasB_t hw0 hss, hasN_t hw0 hss]
          refine q_if_eq 65 61 dX12_part_58 (by decide) rfl (fun h58 => absurd h58 (by decide)) (fun h58 => ?_)
          refine q_iconst 0 62 dX12_part_61 ic_0 rfl ?_
          refine q_goto 118 dX12_part_62 (by decide) ?_
          refine q_istore_n 1 119 (L' := [_, _]) dX12_part_118 rfl (by decide) rfl rfl ?_
          refine q_iload_n 1 120 dX12_part_119 rfl rfl rfl ?_
          refine q_iconst (-1) 121 dX12_part_120 ic_m1 rfl ?_
          refine q_icmp_ne 134 124 dX12_part_121 (by decide) rfl (fun h121 => ?_) (fun h121 => absurd h121 (by decide))
          refine q_aload_n 0 135 dX12_part_134 rfl rfl rfl ?_
          refine q_getR 0 138 f_X12_26 dX12_part_135 rfl rfl rfl rfl ?_
          refine q_iload_n 1 139 dX12_part_138 rfl rfl rfl ?_
          refine q_iald 3 0 140 dX12_part_139 rfl ⟨by decide, by decide, by decide⟩ rfl ?_
          refine q_ireturn dX12_part_140 rfl ?_
          exact pR.rf
        · by_cases hw1 : isW T e r w_his
          · have hk : pK T e r = 1 := by unfold pK; rw [if_neg hw0, if_pos hw1]
            rw [hk, if_neg (by decide), if_neg (by decide), if_neg (by decide), show pL 1 = 3 from rfl]
            refine q_aload_n 0 53 dX12_part_52 rfl rfl rfl ?_
            refine q_ldcS "mine" 55 sr_X12_146 dX12_part_53 rfl ?_
            refine q_cVi 0 [0, 1, 2] [3] [1, 2, 3, 0] 58 (wr := [_]) (w1 := _) (ws' := [_, _, _, _]) (p_has sw_X12_146 (by decide) (T := T) (e := e) (n := r) hT hb) m_X12_109 dX12_part_55 rfl rfl rfl rfl rfl rfl rfl rfl (by decide) (by decide) (by decide) (by decide) (Nat.le_of_ble_eq_true rfl) (by omega) (by omega) (by omega) rfl ?_
            rw [hasB_f hw0 hss, hasN_f hw0 hss]
            refine q_if_eq 65 61 dX12_part_58 (by decide) rfl (fun h58 => ?_) (fun h58 => absurd rfl h58)
            refine q_aload_n 0 66 dX12_part_65 rfl rfl rfl ?_
            refine q_ldcS "his" 68 sr_X12_148 dX12_part_66 rfl ?_
            refine q_cVi 0 [0, 1, 2] [3] [1, 2, 3, 0] 71 (wr := [_]) (w1 := _) (ws' := [_, _, _, _]) (p_has sw_X12_148 (by decide) (T := T) (e := e) (n := r) hT hb) m_X12_109 dX12_part_68 rfl rfl rfl rfl rfl rfl rfl rfl (by decide) (by decide) (by decide) (by decide) (Nat.le_of_ble_eq_true rfl) (by omega) (by omega) (by omega) rfl ?_
            rw [hasB_t hw1 hss, hasN_t hw1 hss]
            refine q_if_eq 78 74 dX12_part_71 (by decide) rfl (fun h71 => absurd h71 (by decide)) (fun h71 => ?_)
            refine q_iconst 1 75 dX12_part_74 ic_1 rfl ?_
            refine q_goto 118 dX12_part_75 (by decide) ?_
            refine q_istore_n 1 119 (L' := [_, _]) dX12_part_118 rfl (by decide) rfl rfl ?_
            refine q_iload_n 1 120 dX12_part_119 rfl rfl rfl ?_
            refine q_iconst (-1) 121 dX12_part_120 ic_m1 rfl ?_
            refine q_icmp_ne 134 124 dX12_part_121 (by decide) rfl (fun h121 => ?_) (fun h121 => absurd h121 (by decide))
            refine q_aload_n 0 135 dX12_part_134 rfl rfl rfl ?_
            refine q_getR 0 138 f_X12_26 dX12_part_135 rfl rfl rfl rfl ?_
            refine q_iload_n 1 139 dX12_part_138 rfl rfl rfl ?_
            refine q_iald 3 1 140 dX12_part_139 rfl ⟨by decide, by decide, by decide⟩ rfl ?_
            refine q_ireturn dX12_part_140 rfl ?_
            exact pR.rf
          · by_cases hw2 : isW T e r w_line
            · have hk : pK T e r = 2 := by unfold pK; rw [if_neg hw0, if_neg hw1, if_pos hw2]
              rw [hk, if_neg (by decide), if_neg (by decide), if_neg (by decide), show pL 2 = 4 from rfl]
              refine q_aload_n 0 53 dX12_part_52 rfl rfl rfl ?_
              refine q_ldcS "mine" 55 sr_X12_146 dX12_part_53 rfl ?_
              refine q_cVi 0 [0, 1, 2] [3] [1, 2, 3, 0] 58 (wr := [_]) (w1 := _) (ws' := [_, _, _, _]) (p_has sw_X12_146 (by decide) (T := T) (e := e) (n := r) hT hb) m_X12_109 dX12_part_55 rfl rfl rfl rfl rfl rfl rfl rfl (by decide) (by decide) (by decide) (by decide) (Nat.le_of_ble_eq_true rfl) (by omega) (by omega) (by omega) rfl ?_
              rw [hasB_f hw0 hss, hasN_f hw0 hss]
              refine q_if_eq 65 61 dX12_part_58 (by decide) rfl (fun h58 => ?_) (fun h58 => absurd rfl h58)
              refine q_aload_n 0 66 dX12_part_65 rfl rfl rfl ?_
              refine q_ldcS "his" 68 sr_X12_148 dX12_part_66 rfl ?_
              refine q_cVi 0 [0, 1, 2] [3] [1, 2, 3, 0] 71 (wr := [_]) (w1 := _) (ws' := [_, _, _, _]) (p_has sw_X12_148 (by decide) (T := T) (e := e) (n := r) hT hb) m_X12_109 dX12_part_68 rfl rfl rfl rfl rfl rfl rfl rfl (by decide) (by decide) (by decide) (by decide) (Nat.le_of_ble_eq_true rfl) (by omega) (by omega) (by omega) rfl ?_
              rw [hasB_f hw1 hss, hasN_f hw1 hss]
              refine q_if_eq 78 74 dX12_part_71 (by decide) rfl (fun h71 => ?_) (fun h71 => absurd rfl h71)
              refine q_aload_n 0 79 dX12_part_78 rfl rfl rfl ?_
              refine q_ldcS "line" 81 sr_X12_150 dX12_part_79 rfl ?_
              refine q_cVi 0 [0, 1, 2] [3] [1, 2, 3, 0] 84 (wr := [_]) (w1 := _) (ws' := [_, _, _, _]) (p_has sw_X12_150 (by decide) (T := T) (e := e) (n := r) hT hb) m_X12_109 dX12_part_81 rfl rfl rfl rfl rfl rfl rfl rfl (by decide) (by decide) (by decide) (by decide) (Nat.le_of_ble_eq_true rfl) (by omega) (by omega) (by omega) rfl ?_
              rw [hasB_t hw2 hss, hasN_t hw2 hss]
              refine q_if_eq 91 87 dX12_part_84 (by decide) rfl (fun h84 => absurd h84 (by decide)) (fun h84 => ?_)
              refine q_iconst 2 88 dX12_part_87 ic_2 rfl ?_
              refine q_goto 118 dX12_part_88 (by decide) ?_
              refine q_istore_n 1 119 (L' := [_, _]) dX12_part_118 rfl (by decide) rfl rfl ?_
              refine q_iload_n 1 120 dX12_part_119 rfl rfl rfl ?_
              refine q_iconst (-1) 121 dX12_part_120 ic_m1 rfl ?_
              refine q_icmp_ne 134 124 dX12_part_121 (by decide) rfl (fun h121 => ?_) (fun h121 => absurd h121 (by decide))
              refine q_aload_n 0 135 dX12_part_134 rfl rfl rfl ?_
              refine q_getR 0 138 f_X12_26 dX12_part_135 rfl rfl rfl rfl ?_
              refine q_iload_n 1 139 dX12_part_138 rfl rfl rfl ?_
              refine q_iald 3 2 140 dX12_part_139 rfl ⟨by decide, by decide, by decide⟩ rfl ?_
              refine q_ireturn dX12_part_140 rfl ?_
              exact pR.rf
            · by_cases hw3 : isW T e r w_chases
              · have hk : pK T e r = 3 := by unfold pK; rw [if_neg hw0, if_neg hw1, if_neg hw2, if_pos hw3]
                rw [hk, if_neg (by decide), if_neg (by decide), if_neg (by decide), show pL 3 = 6 from rfl]
                refine q_aload_n 0 53 dX12_part_52 rfl rfl rfl ?_
                refine q_ldcS "mine" 55 sr_X12_146 dX12_part_53 rfl ?_
                refine q_cVi 0 [0, 1, 2] [3] [1, 2, 3, 0] 58 (wr := [_]) (w1 := _) (ws' := [_, _, _, _]) (p_has sw_X12_146 (by decide) (T := T) (e := e) (n := r) hT hb) m_X12_109 dX12_part_55 rfl rfl rfl rfl rfl rfl rfl rfl (by decide) (by decide) (by decide) (by decide) (Nat.le_of_ble_eq_true rfl) (by omega) (by omega) (by omega) rfl ?_
                rw [hasB_f hw0 hss, hasN_f hw0 hss]
                refine q_if_eq 65 61 dX12_part_58 (by decide) rfl (fun h58 => ?_) (fun h58 => absurd rfl h58)
                refine q_aload_n 0 66 dX12_part_65 rfl rfl rfl ?_
                refine q_ldcS "his" 68 sr_X12_148 dX12_part_66 rfl ?_
                refine q_cVi 0 [0, 1, 2] [3] [1, 2, 3, 0] 71 (wr := [_]) (w1 := _) (ws' := [_, _, _, _]) (p_has sw_X12_148 (by decide) (T := T) (e := e) (n := r) hT hb) m_X12_109 dX12_part_68 rfl rfl rfl rfl rfl rfl rfl rfl (by decide) (by decide) (by decide) (by decide) (Nat.le_of_ble_eq_true rfl) (by omega) (by omega) (by omega) rfl ?_
                rw [hasB_f hw1 hss, hasN_f hw1 hss]
                refine q_if_eq 78 74 dX12_part_71 (by decide) rfl (fun h71 => ?_) (fun h71 => absurd rfl h71)
                refine q_aload_n 0 79 dX12_part_78 rfl rfl rfl ?_
                refine q_ldcS "line" 81 sr_X12_150 dX12_part_79 rfl ?_
                refine q_cVi 0 [0, 1, 2] [3] [1, 2, 3, 0] 84 (wr := [_]) (w1 := _) (ws' := [_, _, _, _]) (p_has sw_X12_150 (by decide) (T := T) (e := e) (n := r) hT hb) m_X12_109 dX12_part_81 rfl rfl rfl rfl rfl rfl rfl rfl (by decide) (by decide) (by decide) (by decide) (Nat.le_of_ble_eq_true rfl) (by omega) (by omega) (by omega) rfl ?_
                rw [hasB_f hw2 hss, hasN_f hw2 hss]
                refine q_if_eq 91 87 dX12_part_84 (by decide) rfl (fun h84 => ?_) (fun h84 => absurd rfl h84)
                refine q_aload_n 0 92 dX12_part_91 rfl rfl rfl ?_
                refine q_ldcS "chases" 94 sr_X12_152 dX12_part_92 rfl ?_
                refine q_cVi 0 [0, 1, 2] [3] [1, 2, 3, 0] 97 (wr := [_]) (w1 := _) (ws' := [_, _, _, _]) (p_has sw_X12_152 (by decide) (T := T) (e := e) (n := r) hT hb) m_X12_109 dX12_part_94 rfl rfl rfl rfl rfl rfl rfl rfl (by decide) (by decide) (by decide) (by decide) (Nat.le_of_ble_eq_true rfl) (by omega) (by omega) (by omega) rfl ?_
                rw [hasB_t hw3 hss, hasN_t hw3 hss]
                refine q_if_eq 104 100 dX12_part_97 (by decide) rfl (fun h97 => absurd h97 (by decide)) (fun h97 => ?_)
                refine q_iconst 3 101 dX12_part_100 ic_3 rfl ?_
                refine q_goto 118 dX12_part_101 (by decide) ?_
                refine q_istore_n 1 119 (L' := [_, _]) dX12_part_118 rfl (by decide) rfl rfl ?_
                refine q_iload_n 1 120 dX12_part_119 rfl rfl rfl ?_
                refine q_iconst (-1) 121 dX12_part_120 ic_m1 rfl ?_
                refine q_icmp_ne 134 124 dX12_part_121 (by decide) rfl (fun h121 => ?_) (fun h121 => absurd h121 (by decide))
                refine q_aload_n 0 135 dX12_part_134 rfl rfl rfl ?_
                refine q_getR 0 138 f_X12_26 dX12_part_135 rfl rfl rfl rfl ?_
                refine q_iload_n 1 139 dX12_part_138 rfl rfl rfl ?_
                refine q_iald 3 3 140 dX12_part_139 rfl ⟨by decide, by decide, by decide⟩ rfl ?_
                refine q_ireturn dX12_part_140 rfl ?_
                exact pR.rf
              · by_cases hw4 : isW T e r w_games
                · have hk : pK T e r = 4 := by unfold pK; rw [if_neg hw0, if_neg hw1, if_neg hw2, if_neg hw3, if_pos hw4]
                  rw [hk, if_neg (by decide), if_neg (by decide), if_neg (by decide), show pL 4 = 5 from rfl]
                  refine q_aload_n 0 53 dX12_part_52 rfl rfl rfl ?_
                  refine q_ldcS "mine" 55 sr_X12_146 dX12_part_53 rfl ?_
                  refine q_cVi 0 [0, 1, 2] [3] [1, 2, 3, 0] 58 (wr := [_]) (w1 := _) (ws' := [_, _, _, _]) (p_has sw_X12_146 (by decide) (T := T) (e := e) (n := r) hT hb) m_X12_109 dX12_part_55 rfl rfl rfl rfl rfl rfl rfl rfl (by decide) (by decide) (by decide) (by decide) (Nat.le_of_ble_eq_true rfl) (by omega) (by omega) (by omega) rfl ?_
                  rw [hasB_f hw0 hss, hasN_f hw0 hss]
                  refine q_if_eq 65 61 dX12_part_58 (by decide) rfl (fun h58 => ?_) (fun h58 => absurd rfl h58)
                  refine q_aload_n 0 66 dX12_part_65 rfl rfl rfl ?_
                  refine q_ldcS "his" 68 sr_X12_148 dX12_part_66 rfl ?_
                  refine q_cVi 0 [0, 1, 2] [3] [1, 2, 3, 0] 71 (wr := [_]) (w1 := _) (ws' := [_, _, _, _]) (p_has sw_X12_148 (by decide) (T := T) (e := e) (n := r) hT hb) m_X12_109 dX12_part_68 rfl rfl rfl rfl rfl rfl rfl rfl (by decide) (by decide) (by decide) (by decide) (Nat.le_of_ble_eq_true rfl) (by omega) (by omega) (by omega) rfl ?_
                  rw [hasB_f hw1 hss, hasN_f hw1 hss]
                  refine q_if_eq 78 74 dX12_part_71 (by decide) rfl (fun h71 => ?_) (fun h71 => absurd rfl h71)
                  refine q_aload_n 0 79 dX12_part_78 rfl rfl rfl ?_
                  refine q_ldcS "line" 81 sr_X12_150 dX12_part_79 rfl ?_
                  refine q_cVi 0 [0, 1, 2] [3] [1, 2, 3, 0] 84 (wr := [_]) (w1 := _) (ws' := [_, _, _, _]) (p_has sw_X12_150 (by decide) (T := T) (e := e) (n := r) hT hb) m_X12_109 dX12_part_81 rfl rfl rfl rfl rfl rfl rfl rfl (by decide) (by decide) (by decide) (by decide) (Nat.le_of_ble_eq_true rfl) (by omega) (by omega) (by omega) rfl ?_
                  rw [hasB_f hw2 hss, hasN_f hw2 hss]
                  refine q_if_eq 91 87 dX12_part_84 (by decide) rfl (fun h84 => ?_) (fun h84 => absurd rfl h84)
                  refine q_aload_n 0 92 dX12_part_91 rfl rfl rfl ?_
                  refine q_ldcS "chases" 94 sr_X12_152 dX12_part_92 rfl ?_
                  refine q_cVi 0 [0, 1, 2] [3] [1, 2, 3, 0] 97 (wr := [_]) (w1 := _) (ws' := [_, _, _, _]) (p_has sw_X12_152 (by decide) (T := T) (e := e) (n := r) hT hb) m_X12_109 dX12_part_94 rfl rfl rfl rfl rfl rfl rfl rfl (by decide) (by decide) (by decide) (by decide) (Nat.le_of_ble_eq_true rfl) (by omega) (by omega) (by omega) rfl ?_
                  rw [hasB_f hw3 hss, hasN_f hw3 hss]
                  refine q_if_eq 104 100 dX12_part_97 (by decide) rfl (fun h97 => ?_) (fun h97 => absurd rfl h97)
                  refine q_aload_n 0 105 dX12_part_104 rfl rfl rfl ?_
                  refine q_ldcS "games" 107 sr_X12_123 dX12_part_105 rfl ?_
                  refine q_cVi 0 [0, 1, 2] [3] [1, 2, 3, 0] 110 (wr := [_]) (w1 := _) (ws' := [_, _, _, _]) (p_has sw_X12_123 (by decide) (T := T) (e := e) (n := r) hT hb) m_X12_109 dX12_part_107 rfl rfl rfl rfl rfl rfl rfl rfl (by decide) (by decide) (by decide) (by decide) (Nat.le_of_ble_eq_true rfl) (by omega) (by omega) (by omega) rfl ?_
                  rw [hasB_t hw4 hss, hasN_t hw4 hss]
                  refine q_if_eq 117 113 dX12_part_110 (by decide) rfl (fun h110 => absurd h110 (by decide)) (fun h110 => ?_)
                  refine q_iconst 4 114 dX12_part_113 ic_4 rfl ?_
                  refine q_goto 118 dX12_part_114 (by decide) ?_
                  refine q_istore_n 1 119 (L' := [_, _]) dX12_part_118 rfl (by decide) rfl rfl ?_
                  refine q_iload_n 1 120 dX12_part_119 rfl rfl rfl ?_
                  refine q_iconst (-1) 121 dX12_part_120 ic_m1 rfl ?_
                  refine q_icmp_ne 134 124 dX12_part_121 (by decide) rfl (fun h121 => ?_) (fun h121 => absurd h121 (by decide))
                  refine q_aload_n 0 135 dX12_part_134 rfl rfl rfl ?_
                  refine q_getR 0 138 f_X12_26 dX12_part_135 rfl rfl rfl rfl ?_
                  refine q_iload_n 1 139 dX12_part_138 rfl rfl rfl ?_
                  refine q_iald 3 4 140 dX12_part_139 rfl ⟨by decide, by decide, by decide⟩ rfl ?_
                  refine q_ireturn dX12_part_140 rfl ?_
                  exact pR.rf
                · have hk : pK T e r = 5 := by unfold pK; rw [if_neg hw0, if_neg hw1, if_neg hw2, if_neg hw3, if_neg hw4]
                  rw [hk, if_pos rfl, if_pos rfl, if_pos rfl]
                  refine q_aload_n 0 53 dX12_part_52 rfl rfl rfl ?_
                  refine q_ldcS "mine" 55 sr_X12_146 dX12_part_53 rfl ?_
                  refine q_cVi 0 [0, 1, 2] [3] [1, 2, 3, 0] 58 (wr := [_]) (w1 := _) (ws' := [_, _, _, _]) (p_has sw_X12_146 (by decide) (T := T) (e := e) (n := r) hT hb) m_X12_109 dX12_part_55 rfl rfl rfl rfl rfl rfl rfl rfl (by decide) (by decide) (by decide) (by decide) (Nat.le_of_ble_eq_true rfl) (by omega) (by omega) (by omega) rfl ?_
                  rw [hasB_f hw0 hss, hasN_f hw0 hss]
                  refine q_if_eq 65 61 dX12_part_58 (by decide) rfl (fun h58 => ?_) (fun h58 => absurd rfl h58)
                  refine q_aload_n 0 66 dX12_part_65 rfl rfl rfl ?_
                  refine q_ldcS "his" 68 sr_X12_148 dX12_part_66 rfl ?_
                  refine q_cVi 0 [0, 1, 2] [3] [1, 2, 3, 0] 71 (wr := [_]) (w1 := _) (ws' := [_, _, _, _]) (p_has sw_X12_148 (by decide) (T := T) (e := e) (n := r) hT hb) m_X12_109 dX12_part_68 rfl rfl rfl rfl rfl rfl rfl rfl (by decide) (by decide) (by decide) (by decide) (Nat.le_of_ble_eq_true rfl) (by omega) (by omega) (by omega) rfl ?_
                  rw [hasB_f hw1 hss, hasN_f hw1 hss]
                  refine q_if_eq 78 74 dX12_part_71 (by decide) rfl (fun h71 => ?_) (fun h71 => absurd rfl h71)
                  refine q_aload_n 0 79 dX12_part_78 rfl rfl rfl ?_
                  refine q_ldcS "line" 81 sr_X12_150 dX12_part_79 rfl ?_
                  refine q_cVi 0 [0, 1, 2] [3] [1, 2, 3, 0] 84 (wr := [_]) (w1 := _) (ws' := [_, _, _, _]) (p_has sw_X12_150 (by decide) (T := T) (e := e) (n := r) hT hb) m_X12_109 dX12_part_81 rfl rfl rfl rfl rfl rfl rfl rfl (by decide) (by decide) (by decide) (by decide) (Nat.le_of_ble_eq_true rfl) (by omega) (by omega) (by omega) rfl ?_
                  rw [hasB_f hw2 hss, hasN_f hw2 hss]
                  refine q_if_eq 91 87 dX12_part_84 (by decide) rfl (fun h84 => ?_) (fun h84 => absurd rfl h84)
                  refine q_aload_n 0 92 dX12_part_91 rfl rfl rfl ?_
                  refine q_ldcS "chases" 94 sr_X12_152 dX12_part_92 rfl ?_
                  refine q_cVi 0 [0, 1, 2] [3] [1, 2, 3, 0] 97 (wr := [_]) (w1 := _) (ws' := [_, _, _, _]) (p_has sw_X12_152 (by decide) (T := T) (e := e) (n := r) hT hb) m_X12_109 dX12_part_94 rfl rfl rfl rfl rfl rfl rfl rfl (by decide) (by decide) (by decide) (by decide) (Nat.le_of_ble_eq_true rfl) (by omega) (by omega) (by omega) rfl ?_
                  rw [hasB_f hw3 hss, hasN_f hw3 hss]
                  refine q_if_eq 104 100 dX12_part_97 (by decide) rfl (fun h97 => ?_) (fun h97 => absurd rfl h97)
                  refine q_aload_n 0 105 dX12_part_104 rfl rfl rfl ?_
                  refine q_ldcS "games" 107 sr_X12_123 dX12_part_105 rfl ?_
                  refine q_cVi 0 [0, 1, 2] [3] [1, 2, 3, 0] 110 (wr := [_]) (w1 := _) (ws' := [_, _, _, _]) (p_has sw_X12_123 (by decide) (T := T) (e := e) (n := r) hT hb) m_X12_109 dX12_part_107 rfl rfl rfl rfl rfl rfl rfl rfl (by decide) (by decide) (by decide) (by decide) (Nat.le_of_ble_eq_true rfl) (by omega) (by omega) (by omega) rfl ?_
                  rw [hasB_f hw4 hss, hasN_f hw4 hss]
                  refine q_if_eq 117 113 dX12_part_110 (by decide) rfl (fun h110 => ?_) (fun h110 => absurd rfl h110)
                  refine q_iconst (-1) 118 dX12_part_117 ic_m1 rfl ?_
                  refine q_istore_n 1 119 (L' := [_, _]) dX12_part_118 rfl (by decide) rfl rfl ?_
                  refine q_iload_n 1 120 dX12_part_119 rfl rfl rfl ?_
                  refine q_iconst (-1) 121 dX12_part_120 ic_m1 rfl ?_
                  refine q_icmp_ne 134 124 dX12_part_121 (by decide) rfl (fun h121 => absurd (by decide) h121) (fun h121 => ?_)
                  refine q_aload_n 0 125 dX12_part_124 rfl rfl rfl ?_
                  refine q_aload_n 0 126 dX12_part_125 rfl rfl rfl ?_
                  refine q_getI 0 129 f_X12_80 dX12_part_126 rfl rfl rfl ?_
                  refine q_cVv 0 [0] [1, 2, 3] [3, 0, 1, 2] 132 (wr := [_, _, _]) (w1 := _) (ws' := [_, _, _, _]) p_wrong m_X12_103 dX12_part_129 rfl rfl rfl rfl rfl rfl rfl rfl (by decide) (by decide) (by decide) (by decide) (Nat.le_of_ble_eq_true rfl) (by omega) (by omega) (by omega) rfl ?_
                  refine q_iconst 0 133 dX12_part_132 ic_0 rfl ?_
                  refine q_ireturn dX12_part_133 rfl ?_
                  exact pR.rf
      by_cases hlt : r < e
      · skip
        refine q_aload_n 0 1 dX12_part_0 rfl rfl rfl ?_
        refine q_getI 0 4 f_X12_22 dX12_part_1 rfl rfl rfl ?_
        refine q_iconst (-1) 5 dX12_part_4 ic_m1 rfl ?_
        refine q_icmp_eq 10 8 dX12_part_5 (by decide) rfl (fun h5 => ?_) (fun h5 => absurd rfl h5)
        refine q_aload_n 0 11 dX12_part_10 rfl rfl rfl ?_
        refine q_cVv 0 [0, 1, 2] [3] [1, 2, 3, 0] 14 (wr := [_]) (w1 := _) (ws' := [_, _, _, _]) (p_skip (T := T) (e := e) (n := n) hT hn2) m_X12_90 dX12_part_11 rfl rfl rfl rfl rfl rfl rfl rfl (by decide) (by decide) (by decide) (by decide) (Nat.le_of_ble_eq_true rfl) (by omega) (by omega) (by omega) rfl ?_
        rw [hskn]
        refine q_aload_n 0 15 dX12_part_14 rfl rfl rfl ?_
        refine q_getI 0 18 f_X12_80 dX12_part_15 rfl rfl rfl ?_
        refine q_aload_n 0 19 dX12_part_18 rfl rfl rfl ?_
        refine q_getI 0 22 f_X12_83 dX12_part_19 rfl rfl rfl ?_
        refine q_icmp_ge 52 25 dX12_part_22 (by decide) rfl (fun h22 => absurd h22 (by show ¬ i 8 ≤ _; rw [hT.1]; exact nI_ge hlt (by omega))) (fun h22 => ?_)
        refine q_aload_n 0 26 dX12_part_25 rfl rfl rfl ?_
        refine q_aload_n 0 27 dX12_part_26 rfl rfl rfl ?_
        refine q_getI 0 30 f_X12_80 dX12_part_27 rfl rfl rfl ?_
        refine q_cVi 0 [0, 1, 2] [3] [1, 2, 3, 0] 33 (wr := [_]) (w1 := _) (ws' := [_, _, _, _]) (p_letter (T := T) (e := e) (k := r) hT rfl hlt) m_X12_86 dX12_part_30 rfl rfl rfl rfl rfl rfl rfl rfl (by decide) (by decide) (by decide) (by decide) (Nat.le_of_ble_eq_true rfl) (by omega) (by omega) (by omega) rfl ?_
        refine q_bipush 48 35 dX12_part_33 bc_48 rfl ?_
        refine q_bipush 57 37 dX12_part_35 bc_57 rfl ?_
        refine q_cSi [] [0, 1, 2, 3] [0, 1, 2, 3] 40 (wr := [_, _, _, _]) (w1 := _) (ws' := [_, _, _, _]) c_isIn m_X12_70 dX12_part_37 rfl rfl rfl rfl rfl (by decide) (by decide) (by decide) (by decide) (Nat.le_of_ble_eq_true rfl) (by omega) (by omega) (by omega) rfl ?_
        refine q_if_eq 52 43 dX12_part_40 (by decide) rfl (fun h40 => ?_) (fun h40 => absurd (Decidable.byContradiction (fun h => hd ⟨hlt, h⟩)) h40)
        exact K52
      · skip
        refine q_aload_n 0 1 dX12_part_0 rfl rfl rfl ?_
        refine q_getI 0 4 f_X12_22 dX12_part_1 rfl rfl rfl ?_
        refine q_iconst (-1) 5 dX12_part_4 ic_m1 rfl ?_
        refine q_icmp_eq 10 8 dX12_part_5 (by decide) rfl (fun h5 => ?_) (fun h5 => absurd rfl h5)
        refine q_aload_n 0 11 dX12_part_10 rfl rfl rfl ?_
        refine q_cVv 0 [0, 1, 2] [3] [1, 2, 3, 0] 14 (wr := [_]) (w1 := _) (ws' := [_, _, _, _]) (p_skip (T := T) (e := e) (n := n) hT hn2) m_X12_90 dX12_part_11 rfl rfl rfl rfl rfl rfl rfl rfl (by decide) (by decide) (by decide) (by decide) (Nat.le_of_ble_eq_true rfl) (by omega) (by omega) (by omega) rfl ?_
        rw [hskn]
        refine q_aload_n 0 15 dX12_part_14 rfl rfl rfl ?_
        refine q_getI 0 18 f_X12_80 dX12_part_15 rfl rfl rfl ?_
        refine q_aload_n 0 19 dX12_part_18 rfl rfl rfl ?_
        refine q_getI 0 22 f_X12_83 dX12_part_19 rfl rfl rfl ?_
        refine q_icmp_ge 52 25 dX12_part_22 (by decide) rfl (fun h22 => ?_) (fun h22 => absurd (by show i 8 ≤ _; rw [hT.1]; exact nI_le (by omega) (by omega)) h22)
        exact K52
  · rw [show ptV T fc e n f = 0 from if_neg hf, show ptN T e n f = n from if_neg hf, show ptF T e n f = f from if_neg hf]
    refine q_aload_n 0 1 dX12_part_0 rfl rfl rfl ?_
    refine q_getI 0 4 f_X12_22 dX12_part_1 rfl rfl rfl ?_
    refine q_iconst (-1) 5 dX12_part_4 ic_m1 rfl ?_
    refine q_icmp_eq 10 8 dX12_part_5 (by decide) rfl (fun h5 => absurd h5 hf) (fun h5 => ?_)
    refine q_iconst 0 9 dX12_part_8 ic_0 rfl ?_
    refine q_ireturn dX12_part_9 rfl ?_
    exact pR.rf

