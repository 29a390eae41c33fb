/-! ===== Scanner ===== -/
abbrev rS (t b n x : Nat) : List (Option Nat) := [some t, some b, some n, some x, none, none, none]
theorem c_X7_isLetter {l : Launch} {g : Gh} {v : Int32} : Cp l g yX7_isLetter (Cond.code yX7_isLetter cX7_isLetter 1 (some .boolean)) 1 [.int v] [] (some (.int (rIn v 97 122))) [] := by
  refine ct_of (M := mtX7_isLetter) [some (.int v)] rfl (by decide) (Nat.le_of_ble_eq_true rfl) (fun _ h => h) (fun a => ?_)
  refine q_iload_n 0 1 dX7_isLetter_0 rfl rfl rfl ?_
  refine q_bipush 97 3 dX7_isLetter_1 bc_97 rfl ?_
  refine q_icmp_lt 16 6 dX7_isLetter_3 (by decide) rfl (fun h3 => ?_) (fun h3 => ?_)
  · refine q_iconst 0 17 dX7_isLetter_16 ic_0 rfl ?_
    refine q_zreturn dX7_isLetter_17 rfl (Or.inl rfl) ?_
    exact pR.mk (by unfold rIn; split <;> first | rfl | (exfalso; (try simp only [i_lt, i_le, i_eq, Int32.reduceToInt] at *); omega)) rfl
  · refine q_iload_n 0 7 dX7_isLetter_6 rfl rfl rfl ?_
    refine q_bipush 122 9 dX7_isLetter_7 bc_122 rfl ?_
    refine q_icmp_gt 16 12 dX7_isLetter_9 (by decide) rfl (fun h9 => ?_) (fun h9 => ?_)
    · refine q_iconst 0 17 dX7_isLetter_16 ic_0 rfl ?_
      refine q_zreturn dX7_isLetter_17 rfl (Or.inl rfl) ?_
      exact pR.mk (by unfold rIn; split <;> first | rfl | (exfalso; (try simp only [i_lt, i_le, i_eq, Int32.reduceToInt] at *); omega)) rfl
    · refine q_iconst 1 13 dX7_isLetter_12 ic_1 rfl ?_
      refine q_goto 17 dX7_isLetter_13 (by decide) ?_
      refine q_zreturn dX7_isLetter_17 rfl (Or.inr rfl) ?_
      exact pR.mk (by unfold rIn; split <;> first | rfl | (exfalso; (try simp only [i_lt, i_le, i_eq, Int32.reduceToInt] at *); omega)) rfl
theorem c_X7_isDigit {l : Launch} {g : Gh} {v : Int32} : Cp l g yX7_isDigit (Cond.code yX7_isDigit cX7_isDigit 1 (some .boolean)) 1 [.int v] [] (some (.int (rIn v 48 57))) [] := by
  refine ct_of (M := mtX7_isDigit) [some (.int v)] rfl (by decide) (Nat.le_of_ble_eq_true rfl) (fun _ h => h) (fun a => ?_)
  refine q_iload_n 0 1 dX7_isDigit_0 rfl rfl rfl ?_
  refine q_bipush 48 3 dX7_isDigit_1 bc_48 rfl ?_
  refine q_icmp_lt 16 6 dX7_isDigit_3 (by decide) rfl (fun h3 => ?_) (fun h3 => ?_)
  · refine q_iconst 0 17 dX7_isDigit_16 ic_0 rfl ?_
    refine q_zreturn dX7_isDigit_17 rfl (Or.inl rfl) ?_
    exact pR.mk (by unfold rIn; split <;> first | rfl | (exfalso; (try simp only [i_lt, i_le, i_eq, Int32.reduceToInt] at *); omega)) rfl
  · refine q_iload_n 0 7 dX7_isDigit_6 rfl rfl rfl ?_
    refine q_bipush 57 9 dX7_isDigit_7 bc_57 rfl ?_
    refine q_icmp_gt 16 12 dX7_isDigit_9 (by decide) rfl (fun h9 => ?_) (fun h9 => ?_)
    · refine q_iconst 0 17 dX7_isDigit_16 ic_0 rfl ?_
      refine q_zreturn dX7_isDigit_17 rfl (Or.inl rfl) ?_
      exact pR.mk (by unfold rIn; split <;> first | rfl | (exfalso; (try simp only [i_lt, i_le, i_eq, Int32.reduceToInt] at *); omega)) rfl
    · refine q_iconst 1 13 dX7_isDigit_12 ic_1 rfl ?_
      refine q_goto 17 dX7_isDigit_13 (by decide) ?_
      refine q_zreturn dX7_isDigit_17 rfl (Or.inr rfl) ?_
      exact pR.mk (by unfold rIn; split <;> first | rfl | (exfalso; (try simp only [i_lt, i_le, i_eq, Int32.reduceToInt] at *); omega)) rfl
def nmS (T : Sc) (p : Nat) : Nat → Int32
  | 0 => 0
  | j + 1 => nmS T p j * 10 + T (p + j) - 48
def nmV (T : Sc) (p e : Nat) : Int32 := if 3 < e - p then 1000 else nmS T p (e - p)
theorem c_X7_numberAt {l : Launch} {g : Gh} {q t b n x : Nat} {i Tc : Sc} {p e : Nat} (hp : p ≤ e) (he : e ≤ 400) : Cp l g yX7_numberAt (Cond.code yX7_numberAt cX7_numberAt 5 (some .int)) 1 [.ref q, .int (nI p), .int (nI e)] [(q, ob 7 i (rS t b n x)), (x, aB g 400 Tc)] (some (.int (nmV Tc p e))) [(q, ob 7 i (rS t b n x)), (x, aB g 400 Tc)] := by
  refine ct_of (M := mtX7_numberAt) [some (.ref q), some (.int (nI p)), some (.int (nI e)), none, none] rfl (by decide) (Nat.le_of_ble_eq_true rfl) (fun _ h => h) (fun a => ?_)
  have es : nI e - nI p = nI (e - p) := pk_sub hp
  unfold nmV
  by_cases h3 : 3 < e - p
  · rw [if_pos h3]
    have hgt : ¬ nI (e - p) ≤ 3 := nI_ge (a := 3) h3 (by omega)
    refine q_iload_n 2 1 dX7_numberAt_0 rfl rfl rfl ?_
    refine q_iload_n 1 2 dX7_numberAt_1 rfl rfl rfl ?_
    refine q_isub 3 dX7_numberAt_2 rfl ?_
    rw [es]
    refine q_iconst 3 4 dX7_numberAt_3 ic_3 rfl ?_
    refine q_icmp_le 11 7 dX7_numberAt_4 (by decide) rfl (fun h4 => absurd h4 hgt) (fun h4 => ?_)
    refine q_sipush 1000 10 dX7_numberAt_7 sc_1000 rfl ?_
    refine q_ireturn dX7_numberAt_10 rfl ?_
    exact pR.rf
  · rw [if_neg h3]
    have hle : nI (e - p) ≤ 3 := nI_le (b := 3) (by omega) (by decide)
    have K : ∀ (c j : Nat), c + j = e - p → WPs l g mtX7_numberAt 1 0 0 (pR (some (.int (nmS Tc p (e - p)))) [(q, ob 7 i (rS t b n x)), (x, aB g 400 Tc)]) noX a 16 [some (.ref q), some (.int (nI p)), some (.int (nI e)), some (.int (nmS Tc p j)), some (.int (nI (p + j)))] [] [(q, ob 7 i (rS t b n x)), (x, aB g 400 Tc)] 0 0 := by
      intro c
      induction c with
      | zero =>
        intro j hj
        obtain rfl : j = e - p := by omega
        have hge : nI e ≤ nI (p + (e - p)) := nI_le (by omega) (by omega)
        generalize nmS Tc p (e - p) = v at *
        generalize p + (e - p) = k at *
        refine q_iload 4 18 dX7_numberAt_16 rfl rfl ?_
        refine q_iload_n 2 19 dX7_numberAt_18 rfl rfl rfl ?_
        refine q_icmp_ge 44 22 dX7_numberAt_19 (by decide) rfl (fun h19 => ?_) (fun h19 => absurd hge h19)
        refine q_iload_n 3 45 dX7_numberAt_44 rfl rfl rfl ?_
        refine q_ireturn dX7_numberAt_45 rfl ?_
        exact pR.rf
      | succ c ih =>
        intro j hj
        have hlt : ¬ nI e ≤ nI (p + j) := nI_ge (by omega) (by omega)
        have K1 := ih (j + 1) (by omega)
        rw [show nmS Tc p (j + 1) = nmS Tc p j * 10 + Tc (p + j) - 48 from rfl, show p + (j + 1) = p + j + 1 from rfl] at K1
        clear ih
        have b1 : p + j < 400 := by omega
        generalize nmS Tc p (e - p) = v9 at *
        generalize nmS Tc p j = v at *
        generalize p + j = k at *
        refine q_iload 4 18 dX7_numberAt_16 rfl rfl ?_
        refine q_iload_n 2 19 dX7_numberAt_18 rfl rfl rfl ?_
        refine q_icmp_ge 44 22 dX7_numberAt_19 (by decide) rfl (fun h19 => absurd h19 hlt) (fun h19 => ?_)
        refine q_iload_n 3 23 dX7_numberAt_22 rfl rfl rfl ?_
        refine q_bipush 10 25 dX7_numberAt_23 bc_10 rfl ?_
        refine q_imul 26 dX7_numberAt_25 rfl ?_
        refine q_aload_n 0 27 dX7_numberAt_26 rfl rfl rfl ?_
        refine q_getR 0 30 f_X7_21 dX7_numberAt_27 rfl rfl rfl rfl ?_
        refine q_iload 4 32 dX7_numberAt_30 rfl rfl ?_
        refine q_bald 1 k 33 dX7_numberAt_32 rfl ⟨rfl, by omega, by decide⟩ rfl ?_
        refine q_iadd 34 dX7_numberAt_33 rfl ?_
        refine q_bipush 48 36 dX7_numberAt_34 bc_48 rfl ?_
        refine q_isub 37 dX7_numberAt_36 rfl ?_
        refine q_istore_n 3 38 (L' := [_, _, _, _, _]) dX7_numberAt_37 rfl (by decide) rfl rfl ?_
        refine q_iinc 4 (nI (k + 1)) 41 (L' := [_, _, _, _, _]) dX7_numberAt_38 rfl (inc1 (k)) (by decide) rfl rfl ?_
        refine q_goto 16 dX7_numberAt_41 (by decide) ?_
        exact K1
    have K0 := K (e - p) 0 (by omega)
    rw [show nmS Tc p 0 = 0 from rfl, Nat.add_zero] at K0
    generalize nmS Tc p (e - p) = v9 at *
    refine q_iload_n 2 1 dX7_numberAt_0 rfl rfl rfl ?_
    refine q_iload_n 1 2 dX7_numberAt_1 rfl rfl rfl ?_
    refine q_isub 3 dX7_numberAt_2 rfl ?_
    rw [es]
    refine q_iconst 3 4 dX7_numberAt_3 ic_3 rfl ?_
    refine q_icmp_le 11 7 dX7_numberAt_4 (by decide) rfl (fun h4 => ?_) (fun h4 => absurd hle h4)
    refine q_iconst 0 12 dX7_numberAt_11 ic_0 rfl ?_
    refine q_istore_n 3 13 (L' := [_, _, _, _, _]) dX7_numberAt_12 rfl (by decide) rfl rfl ?_
    refine q_iload_n 1 14 dX7_numberAt_13 rfl rfl rfl ?_
    refine q_istore 4 16 (L' := [_, _, _, _, _]) dX7_numberAt_14 (by decide) rfl rfl ?_
    exact K0
/-- the letters from p to e spell bs -/
abbrev spW (T : Sc) (p e : Nat) (bs : List Int32) : Prop := e = p + bs.length ∧ spl T p bs
def spB (T : Sc) (p e : Nat) (bs : List Int32) : Int32 := if spW T p e bs then 1 else 0
theorem c_X7_spells {l : Launch} {g : Gh} {q t b n x : Nat} {i Tc : Sc} {p e : Nat} {o : String} {sq : Nat} {bs : List Int32} (hw : (o, sq, bs) ∈ sWords) (hbl : bs.length ≤ 100) (hp : p ≤ e) (he : e ≤ 400) : Cp l g yX7_spells (Cond.code yX7_spells cX7_spells 5 (some .boolean)) 5 [.ref q, .int (nI p), .int (nI e), .ref (g.2.2.1 o sq)] [(q, ob 7 i (rS t b n x)), (x, aB g 400 Tc)] (some (.int (spB Tc p e bs))) [(q, ob 7 i (rS t b n x)), (x, aB g 400 Tc)] := by
  refine ct_of (M := mtX7_spells) [some (.ref q), some (.int (nI p)), some (.int (nI e)), some (.ref (g.2.2.1 o sq)), none] rfl (by decide) (Nat.le_of_ble_eq_true rfl) (fun _ h => h) (fun a => ?_)
  have es : nI e - nI p = nI (e - p) := pk_sub hp
  unfold spB
  by_cases hlen : e = p + bs.length
  · have K15 : ∀ (c j : Nat), c + j = bs.length → (∀ j', j' < j → Tc (p + j') = bs.getD j' 0 &&& 255) → WPs l g mtX7_spells 5 0 0 (pR (some (.int (if spW Tc p e bs then 1 else 0))) [(q, ob 7 i (rS t b n x)), (x, aB g 400 Tc)]) noX a 15 [some (.ref q), some (.int (nI p)), some (.int (nI e)), some (.ref (g.2.2.1 o sq)), some (.int (nI j))] [] [(q, ob 7 i (rS t b n x)), (x, aB g 400 Tc)] 0 0 := by
      intro c
      induction c with
      | zero =>
        intro j hj hall
        obtain rfl : j = bs.length := by omega
        rw [if_pos ⟨hlen, hall⟩]
        refine q_iload 4 17 dX7_spells_15 rfl rfl ?_
        refine q_aload_n 3 18 dX7_spells_17 rfl rfl rfl ?_
        refine q_callVS [] [0, 1] 21 (wr := [_, _]) (c_J0_length hw (by omega)) m_X7_104 dX7_spells_18 rfl rfl hw rfl rfl rfl rfl rfl (by decide) (Nat.le_of_ble_eq_true rfl) (by omega) (by omega) (by omega) rfl (fun _ _ _ _ h => h.elim) (fun v0 w0 k' n' h => ?_)
        obtain ⟨rfl, rfl, rfl, rfl⟩ := h
        refine q_icmp_ge 50 24 dX7_spells_21 (by decide) rfl (fun h21 => ?_) (fun h21 => absurd (Int32.le_refl _) h21)
        refine q_iconst 1 51 dX7_spells_50 ic_1 rfl ?_
        refine q_zreturn dX7_spells_51 rfl (Or.inr rfl) ?_
        exact pR.rf
      | succ c ih =>
        intro j hj hall
        have K1 := ih (j + 1) (by omega)
        clear ih
        have ej : nI p + nI j = nI (p + j) := nI_add p j
        by_cases hc : Tc (p + j) = bs.getD j 0 &&& 255
        · skip
          refine q_iload 4 17 dX7_spells_15 rfl rfl ?_
          refine q_aload_n 3 18 dX7_spells_17 rfl rfl rfl ?_
          refine q_callVS [] [0, 1] 21 (wr := [_, _]) (c_J0_length hw (by omega)) m_X7_104 dX7_spells_18 rfl rfl hw rfl rfl rfl rfl rfl (by decide) (Nat.le_of_ble_eq_true rfl) (by omega) (by omega) (by omega) rfl (fun _ _ _ _ h => h.elim) (fun v0 w0 k' n' h => ?_)
          obtain ⟨rfl, rfl, rfl, rfl⟩ := h
          refine q_icmp_ge 50 24 dX7_spells_21 (by decide) rfl (fun h21 => absurd h21 (nI_ge (by omega) (by omega))) (fun h21 => ?_)
          refine q_aload_n 0 25 dX7_spells_24 rfl rfl rfl ?_
          refine q_getR 0 28 f_X7_21 dX7_spells_25 rfl rfl rfl rfl ?_
          refine q_iload_n 1 29 dX7_spells_28 rfl rfl rfl ?_
          refine q_iload 4 31 dX7_spells_29 rfl rfl ?_
          refine q_iadd 32 dX7_spells_31 rfl ?_
          refine q_bald 1 (p+j) 33 dX7_spells_32 rfl ⟨ej, by omega, by decide⟩ rfl ?_
          refine q_aload_n 3 34 dX7_spells_33 rfl rfl rfl ?_
          refine q_iload 4 36 dX7_spells_34 rfl rfl ?_
          refine q_callVS [] [0, 1] 39 (wr := [_, _]) (c_J0_charAt hw (j := j) ⟨rfl, by omega, by omega⟩) m_X7_109 dX7_spells_36 rfl rfl hw rfl rfl rfl rfl rfl (by decide) (Nat.le_of_ble_eq_true rfl) (by omega) (by omega) (by omega) rfl (fun _ _ _ _ h => h.elim) (fun v0 w0 k' n' h => ?_)
          obtain ⟨rfl, rfl, rfl, rfl⟩ := h
          refine q_icmp_eq 44 42 dX7_spells_39 (by decide) rfl (fun h39 => ?_) (fun h39 => absurd hc h39)
          refine q_iinc 4 (nI (j + 1)) 47 (L' := [_, _, _, _, _]) dX7_spells_44 rfl (inc1 (j)) (by decide) rfl rfl ?_
          refine q_goto 15 dX7_spells_47 (by decide) ?_
          exact K1 (fun j' hj' => by
            rcases Nat.lt_or_ge j' j with h | h
            · exact hall j' h
            · obtain rfl : j' = j := by omega
              exact hc)
        · rw [if_neg (fun h => hc (h.2 j (by omega)))]
          refine q_iload 4 17 dX7_spells_15 rfl rfl ?_
          refine q_aload_n 3 18 dX7_spells_17 rfl rfl rfl ?_
          refine q_callVS [] [0, 1] 21 (wr := [_, _]) (c_J0_length hw (by omega)) m_X7_104 dX7_spells_18 rfl rfl hw rfl rfl rfl rfl rfl (by decide) (Nat.le_of_ble_eq_true rfl) (by omega) (by omega) (by omega) rfl (fun _ _ _ _ h => h.elim) (fun v0 w0 k' n' h => ?_)
          obtain ⟨rfl, rfl, rfl, rfl⟩ := h
          refine q_icmp_ge 50 24 dX7_spells_21 (by decide) rfl (fun h21 => absurd h21 (nI_ge (by omega) (by omega))) (fun h21 => ?_)
          refine q_aload_n 0 25 dX7_spells_24 rfl rfl rfl ?_
          refine q_getR 0 28 f_X7_21 dX7_spells_25 rfl rfl rfl rfl ?_
          refine q_iload_n 1 29 dX7_spells_28 rfl rfl rfl ?_
          refine q_iload 4 31 dX7_spells_29 rfl rfl ?_
          refine q_iadd 32 dX7_spells_31 rfl ?_
          refine q_bald 1 (p+j) 33 dX7_spells_32 rfl ⟨ej, by omega, by decide⟩ rfl ?_
          refine q_aload_n 3 34 dX7_spells_33 rfl rfl rfl ?_
          refine q_iload 4 36 dX7_spells_34 rfl rfl ?_
          refine q_callVS [] [0, 1] 39 (wr := [_, _]) (c_J0_charAt hw (j := j) ⟨rfl, by omega, by omega⟩) m_X7_109 dX7_spells_36 rfl rfl hw rfl rfl rfl rfl rfl (by decide) (Nat.le_of_ble_eq_true rfl) (by omega) (by omega) (by omega) rfl (fun _ _ _ _ h => h.elim) (fun v0 w0 k' n' h => ?_)
          obtain ⟨rfl, rfl, rfl, rfl⟩ := h
          refine q_icmp_eq 44 42 dX7_spells_39 (by decide) rfl (fun h39 => absurd h39 hc) (fun h39 => ?_)
          refine q_iconst 0 43 dX7_spells_42 ic_0 rfl ?_
          refine q_zreturn dX7_spells_43 rfl (Or.inl rfl) ?_
          exact pR.rf
    refine q_iload_n 2 1 dX7_spells_0 rfl rfl rfl ?_
    refine q_iload_n 1 2 dX7_spells_1 rfl rfl rfl ?_
    refine q_isub 3 dX7_spells_2 rfl ?_
    rw [es]
    refine q_aload_n 3 4 dX7_spells_3 rfl rfl rfl ?_
    refine q_callVS [] [0, 1] 7 (wr := [_, _]) (c_J0_length hw (by omega)) m_X7_104 dX7_spells_4 rfl rfl hw rfl rfl rfl rfl rfl (by decide) (Nat.le_of_ble_eq_true rfl) (by omega) (by omega) (by omega) rfl (fun _ _ _ _ h => h.elim) (fun v0 w0 k' n' h => ?_)
    obtain ⟨rfl, rfl, rfl, rfl⟩ := h
    refine q_icmp_eq 12 10 dX7_spells_7 (by decide) rfl (fun h7 => ?_) (fun h7 => absurd (by congr 1; omega) h7)
    refine q_iconst 0 13 dX7_spells_12 ic_0 rfl ?_
    refine q_istore 4 15 (L' := [_, _, _, _, _]) dX7_spells_13 (by decide) rfl rfl ?_
    exact K15 bs.length 0 (by omega) (fun j' h => absurd h (by omega))
  · rw [if_neg (fun h => hlen h.1)]
    refine q_iload_n 2 1 dX7_spells_0 rfl rfl rfl ?_
    refine q_iload_n 1 2 dX7_spells_1 rfl rfl rfl ?_
    refine q_isub 3 dX7_spells_2 rfl ?_
    rw [es]
    refine q_aload_n 3 4 dX7_spells_3 rfl rfl rfl ?_
    refine q_callVS [] [0, 1] 7 (wr := [_, _]) (c_J0_length hw (by omega)) m_X7_104 dX7_spells_4 rfl rfl hw rfl rfl rfl rfl rfl (by decide) (Nat.le_of_ble_eq_true rfl) (by omega) (by omega) (by omega) rfl (fun _ _ _ _ h => h.elim) (fun v0 w0 k' n' h => ?_)
    obtain ⟨rfl, rfl, rfl, rfl⟩ := h
    refine q_icmp_eq 12 10 dX7_spells_7 (by decide) rfl (fun h7 => absurd h7 (fun h => hlen (by have := (nI_eq (by omega) (by omega)).mp h; omega))) (fun h7 => ?_)
    refine q_iconst 0 11 dX7_spells_10 ic_0 rfl ?_
    refine q_zreturn dX7_spells_11 rfl (Or.inl rfl) ?_
    exact pR.rf
def cwK (T : Sc) (p e : Nat) : Int32 := if spW T p e w_rally then 2 else if spW T p e w_won then 3 else if spW T p e w_lost then 4 else if spW T p e w_dead then 5 else if spW T p e w_games then 6 else if spW T p e w_club then 7 else if spW T p e w_even then 8 else 20
theorem c_X7_courtWordAt {l : Launch} {g : Gh} {q t b n x : Nat} {i Tc : Sc} {p e : Nat} (hp : p ≤ e) (he : e ≤ 400) : Cp l g yX7_courtWordAt (Cond.code yX7_courtWordAt cX7_courtWordAt 3 (some .int)) 6 [.ref q, .int (nI p), .int (nI e)] [(q, ob 7 i (rS t b n x)), (x, aB g 400 Tc)] (some (.int (cwK Tc p e))) [(q, ob 7 i (rS t b n x)), (x, aB g 400 Tc)] := by
  refine ct_of (M := mtX7_courtWordAt) [some (.ref q), some (.int (nI p)), some (.int (nI e))] rfl (by decide) (Nat.le_of_ble_eq_true rfl) (fun _ h => h) (fun a => ?_)
  have f_rally : spB Tc p e w_rally = 0 → ¬ spW Tc p e w_rally := fun h h2 => absurd (((if_pos h2).symm.trans h) : (1 : Int32) = 0) (by decide)
  have g_rally : ¬ spB Tc p e w_rally = 0 → spW Tc p e w_rally := fun h => Classical.byContradiction fun h2 => h (if_neg h2)
  have f_won : spB Tc p e w_won = 0 → ¬ spW Tc p e w_won := fun h h2 => absurd (((if_pos h2).symm.trans h) : (1 : Int32) = 0) (by decide)
  have g_won : ¬ spB Tc p e w_won = 0 → spW Tc p e w_won := fun h => Classical.byContradiction fun h2 => h (if_neg h2)
  have f_lost : spB Tc p e w_lost = 0 → ¬ spW Tc p e w_lost := fun h h2 => absurd (((if_pos h2).symm.trans h) : (1 : Int32) = 0) (by decide)
  have g_lost : ¬ spB Tc p e w_lost = 0 → spW Tc p e w_lost := fun h => Classical.byContradiction fun h2 => h (if_neg h2)
  have f_dead : spB Tc p e w_dead = 0 → ¬ spW Tc p e w_dead := fun h h2 => absurd (((if_pos h2).symm.trans h) : (1 : Int32) = 0) (by decide)
  have g_dead : ¬ spB Tc p e w_dead = 0 → spW Tc p e w_dead := fun h => Classical.byContradiction fun h2 => h (if_neg h2)
  have f_games : spB Tc p e w_games = 0 → ¬ spW Tc p e w_games := fun h h2 => absurd (((if_pos h2).symm.trans h) : (1 : Int32) = 0) (by decide)
  have g_games : ¬ spB Tc p e w_games = 0 → spW Tc p e w_games := fun h => Classical.byContradiction fun h2 => h (if_neg h2)
  have f_club : spB Tc p e w_club = 0 → ¬ spW Tc p e w_club := fun h h2 => absurd (((if_pos h2).symm.trans h) : (1 : Int32) = 0) (by decide)
  have g_club : ¬ spB Tc p e w_club = 0 → spW Tc p e w_club := fun h => Classical.byContradiction fun h2 => h (if_neg h2)
  have f_even : spB Tc p e w_even = 0 → ¬ spW Tc p e w_even := fun h h2 => absurd (((if_pos h2).symm.trans h) : (1 : Int32) = 0) (by decide)
  have g_even : ¬ spB Tc p e w_even = 0 → spW Tc p e w_even := fun h => Classical.byContradiction fun h2 => h (if_neg h2)
  unfold cwK
  refine q_aload_n 0 1 dX7_courtWordAt_0 rfl rfl rfl ?_
  refine q_iload_n 1 2 dX7_courtWordAt_1 rfl rfl rfl ?_
  refine q_iload_n 2 3 dX7_courtWordAt_2 rfl rfl rfl ?_
  refine q_ldcS "rally" 5 sr_X7_64 dX7_courtWordAt_3 rfl ?_
  refine q_cVi 0 [0, 1] [] [0, 1] 8 (wr := []) (w1 := _) (ws' := [_, _]) (c_X7_spells (bs := w_rally) sw_X7_64 (by decide) hp he) m_X7_66 dX7_courtWordAt_5 rfl rfl rfl rfl rfl rfl rfl rfl (by decide) (by decide) (by decide) (by decide) (Nat.le_of_ble_eq_true rfl) (by omega) (by omega) (by omega) rfl ?_
  refine q_if_eq 15 11 dX7_courtWordAt_8 (by decide) rfl (fun h_rally => ?_) (fun h_rally => ?_)
  · refine q_aload_n 0 16 dX7_courtWordAt_15 rfl rfl rfl ?_
    refine q_iload_n 1 17 dX7_courtWordAt_16 rfl rfl rfl ?_
    refine q_iload_n 2 18 dX7_courtWordAt_17 rfl rfl rfl ?_
    refine q_ldcS "won" 20 sr_X7_70 dX7_courtWordAt_18 rfl ?_
    refine q_cVi 0 [0, 1] [] [0, 1] 23 (wr := []) (w1 := _) (ws' := [_, _]) (c_X7_spells (bs := w_won) sw_X7_70 (by decide) hp he) m_X7_66 dX7_courtWordAt_20 rfl rfl rfl rfl rfl rfl rfl rfl (by decide) (by decide) (by decide) (by decide) (Nat.le_of_ble_eq_true rfl) (by omega) (by omega) (by omega) rfl ?_
    refine q_if_eq 30 26 dX7_courtWordAt_23 (by decide) rfl (fun h_won => ?_) (fun h_won => ?_)
    · refine q_aload_n 0 31 dX7_courtWordAt_30 rfl rfl rfl ?_
      refine q_iload_n 1 32 dX7_courtWordAt_31 rfl rfl rfl ?_
      refine q_iload_n 2 33 dX7_courtWordAt_32 rfl rfl rfl ?_
      refine q_ldcS "lost" 35 sr_X7_72 dX7_courtWordAt_33 rfl ?_
      refine q_cVi 0 [0, 1] [] [0, 1] 38 (wr := []) (w1 := _) (ws' := [_, _]) (c_X7_spells (bs := w_lost) sw_X7_72 (by decide) hp he) m_X7_66 dX7_courtWordAt_35 rfl rfl rfl rfl rfl rfl rfl rfl (by decide) (by decide) (by decide) (by decide) (Nat.le_of_ble_eq_true rfl) (by omega) (by omega) (by omega) rfl ?_
      refine q_if_eq 45 41 dX7_courtWordAt_38 (by decide) rfl (fun h_lost => ?_) (fun h_lost => ?_)
      · refine q_aload_n 0 46 dX7_courtWordAt_45 rfl rfl rfl ?_
        refine q_iload_n 1 47 dX7_courtWordAt_46 rfl rfl rfl ?_
        refine q_iload_n 2 48 dX7_courtWordAt_47 rfl rfl rfl ?_
        refine q_ldcS "dead" 50 sr_X7_74 dX7_courtWordAt_48 rfl ?_
        refine q_cVi 0 [0, 1] [] [0, 1] 53 (wr := []) (w1 := _) (ws' := [_, _]) (c_X7_spells (bs := w_dead) sw_X7_74 (by decide) hp he) m_X7_66 dX7_courtWordAt_50 rfl rfl rfl rfl rfl rfl rfl rfl (by decide) (by decide) (by decide) (by decide) (Nat.le_of_ble_eq_true rfl) (by omega) (by omega) (by omega) rfl ?_
        refine q_if_eq 60 56 dX7_courtWordAt_53 (by decide) rfl (fun h_dead => ?_) (fun h_dead => ?_)
        · refine q_aload_n 0 61 dX7_courtWordAt_60 rfl rfl rfl ?_
          refine q_iload_n 1 62 dX7_courtWordAt_61 rfl rfl rfl ?_
          refine q_iload_n 2 63 dX7_courtWordAt_62 rfl rfl rfl ?_
          refine q_ldcS "games" 65 sr_X7_76 dX7_courtWordAt_63 rfl ?_
          refine q_cVi 0 [0, 1] [] [0, 1] 68 (wr := []) (w1 := _) (ws' := [_, _]) (c_X7_spells (bs := w_games) sw_X7_76 (by decide) hp he) m_X7_66 dX7_courtWordAt_65 rfl rfl rfl rfl rfl rfl rfl rfl (by decide) (by decide) (by decide) (by decide) (Nat.le_of_ble_eq_true rfl) (by omega) (by omega) (by omega) rfl ?_
          refine q_if_eq 76 71 dX7_courtWordAt_68 (by decide) rfl (fun h_games => ?_) (fun h_games => ?_)
          · refine q_aload_n 0 77 dX7_courtWordAt_76 rfl rfl rfl ?_
            refine q_iload_n 1 78 dX7_courtWordAt_77 rfl rfl rfl ?_
            refine q_iload_n 2 79 dX7_courtWordAt_78 rfl rfl rfl ?_
            refine q_ldcS "club" 81 sr_X7_78 dX7_courtWordAt_79 rfl ?_
            refine q_cVi 0 [0, 1] [] [0, 1] 84 (wr := []) (w1 := _) (ws' := [_, _]) (c_X7_spells (bs := w_club) sw_X7_78 (by decide) hp he) m_X7_66 dX7_courtWordAt_81 rfl rfl rfl rfl rfl rfl rfl rfl (by decide) (by decide) (by decide) (by decide) (Nat.le_of_ble_eq_true rfl) (by omega) (by omega) (by omega) rfl ?_
            refine q_if_eq 92 87 dX7_courtWordAt_84 (by decide) rfl (fun h_club => ?_) (fun h_club => ?_)
            · refine q_aload_n 0 93 dX7_courtWordAt_92 rfl rfl rfl ?_
              refine q_iload_n 1 94 dX7_courtWordAt_93 rfl rfl rfl ?_
              refine q_iload_n 2 95 dX7_courtWordAt_94 rfl rfl rfl ?_
              refine q_ldcS "even" 97 sr_X7_80 dX7_courtWordAt_95 rfl ?_
              refine q_cVi 0 [0, 1] [] [0, 1] 100 (wr := []) (w1 := _) (ws' := [_, _]) (c_X7_spells (bs := w_even) sw_X7_80 (by decide) hp he) m_X7_66 dX7_courtWordAt_97 rfl rfl rfl rfl rfl rfl rfl rfl (by decide) (by decide) (by decide) (by decide) (Nat.le_of_ble_eq_true rfl) (by omega) (by omega) (by omega) rfl ?_
              refine q_if_eq 108 103 dX7_courtWordAt_100 (by decide) rfl (fun h_even => ?_) (fun h_even => ?_)
              · refine q_bipush 20 110 dX7_courtWordAt_108 bc_20 rfl ?_
                refine q_ireturn dX7_courtWordAt_110 rfl ?_
                first
                  | (rw [if_pos (g_rally h_rally)]; exact pR.rf)
                  | (rw [if_neg (f_rally h_rally), if_pos (g_won h_won)]; exact pR.rf)
                  | (rw [if_neg (f_rally h_rally), if_neg (f_won h_won), if_pos (g_lost h_lost)]; exact pR.rf)
                  | (rw [if_neg (f_rally h_rally), if_neg (f_won h_won), if_neg (f_lost h_lost), if_pos (g_dead h_dead)]; exact pR.rf)
                  | (rw [if_neg (f_rally h_rally), if_neg (f_won h_won), if_neg (f_lost h_lost), if_neg (f_dead h_dead), if_pos (g_games h_games)]; exact pR.rf)
                  | (rw [if_neg (f_rally h_rally), if_neg (f_won h_won), if_neg (f_lost h_lost), if_neg (f_dead h_dead), if_neg (f_games h_games), if_pos (g_club h_club)]; exact pR.rf)
                  | (rw [if_neg (f_rally h_rally), if_neg (f_won h_won), if_neg (f_lost h_lost), if_neg (f_dead h_dead), if_neg (f_games h_games), if_neg (f_club h_club), if_pos (g_even h_even)]; exact pR.rf)
                  | (rw [if_neg (f_rally h_rally), if_neg (f_won h_won), if_neg (f_lost h_lost), if_neg (f_dead h_dead), if_neg (f_games h_games), if_neg (f_club h_club), if_neg (f_even h_even)]; exact pR.rf)
              · refine q_bipush 8 105 dX7_courtWordAt_103 bc_8 rfl ?_
                refine q_goto 110 dX7_courtWordAt_105 (by decide) ?_
                refine q_ireturn dX7_courtWordAt_110 rfl ?_
                first
                  | (rw [if_pos (g_rally h_rally)]; exact pR.rf)
                  | (rw [if_neg (f_rally h_rally), if_pos (g_won h_won)]; exact pR.rf)
                  | (rw [if_neg (f_rally h_rally), if_neg (f_won h_won), if_pos (g_lost h_lost)]; exact pR.rf)
                  | (rw [if_neg (f_rally h_rally), if_neg (f_won h_won), if_neg (f_lost h_lost), if_pos (g_dead h_dead)]; exact pR.rf)
                  | (rw [if_neg (f_rally h_rally), if_neg (f_won h_won), if_neg (f_lost h_lost), if_neg (f_dead h_dead), if_pos (g_games h_games)]; exact pR.rf)
                  | (rw [if_neg (f_rally h_rally), if_neg (f_won h_won), if_neg (f_lost h_lost), if_neg (f_dead h_dead), if_neg (f_games h_games), if_pos (g_club h_club)]; exact pR.rf)
                  | (rw [if_neg (f_rally h_rally), if_neg (f_won h_won), if_neg (f_lost h_lost), if_neg (f_dead h_dead), if_neg (f_games h_games), if_neg (f_club h_club), if_pos (g_even h_even)]; exact pR.rf)
                  | (rw [if_neg (f_rally h_rally), if_neg (f_won h_won), if_neg (f_lost h_lost), if_neg (f_dead h_dead), if_neg (f_games h_games), if_neg (f_club h_club), if_neg (f_even h_even)]; exact pR.rf)
            · refine q_bipush 7 89 dX7_courtWordAt_87 bc_7 rfl ?_
              refine q_goto 110 dX7_courtWordAt_89 (by decide) ?_
              refine q_ireturn dX7_courtWordAt_110 rfl ?_
              first
                | (rw [if_pos (g_rally h_rally)]; exact pR.rf)
                | (rw [if_neg (f_rally h_rally), if_pos (g_won h_won)]; exact pR.rf)
                | (rw [if_neg (f_rally h_rally), if_neg (f_won h_won), if_pos (g_lost h_lost)]; exact pR.rf)
                | (rw [if_neg (f_rally h_rally), if_neg (f_won h_won), if_neg (f_lost h_lost), if_pos (g_dead h_dead)]; exact pR.rf)
                | (rw [if_neg (f_rally h_rally), if_neg (f_won h_won), if_neg (f_lost h_lost), if_neg (f_dead h_dead), if_pos (g_games h_games)]; exact pR.rf)
                | (rw [if_neg (f_rally h_rally), if_neg (f_won h_won), if_neg (f_lost h_lost), if_neg (f_dead h_dead), if_neg (f_games h_games), if_pos (g_club h_club)]; exact pR.rf)
                | (rw [if_neg (f_rally h_rally), if_neg (f_won h_won), if_neg (f_lost h_lost), if_neg (f_dead h_dead), if_neg (f_games h_games), if_neg (f_club h_club), if_pos (g_even h_even)]; exact pR.rf)
                | (rw [if_neg (f_rally h_rally), if_neg (f_won h_won), if_neg (f_lost h_lost), if_neg (f_dead h_dead), if_neg (f_games h_games), if_neg (f_club h_club), if_neg (f_even h_even)]; exact pR.rf)
          · refine q_bipush 6 73 dX7_courtWordAt_71 bc_6 rfl ?_
            refine q_goto 110 dX7_courtWordAt_73 (by decide) ?_
            refine q_ireturn dX7_courtWordAt_110 rfl ?_
            first
              | (rw [if_pos (g_rally h_rally)]; exact pR.rf)
              | (rw [if_neg (f_rally h_rally), if_pos (g_won h_won)]; exact pR.rf)
              | (rw [if_neg (f_rally h_rally), if_neg (f_won h_won), if_pos (g_lost h_lost)]; exact pR.rf)
              | (rw [if_neg (f_rally h_rally), if_neg (f_won h_won), if_neg (f_lost h_lost), if_pos (g_dead h_dead)]; exact pR.rf)
              | (rw [if_neg (f_rally h_rally), if_neg (f_won h_won), if_neg (f_lost h_lost), if_neg (f_dead h_dead), if_pos (g_games h_games)]; exact pR.rf)
              | (rw [if_neg (f_rally h_rally), if_neg (f_won h_won), if_neg (f_lost h_lost), if_neg (f_dead h_dead), if_neg (f_games h_games), if_pos (g_club h_club)]; exact pR.rf)
              | (rw [if_neg (f_rally h_rally), if_neg (f_won h_won), if_neg (f_lost h_lost), if_neg (f_dead h_dead), if_neg (f_games h_games), if_neg (f_club h_club), if_pos (g_even h_even)]; exact pR.rf)
              | (rw [if_neg (f_rally h_rally), if_neg (f_won h_won), if_neg (f_lost h_lost), if_neg (f_dead h_dead), if_neg (f_games h_games), if_neg (f_club h_club), if_neg (f_even h_even)]; exact pR.rf)
        · refine q_iconst 5 57 dX7_courtWordAt_56 ic_5 rfl ?_
          refine q_goto 110 dX7_courtWordAt_57 (by decide) ?_
          refine q_ireturn dX7_courtWordAt_110 rfl ?_
          first
            | (rw [if_pos (g_rally h_rally)]; exact pR.rf)
            | (rw [if_neg (f_rally h_rally), if_pos (g_won h_won)]; exact pR.rf)
            | (rw [if_neg (f_rally h_rally), if_neg (f_won h_won), if_pos (g_lost h_lost)]; exact pR.rf)
            | (rw [if_neg (f_rally h_rally), if_neg (f_won h_won), if_neg (f_lost h_lost), if_pos (g_dead h_dead)]; exact pR.rf)
            | (rw [if_neg (f_rally h_rally), if_neg (f_won h_won), if_neg (f_lost h_lost), if_neg (f_dead h_dead), if_pos (g_games h_games)]; exact pR.rf)
            | (rw [if_neg (f_rally h_rally), if_neg (f_won h_won), if_neg (f_lost h_lost), if_neg (f_dead h_dead), if_neg (f_games h_games), if_pos (g_club h_club)]; exact pR.rf)
            | (rw [if_neg (f_rally h_rally), if_neg (f_won h_won), if_neg (f_lost h_lost), if_neg (f_dead h_dead), if_neg (f_games h_games), if_neg (f_club h_club), if_pos (g_even h_even)]; exact pR.rf)
            | (rw [if_neg (f_rally h_rally), if_neg (f_won h_won), if_neg (f_lost h_lost), if_neg (f_dead h_dead), if_neg (f_games h_games), if_neg (f_club h_club), if_neg (f_even h_even)]; exact pR.rf)
      · refine q_iconst 4 42 dX7_courtWordAt_41 ic_4 rfl ?_
        refine q_goto 110 dX7_courtWordAt_42 (by decide) ?_
        refine q_ireturn dX7_courtWordAt_110 rfl ?_
        first
          | (rw [if_pos (g_rally h_rally)]; exact pR.rf)
          | (rw [if_neg (f_rally h_rally), if_pos (g_won h_won)]; exact pR.rf)
          | (rw [if_neg (f_rally h_rally), if_neg (f_won h_won), if_pos (g_lost h_lost)]; exact pR.rf)
          | (rw [if_neg (f_rally h_rally), if_neg (f_won h_won), if_neg (f_lost h_lost), if_pos (g_dead h_dead)]; exact pR.rf)
          | (rw [if_neg (f_rally h_rally), if_neg (f_won h_won), if_neg (f_lost h_lost), if_neg (f_dead h_dead), if_pos (g_games h_games)]; exact pR.rf)
          | (rw [if_neg (f_rally h_rally), if_neg (f_won h_won), if_neg (f_lost h_lost), if_neg (f_dead h_dead), if_neg (f_games h_games), if_pos (g_club h_club)]; exact pR.rf)
          | (rw [if_neg (f_rally h_rally), if_neg (f_won h_won), if_neg (f_lost h_lost), if_neg (f_dead h_dead), if_neg (f_games h_games), if_neg (f_club h_club), if_pos (g_even h_even)]; exact pR.rf)
          | (rw [if_neg (f_rally h_rally), if_neg (f_won h_won), if_neg (f_lost h_lost), if_neg (f_dead h_dead), if_neg (f_games h_games), if_neg (f_club h_club), if_neg (f_even h_even)]; exact pR.rf)
    · refine q_iconst 3 27 dX7_courtWordAt_26 ic_3 rfl ?_
      refine q_goto 110 dX7_courtWordAt_27 (by decide) ?_
      refine q_ireturn dX7_courtWordAt_110 rfl ?_
      first
        | (rw [if_pos (g_rally h_rally)]; exact pR.rf)
        | (rw [if_neg (f_rally h_rally), if_pos (g_won h_won)]; exact pR.rf)
        | (rw [if_neg (f_rally h_rally), if_neg (f_won h_won), if_pos (g_lost h_lost)]; exact pR.rf)
        | (rw [if_neg (f_rally h_rally), if_neg (f_won h_won), if_neg (f_lost h_lost), if_pos (g_dead h_dead)]; exact pR.rf)
        | (rw [if_neg (f_rally h_rally), if_neg (f_won h_won), if_neg (f_lost h_lost), if_neg (f_dead h_dead), if_pos (g_games h_games)]; exact pR.rf)
        | (rw [if_neg (f_rally h_rally), if_neg (f_won h_won), if_neg (f_lost h_lost), if_neg (f_dead h_dead), if_neg (f_games h_games), if_pos (g_club h_club)]; exact pR.rf)
        | (rw [if_neg (f_rally h_rally), if_neg (f_won h_won), if_neg (f_lost h_lost), if_neg (f_dead h_dead), if_neg (f_games h_games), if_neg (f_club h_club), if_pos (g_even h_even)]; exact pR.rf)
        | (rw [if_neg (f_rally h_rally), if_neg (f_won h_won), if_neg (f_lost h_lost), if_neg (f_dead h_dead), if_neg (f_games h_games), if_neg (f_club h_club), if_neg (f_even h_even)]; exact pR.rf)
  · refine q_iconst 2 12 dX7_courtWordAt_11 ic_2 rfl ?_
    refine q_goto 110 dX7_courtWordAt_12 (by decide) ?_
    refine q_ireturn dX7_courtWordAt_110 rfl ?_
    first
      | (rw [if_pos (g_rally h_rally)]; exact pR.rf)
      | (rw [if_neg (f_rally h_rally), if_pos (g_won h_won)]; exact pR.rf)
      | (rw [if_neg (f_rally h_rally), if_neg (f_won h_won), if_pos (g_lost h_lost)]; exact pR.rf)
      | (rw [if_neg (f_rally h_rally), if_neg (f_won h_won), if_neg (f_lost h_lost), if_pos (g_dead h_dead)]; exact pR.rf)
      | (rw [if_neg (f_rally h_rally), if_neg (f_won h_won), if_neg (f_lost h_lost), if_neg (f_dead h_dead), if_pos (g_games h_games)]; exact pR.rf)
      | (rw [if_neg (f_rally h_rally), if_neg (f_won h_won), if_neg (f_lost h_lost), if_neg (f_dead h_dead), if_neg (f_games h_games), if_pos (g_club h_club)]; exact pR.rf)
      | (rw [if_neg (f_rally h_rally), if_neg (f_won h_won), if_neg (f_lost h_lost), if_neg (f_dead h_dead), if_neg (f_games h_games), if_neg (f_club h_club), if_pos (g_even h_even)]; exact pR.rf)
      | (rw [if_neg (f_rally h_rally), if_neg (f_won h_won), if_neg (f_lost h_lost), if_neg (f_dead h_dead), if_neg (f_games h_games), if_neg (f_club h_club), if_neg (f_even h_even)]; exact pR.rf)
def rwK (T : Sc) (p e : Nat) : Int32 := if spW T p e w_style then 9 else if spW T p e w_if then 10 else if spW T p e w_or then 11 else if spW T p e w_and then 12 else if spW T p e w_not then 13 else if spW T p e w_serving then 14 else if spW T p e w_off then 15 else if spW T p e w_mine then 16 else if spW T p e w_his then 17 else if spW T p e w_line then 18 else if spW T p e w_chases then 19 else 20
theorem c_X7_ruleWordAt {l : Launch} {g : Gh} {q t b n x : Nat} {i Tc : Sc} {p e : Nat} (hp : p ≤ e) (he : e ≤ 400) : Cp l g yX7_ruleWordAt (Cond.code yX7_ruleWordAt cX7_ruleWordAt 3 (some .int)) 6 [.ref q, .int (nI p), .int (nI e)] [(q, ob 7 i (rS t b n x)), (x, aB g 400 Tc)] (some (.int (rwK Tc p e))) [(q, ob 7 i (rS t b n x)), (x, aB g 400 Tc)] := by
  refine ct_of (M := mtX7_ruleWordAt) [some (.ref q), some (.int (nI p)), some (.int (nI e))] rfl (by decide) (Nat.le_of_ble_eq_true rfl) (fun _ h => h) (fun a => ?_)
  have f_style : spB Tc p e w_style = 0 → ¬ spW Tc p e w_style := fun h h2 => absurd (((if_pos h2).symm.trans h) : (1 : Int32) = 0) (by decide)
  have g_style : ¬ spB Tc p e w_style = 0 → spW Tc p e w_style := fun h => Classical.byContradiction fun h2 => h (if_neg h2)
  have f_if : spB Tc p e w_if = 0 → ¬ spW Tc p e w_if := fun h h2 => absurd (((if_pos h2).symm.trans h) : (1 : Int32) = 0) (by decide)
  have g_if : ¬ spB Tc p e w_if = 0 → spW Tc p e w_if := fun h => Classical.byContradiction fun h2 => h (if_neg h2)
  have f_or : spB Tc p e w_or = 0 → ¬ spW Tc p e w_or := fun h h2 => absurd (((if_pos h2).symm.trans h) : (1 : Int32) = 0) (by decide)
  have g_or : ¬ spB Tc p e w_or = 0 → spW Tc p e w_or := fun h => Classical.byContradiction fun h2 => h (if_neg h2)
  have f_and : spB Tc p e w_and = 0 → ¬ spW Tc p e w_and := fun h h2 => absurd (((if_pos h2).symm.trans h) : (1 : Int32) = 0) (by decide)
  have g_and : ¬ spB Tc p e w_and = 0 → spW Tc p e w_and := fun h => Classical.byContradiction fun h2 => h (if_neg h2)
  have f_not : spB Tc p e w_not = 0 → ¬ spW Tc p e w_not := fun h h2 => absurd (((if_pos h2).symm.trans h) : (1 : Int32) = 0) (by decide)
  have g_not : ¬ spB Tc p e w_not = 0 → spW Tc p e w_not := fun h => Classical.byContradiction fun h2 => h (if_neg h2)
  have f_serving : spB Tc p e w_serving = 0 → ¬ spW Tc p e w_serving := fun h h2 => absurd (((if_pos h2).symm.trans h) : (1 : Int32) = 0) (by decide)
  have g_serving : ¬ spB Tc p e w_serving = 0 → spW Tc p e w_serving := fun h => Classical.byContradiction fun h2 => h (if_neg h2)
  have f_off : spB Tc p e w_off = 0 → ¬ spW Tc p e w_off := fun h h2 => absurd (((if_pos h2).symm.trans h) : (1 : Int32) = 0) (by decide)
  have g_off : ¬ spB Tc p e w_off = 0 → spW Tc p e w_off := fun h => Classical.byContradiction fun h2 => h (if_neg h2)
  have f_mine : spB Tc p e w_mine = 0 → ¬ spW Tc p e w_mine := fun h h2 => absurd (((if_pos h2).symm.trans h) : (1 : Int32) = 0) (by decide)
  have g_mine : ¬ spB Tc p e w_mine = 0 → spW Tc p e w_mine := fun h => Classical.byContradiction fun h2 => h (if_neg h2)
  have f_his : spB Tc p e w_his = 0 → ¬ spW Tc p e w_his := fun h h2 => absurd (((if_pos h2).symm.trans h) : (1 : Int32) = 0) (by decide)
  have g_his : ¬ spB Tc p e w_his = 0 → spW Tc p e w_his := fun h => Classical.byContradiction fun h2 => h (if_neg h2)
  have f_line : spB Tc p e w_line = 0 → ¬ spW Tc p e w_line := fun h h2 => absurd (((if_pos h2).symm.trans h) : (1 : Int32) = 0) (by decide)
  have g_line : ¬ spB Tc p e w_line = 0 → spW Tc p e w_line := fun h => Classical.byContradiction fun h2 => h (if_neg h2)
  have f_chases : spB Tc p e w_chases = 0 → ¬ spW Tc p e w_chases := fun h h2 => absurd (((if_pos h2).symm.trans h) : (1 : Int32) = 0) (by decide)
  have g_chases : ¬ spB Tc p e w_chases = 0 → spW Tc p e w_chases := fun h => Classical.byContradiction fun h2 => h (if_neg h2)
  unfold rwK
  refine q_aload_n 0 1 dX7_ruleWordAt_0 rfl rfl rfl ?_
  refine q_iload_n 1 2 dX7_ruleWordAt_1 rfl rfl rfl ?_
  refine q_iload_n 2 3 dX7_ruleWordAt_2 rfl rfl rfl ?_
  refine q_ldcS "style" 5 sr_X7_82 dX7_ruleWordAt_3 rfl ?_
  refine q_cVi 0 [0, 1] [] [0, 1] 8 (wr := []) (w1 := _) (ws' := [_, _]) (c_X7_spells (bs := w_style) sw_X7_82 (by decide) hp he) m_X7_66 dX7_ruleWordAt_5 rfl rfl rfl rfl rfl rfl rfl rfl (by decide) (by decide) (by decide) (by decide) (Nat.le_of_ble_eq_true rfl) (by omega) (by omega) (by omega) rfl ?_
  refine q_if_eq 16 11 dX7_ruleWordAt_8 (by decide) rfl (fun h_style => ?_) (fun h_style => ?_)
  · refine q_aload_n 0 17 dX7_ruleWordAt_16 rfl rfl rfl ?_
    refine q_iload_n 1 18 dX7_ruleWordAt_17 rfl rfl rfl ?_
    refine q_iload_n 2 19 dX7_ruleWordAt_18 rfl rfl rfl ?_
    refine q_ldcS "if" 21 sr_X7_84 dX7_ruleWordAt_19 rfl ?_
    refine q_cVi 0 [0, 1] [] [0, 1] 24 (wr := []) (w1 := _) (ws' := [_, _]) (c_X7_spells (bs := w_if) sw_X7_84 (by decide) hp he) m_X7_66 dX7_ruleWordAt_21 rfl rfl rfl rfl rfl rfl rfl rfl (by decide) (by decide) (by decide) (by decide) (Nat.le_of_ble_eq_true rfl) (by omega) (by omega) (by omega) rfl ?_
    refine q_if_eq 32 27 dX7_ruleWordAt_24 (by decide) rfl (fun h_if => ?_) (fun h_if => ?_)
    · refine q_aload_n 0 33 dX7_ruleWordAt_32 rfl rfl rfl ?_
      refine q_iload_n 1 34 dX7_ruleWordAt_33 rfl rfl rfl ?_
      refine q_iload_n 2 35 dX7_ruleWordAt_34 rfl rfl rfl ?_
      refine q_ldcS "or" 37 sr_X7_86 dX7_ruleWordAt_35 rfl ?_
      refine q_cVi 0 [0, 1] [] [0, 1] 40 (wr := []) (w1 := _) (ws' := [_, _]) (c_X7_spells (bs := w_or) sw_X7_86 (by decide) hp he) m_X7_66 dX7_ruleWordAt_37 rfl rfl rfl rfl rfl rfl rfl rfl (by decide) (by decide) (by decide) (by decide) (Nat.le_of_ble_eq_true rfl) (by omega) (by omega) (by omega) rfl ?_
      refine q_if_eq 48 43 dX7_ruleWordAt_40 (by decide) rfl (fun h_or => ?_) (fun h_or => ?_)
      · refine q_aload_n 0 49 dX7_ruleWordAt_48 rfl rfl rfl ?_
        refine q_iload_n 1 50 dX7_ruleWordAt_49 rfl rfl rfl ?_
        refine q_iload_n 2 51 dX7_ruleWordAt_50 rfl rfl rfl ?_
        refine q_ldcS "and" 53 sr_X7_88 dX7_ruleWordAt_51 rfl ?_
        refine q_cVi 0 [0, 1] [] [0, 1] 56 (wr := []) (w1 := _) (ws' := [_, _]) (c_X7_spells (bs := w_and) sw_X7_88 (by decide) hp he) m_X7_66 dX7_ruleWordAt_53 rfl rfl rfl rfl rfl rfl rfl rfl (by decide) (by decide) (by decide) (by decide) (Nat.le_of_ble_eq_true rfl) (by omega) (by omega) (by omega) rfl ?_
        refine q_if_eq 64 59 dX7_ruleWordAt_56 (by decide) rfl (fun h_and => ?_) (fun h_and => ?_)
        · refine q_aload_n 0 65 dX7_ruleWordAt_64 rfl rfl rfl ?_
          refine q_iload_n 1 66 dX7_ruleWordAt_65 rfl rfl rfl ?_
          refine q_iload_n 2 67 dX7_ruleWordAt_66 rfl rfl rfl ?_
          refine q_ldcS "not" 69 sr_X7_90 dX7_ruleWordAt_67 rfl ?_
          refine q_cVi 0 [0, 1] [] [0, 1] 72 (wr := []) (w1 := _) (ws' := [_, _]) (c_X7_spells (bs := w_not) sw_X7_90 (by decide) hp he) m_X7_66 dX7_ruleWordAt_69 rfl rfl rfl rfl rfl rfl rfl rfl (by decide) (by decide) (by decide) (by decide) (Nat.le_of_ble_eq_true rfl) (by omega) (by omega) (by omega) rfl ?_
          refine q_if_eq 80 75 dX7_ruleWordAt_72 (by decide) rfl (fun h_not => ?_) (fun h_not => ?_)
          · refine q_aload_n 0 81 dX7_ruleWordAt_80 rfl rfl rfl ?_
            refine q_iload_n 1 82 dX7_ruleWordAt_81 rfl rfl rfl ?_
            refine q_iload_n 2 83 dX7_ruleWordAt_82 rfl rfl rfl ?_
            refine q_ldcS "serving" 85 sr_X7_92 dX7_ruleWordAt_83 rfl ?_
            refine q_cVi 0 [0, 1] [] [0, 1] 88 (wr := []) (w1 := _) (ws' := [_, _]) (c_X7_spells (bs := w_serving) sw_X7_92 (by decide) hp he) m_X7_66 dX7_ruleWordAt_85 rfl rfl rfl rfl rfl rfl rfl rfl (by decide) (by decide) (by decide) (by decide) (Nat.le_of_ble_eq_true rfl) (by omega) (by omega) (by omega) rfl ?_
            refine q_if_eq 96 91 dX7_ruleWordAt_88 (by decide) rfl (fun h_serving => ?_) (fun h_serving => ?_)
            · refine q_aload_n 0 97 dX7_ruleWordAt_96 rfl rfl rfl ?_
              refine q_iload_n 1 98 dX7_ruleWordAt_97 rfl rfl rfl ?_
              refine q_iload_n 2 99 dX7_ruleWordAt_98 rfl rfl rfl ?_
              refine q_ldcS "off" 101 sr_X7_94 dX7_ruleWordAt_99 rfl ?_
              refine q_cVi 0 [0, 1] [] [0, 1] 104 (wr := []) (w1 := _) (ws' := [_, _]) (c_X7_spells (bs := w_off) sw_X7_94 (by decide) hp he) m_X7_66 dX7_ruleWordAt_101 rfl rfl rfl rfl rfl rfl rfl rfl (by decide) (by decide) (by decide) (by decide) (Nat.le_of_ble_eq_true rfl) (by omega) (by omega) (by omega) rfl ?_
              refine q_if_eq 112 107 dX7_ruleWordAt_104 (by decide) rfl (fun h_off => ?_) (fun h_off => ?_)
              · refine q_aload_n 0 113 dX7_ruleWordAt_112 rfl rfl rfl ?_
                refine q_iload_n 1 114 dX7_ruleWordAt_113 rfl rfl rfl ?_
                refine q_iload_n 2 115 dX7_ruleWordAt_114 rfl rfl rfl ?_
                refine q_ldcS "mine" 117 sr_X7_96 dX7_ruleWordAt_115 rfl ?_
                refine q_cVi 0 [0, 1] [] [0, 1] 120 (wr := []) (w1 := _) (ws' := [_, _]) (c_X7_spells (bs := w_mine) sw_X7_96 (by decide) hp he) m_X7_66 dX7_ruleWordAt_117 rfl rfl rfl rfl rfl rfl rfl rfl (by decide) (by decide) (by decide) (by decide) (Nat.le_of_ble_eq_true rfl) (by omega) (by omega) (by omega) rfl ?_
                refine q_if_eq 128 123 dX7_ruleWordAt_120 (by decide) rfl (fun h_mine => ?_) (fun h_mine => ?_)
                · refine q_aload_n 0 129 dX7_ruleWordAt_128 rfl rfl rfl ?_
                  refine q_iload_n 1 130 dX7_ruleWordAt_129 rfl rfl rfl ?_
                  refine q_iload_n 2 131 dX7_ruleWordAt_130 rfl rfl rfl ?_
                  refine q_ldcS "his" 133 sr_X7_98 dX7_ruleWordAt_131 rfl ?_
                  refine q_cVi 0 [0, 1] [] [0, 1] 136 (wr := []) (w1 := _) (ws' := [_, _]) (c_X7_spells (bs := w_his) sw_X7_98 (by decide) hp he) m_X7_66 dX7_ruleWordAt_133 rfl rfl rfl rfl rfl rfl rfl rfl (by decide) (by decide) (by decide) (by decide) (Nat.le_of_ble_eq_true rfl) (by omega) (by omega) (by omega) rfl ?_
                  refine q_if_eq 144 139 dX7_ruleWordAt_136 (by decide) rfl (fun h_his => ?_) (fun h_his => ?_)
                  · refine q_aload_n 0 145 dX7_ruleWordAt_144 rfl rfl rfl ?_
                    refine q_iload_n 1 146 dX7_ruleWordAt_145 rfl rfl rfl ?_
                    refine q_iload_n 2 147 dX7_ruleWordAt_146 rfl rfl rfl ?_
                    refine q_ldcS "line" 149 sr_X7_100 dX7_ruleWordAt_147 rfl ?_
                    refine q_cVi 0 [0, 1] [] [0, 1] 152 (wr := []) (w1 := _) (ws' := [_, _]) (c_X7_spells (bs := w_line) sw_X7_100 (by decide) hp he) m_X7_66 dX7_ruleWordAt_149 rfl rfl rfl rfl rfl rfl rfl rfl (by decide) (by decide) (by decide) (by decide) (Nat.le_of_ble_eq_true rfl) (by omega) (by omega) (by omega) rfl ?_
                    refine q_if_eq 160 155 dX7_ruleWordAt_152 (by decide) rfl (fun h_line => ?_) (fun h_line => ?_)
                    · refine q_aload_n 0 161 dX7_ruleWordAt_160 rfl rfl rfl ?_
                      refine q_iload_n 1 162 dX7_ruleWordAt_161 rfl rfl rfl ?_
                      refine q_iload_n 2 163 dX7_ruleWordAt_162 rfl rfl rfl ?_
                      refine q_ldcS "chases" 165 sr_X7_102 dX7_ruleWordAt_163 rfl ?_
                      refine q_cVi 0 [0, 1] [] [0, 1] 168 (wr := []) (w1 := _) (ws' := [_, _]) (c_X7_spells (bs := w_chases) sw_X7_102 (by decide) hp he) m_X7_66 dX7_ruleWordAt_165 rfl rfl rfl rfl rfl rfl rfl rfl (by decide) (by decide) (by decide) (by decide) (Nat.le_of_ble_eq_true rfl) (by omega) (by omega) (by omega) rfl ?_
                      refine q_if_eq 176 171 dX7_ruleWordAt_168 (by decide) rfl (fun h_chases => ?_) (fun h_chases => ?_)
                      · refine q_bipush 20 178 dX7_ruleWordAt_176 bc_20 rfl ?_
                        refine q_ireturn dX7_ruleWordAt_178 rfl ?_
                        first
                          | (rw [if_pos (g_style h_style)]; exact pR.rf)
                          | (rw [if_neg (f_style h_style), if_pos (g_if h_if)]; exact pR.rf)
                          | (rw [if_neg (f_style h_style), if_neg (f_if h_if), if_pos (g_or h_or)]; exact pR.rf)
                          | (rw [if_neg (f_style h_style), if_neg (f_if h_if), if_neg (f_or h_or), if_pos (g_and h_and)]; exact pR.rf)
                          | (rw [if_neg (f_style h_style), if_neg (f_if h_if), if_neg (f_or h_or), if_neg (f_and h_and), if_pos (g_not h_not)]; exact pR.rf)
                          | (rw [if_neg (f_style h_style), if_neg (f_if h_if), if_neg (f_or h_or), if_neg (f_and h_and), if_neg (f_not h_not), if_pos (g_serving h_serving)]; exact pR.rf)
                          | (rw [if_neg (f_style h_style), if_neg (f_if h_if), if_neg (f_or h_or), if_neg (f_and h_and), if_neg (f_not h_not), if_neg (f_serving h_serving), if_pos (g_off h_off)]; exact pR.rf)
                          | (rw [if_neg (f_style h_style), if_neg (f_if h_if), if_neg (f_or h_or), if_neg (f_and h_and), if_neg (f_not h_not), if_neg (f_serving h_serving), if_neg (f_off h_off), if_pos (g_mine h_mine)]; exact pR.rf)
                          | (rw [if_neg (f_style h_style), if_neg (f_if h_if), if_neg (f_or h_or), if_neg (f_and h_and), if_neg (f_not h_not), if_neg (f_serving h_serving), if_neg (f_off h_off), if_neg (f_mine h_mine), if_pos (g_his h_his)]; exact pR.rf)
                          | (rw [if_neg (f_style h_style), if_neg (f_if h_if), if_neg (f_or h_or), if_neg (f_and h_and), if_neg (f_not h_not), if_neg (f_serving h_serving), if_neg (f_off h_off), if_neg (f_mine h_mine), if_neg (f_his h_his), if_pos (g_line h_line)]; exact pR.rf)
                          | (rw [if_neg (f_style h_style), if_neg (f_if h_if), if_neg (f_or h_or), if_neg (f_and h_and), if_neg (f_not h_not), if_neg (f_serving h_serving), if_neg (f_off h_off), if_neg (f_mine h_mine), if_neg (f_his h_his), if_neg (f_line h_line), if_pos (g_chases h_chases)]; exact pR.rf)
                          | (rw [if_neg (f_style h_style), if_neg (f_if h_if), if_neg (f_or h_or), if_neg (f_and h_and), if_neg (f_not h_not), if_neg (f_serving h_serving), if_neg (f_off h_off), if_neg (f_mine h_mine), if_neg (f_his h_his), if_neg (f_line h_line), if_neg (f_chases h_chases)]; exact pR.rf)
                      · refine q_bipush 19 173 dX7_ruleWordAt_171 bc_19 rfl ?_
                        refine q_goto 178 dX7_ruleWordAt_173 (by decide) ?_
                        refine q_ireturn dX7_ruleWordAt_178 rfl ?_
                        first
                          | (rw [if_pos (g_style h_style)]; exact pR.rf)
                          | (rw [if_neg (f_style h_style), if_pos (g_if h_if)]; exact pR.rf)
                          | (rw [if_neg (f_style h_style), if_neg (f_if h_if), if_pos (g_or h_or)]; exact pR.rf)
                          | (rw [if_neg (f_style h_style), if_neg (f_if h_if), if_neg (f_or h_or), if_pos (g_and h_and)]; exact pR.rf)
                          | (rw [if_neg (f_style h_style), if_neg (f_if h_if), if_neg (f_or h_or), if_neg (f_and h_and), if_pos (g_not h_not)]; exact pR.rf)
                          | (rw [if_neg (f_style h_style), if_neg (f_if h_if), if_neg (f_or h_or), if_neg (f_and h_and), if_neg (f_not h_not), if_pos (g_serving h_serving)]; exact pR.rf)
                          | (rw [if_neg (f_style h_style), if_neg (f_if h_if), if_neg (f_or h_or), if_neg (f_and h_and), if_neg (f_not h_not), if_neg (f_serving h_serving), if_pos (g_off h_off)]; exact pR.rf)
                          | (rw [if_neg (f_style h_style), if_neg (f_if h_if), if_neg (f_or h_or), if_neg (f_and h_and), if_neg (f_not h_not), if_neg (f_serving h_serving), if_neg (f_off h_off), if_pos (g_mine h_mine)]; exact pR.rf)
                          | (rw [if_neg (f_style h_style), if_neg (f_if h_if), if_neg (f_or h_or), if_neg (f_and h_and), if_neg (f_not h_not), if_neg (f_serving h_serving), if_neg (f_off h_off), if_neg (f_mine h_mine), if_pos (g_his h_his)]; exact pR.rf)
                          | (rw [if_neg (f_style h_style), if_neg (f_if h_if), if_neg (f_or h_or), if_neg (f_and h_and), if_neg (f_not h_not), if_neg (f_serving h_serving), if_neg (f_off h_off), if_neg (f_mine h_mine), if_neg (f_his h_his), if_pos (g_line h_line)]; exact pR.rf)
                          | (rw [if_neg (f_style h_style), if_neg (f_if h_if), if_neg (f_or h_or), if_neg (f_and h_and), if_neg (f_not h_not), if_neg (f_serving h_serving), if_neg (f_off h_off), if_neg (f_mine h_mine), if_neg (f_his h_his), if_neg (f_line h_line), if_pos (g_chases h_chases)]; exact pR.rf)
                          | (rw [if_neg (f_style h_style), if_neg (f_if h_if), if_neg (f_or h_or), if_neg (f_and h_and), if_neg (f_not h_not), if_neg (f_serving h_serving), if_neg (f_off h_off), if_neg (f_mine h_mine), if_neg (f_his h_his), if_neg (f_line h_line), if_neg (f_chases h_chases)]; exact pR.rf)
                    · refine q_bipush 18 157 dX7_ruleWordAt_155 bc_18 rfl ?_
                      refine q_goto 178 dX7_ruleWordAt_157 (by decide) ?_
                      refine q_ireturn dX7_ruleWordAt_178 rfl ?_
                      first
                        | (rw [if_pos (g_style h_style)]; exact pR.rf)
                        | (rw [if_neg (f_style h_style), if_pos (g_if h_if)]; exact pR.rf)
                        | (rw [if_neg (f_style h_style), if_neg (f_if h_if), if_pos (g_or h_or)]; exact pR.rf)
                        | (rw [if_neg (f_style h_style), if_neg (f_if h_if), if_neg (f_or h_or), if_pos (g_and h_and)]; exact pR.rf)
                        | (rw [if_neg (f_style h_style), if_neg (f_if h_if), if_neg (f_or h_or), if_neg (f_and h_and), if_pos (g_not h_not)]; exact pR.rf)
                        | (rw [if_neg (f_style h_style), if_neg (f_if h_if), if_neg (f_or h_or), if_neg (f_and h_and), if_neg (f_not h_not), if_pos (g_serving h_serving)]; exact pR.rf)
                        | (rw [if_neg (f_style h_style), if_neg (f_if h_if), if_neg (f_or h_or), if_neg (f_and h_and), if_neg (f_not h_not), if_neg (f_serving h_serving), if_pos (g_off h_off)]; exact pR.rf)
                        | (rw [if_neg (f_style h_style), if_neg (f_if h_if), if_neg (f_or h_or), if_neg (f_and h_and), if_neg (f_not h_not), if_neg (f_serving h_serving), if_neg (f_off h_off), if_pos (g_mine h_mine)]; exact pR.rf)
                        | (rw [if_neg (f_style h_style), if_neg (f_if h_if), if_neg (f_or h_or), if_neg (f_and h_and), if_neg (f_not h_not), if_neg (f_serving h_serving), if_neg (f_off h_off), if_neg (f_mine h_mine), if_pos (g_his h_his)]; exact pR.rf)
                        | (rw [if_neg (f_style h_style), if_neg (f_if h_if), if_neg (f_or h_or), if_neg (f_and h_and), if_neg (f_not h_not), if_neg (f_serving h_serving), if_neg (f_off h_off), if_neg (f_mine h_mine), if_neg (f_his h_his), if_pos (g_line h_line)]; exact pR.rf)
                        | (rw [if_neg (f_style h_style), if_neg (f_if h_if), if_neg (f_or h_or), if_neg (f_and h_and), if_neg (f_not h_not), if_neg (f_serving h_serving), if_neg (f_off h_off), if_neg (f_mine h_mine), if_neg (f_his h_his), if_neg (f_line h_line), if_pos (g_chases h_chases)]; exact pR.rf)
                        | (rw [if_neg (f_style h_style), if_neg (f_if h_if), if_neg (f_or h_or), if_neg (f_and h_and), if_neg (f_not h_not), if_neg (f_serving h_serving), if_neg (f_off h_off), if_neg (f_mine h_mine), if_neg (f_his h_his), if_neg (f_line h_line), if_neg (f_chases h_chases)]; exact pR.rf)
                  · refine q_bipush 17 141 dX7_ruleWordAt_139 bc_17 rfl ?_
                    refine q_goto 178 dX7_ruleWordAt_141 (by decide) ?_
                    refine q_ireturn dX7_ruleWordAt_178 rfl ?_
                    first
                      | (rw [if_pos (g_style h_style)]; exact pR.rf)
                      | (rw [if_neg (f_style h_style), if_pos (g_if h_if)]; exact pR.rf)
                      | (rw [if_neg (f_style h_style), if_neg (f_if h_if), if_pos (g_or h_or)]; exact pR.rf)
                      | (rw [if_neg (f_style h_style), if_neg (f_if h_if), if_neg (f_or h_or), if_pos (g_and h_and)]; exact pR.rf)
                      | (rw [if_neg (f_style h_style), if_neg (f_if h_if), if_neg (f_or h_or), if_neg (f_and h_and), if_pos (g_not h_not)]; exact pR.rf)
                      | (rw [if_neg (f_style h_style), if_neg (f_if h_if), if_neg (f_or h_or), if_neg (f_and h_and), if_neg (f_not h_not), if_pos (g_serving h_serving)]; exact pR.rf)
                      | (rw [if_neg (f_style h_style), if_neg (f_if h_if), if_neg (f_or h_or), if_neg (f_and h_and), if_neg (f_not h_not), if_neg (f_serving h_serving), if_pos (g_off h_off)]; exact pR.rf)
                      | (rw [if_neg (f_style h_style), if_neg (f_if h_if), if_neg (f_or h_or), if_neg (f_and h_and), if_neg (f_not h_not), if_neg (f_serving h_serving), if_neg (f_off h_off), if_pos (g_mine h_mine)]; exact pR.rf)
                      | (rw [if_neg (f_style h_style), if_neg (f_if h_if), if_neg (f_or h_or), if_neg (f_and h_and), if_neg (f_not h_not), if_neg (f_serving h_serving), if_neg (f_off h_off), if_neg (f_mine h_mine), if_pos (g_his h_his)]; exact pR.rf)
                      | (rw [if_neg (f_style h_style), if_neg (f_if h_if), if_neg (f_or h_or), if_neg (f_and h_and), if_neg (f_not h_not), if_neg (f_serving h_serving), if_neg (f_off h_off), if_neg (f_mine h_mine), if_neg (f_his h_his), if_pos (g_line h_line)]; exact pR.rf)
                      | (rw [if_neg (f_style h_style), if_neg (f_if h_if), if_neg (f_or h_or), if_neg (f_and h_and), if_neg (f_not h_not), if_neg (f_serving h_serving), if_neg (f_off h_off), if_neg (f_mine h_mine), if_neg (f_his h_his), if_neg (f_line h_line), if_pos (g_chases h_chases)]; exact pR.rf)
                      | (rw [if_neg (f_style h_style), if_neg (f_if h_if), if_neg (f_or h_or), if_neg (f_and h_and), if_neg (f_not h_not), if_neg (f_serving h_serving), if_neg (f_off h_off), if_neg (f_mine h_mine), if_neg (f_his h_his), if_neg (f_line h_line), if_neg (f_chases h_chases)]; exact pR.rf)
                · refine q_bipush 16 125 dX7_ruleWordAt_123 bc_16 rfl ?_
                  refine q_goto 178 dX7_ruleWordAt_125 (by decide) ?_
                  refine q_ireturn dX7_ruleWordAt_178 rfl ?_
                  first
                    | (rw [if_pos (g_style h_style)]; exact pR.rf)
                    | (rw [if_neg (f_style h_style), if_pos (g_if h_if)]; exact pR.rf)
                    | (rw [if_neg (f_style h_style), if_neg (f_if h_if), if_pos (g_or h_or)]; exact pR.rf)
                    | (rw [if_neg (f_style h_style), if_neg (f_if h_if), if_neg (f_or h_or), if_pos (g_and h_and)]; exact pR.rf)
                    | (rw [if_neg (f_style h_style), if_neg (f_if h_if), if_neg (f_or h_or), if_neg (f_and h_and), if_pos (g_not h_not)]; exact pR.rf)
                    | (rw [if_neg (f_style h_style), if_neg (f_if h_if), if_neg (f_or h_or), if_neg (f_and h_and), if_neg (f_not h_not), if_pos (g_serving h_serving)]; exact pR.rf)
                    | (rw [if_neg (f_style h_style), if_neg (f_if h_if), if_neg (f_or h_or), if_neg (f_and h_and), if_neg (f_not h_not), if_neg (f_serving h_serving), if_pos (g_off h_off)]; exact pR.rf)
                    | (rw [if_neg (f_style h_style), if_neg (f_if h_if), if_neg (f_or h_or), if_neg (f_and h_and), if_neg (f_not h_not), if_neg (f_serving h_serving), if_neg (f_off h_off), if_pos (g_mine h_mine)]; exact pR.rf)
                    | (rw [if_neg (f_style h_style), if_neg (f_if h_if), if_neg (f_or h_or), if_neg (f_and h_and), if_neg (f_not h_not), if_neg (f_serving h_serving), if_neg (f_off h_off), if_neg (f_mine h_mine), if_pos (g_his h_his)]; exact pR.rf)
                    | (rw [if_neg (f_style h_style), if_neg (f_if h_if), if_neg (f_or h_or), if_neg (f_and h_and), if_neg (f_not h_not), if_neg (f_serving h_serving), if_neg (f_off h_off), if_neg (f_mine h_mine), if_neg (f_his h_his), if_pos (g_line h_line)]; exact pR.rf)
                    | (rw [if_neg (f_style h_style), if_neg (f_if h_if), if_neg (f_or h_or), if_neg (f_and h_and), if_neg (f_not h_not), if_neg (f_serving h_serving), if_neg (f_off h_off), if_neg (f_mine h_mine), if_neg (f_his h_his), if_neg (f_line h_line), if_pos (g_chases h_chases)]; exact pR.rf)
                    | (rw [if_neg (f_style h_style), if_neg (f_if h_if), if_neg (f_or h_or), if_neg (f_and h_and), if_neg (f_not h_not), if_neg (f_serving h_serving), if_neg (f_off h_off), if_neg (f_mine h_mine), if_neg (f_his h_his), if_neg (f_line h_line), if_neg (f_chases h_chases)]; exact pR.rf)
              · refine q_bipush 15 109 dX7_ruleWordAt_107 bc_15 rfl ?_
                refine q_goto 178 dX7_ruleWordAt_109 (by decide) ?_
                refine q_ireturn dX7_ruleWordAt_178 rfl ?_
                first
                  | (rw [if_pos (g_style h_style)]; exact pR.rf)
                  | (rw [if_neg (f_style h_style), if_pos (g_if h_if)]; exact pR.rf)
                  | (rw [if_neg (f_style h_style), if_neg (f_if h_if), if_pos (g_or h_or)]; exact pR.rf)
                  | (rw [if_neg (f_style h_style), if_neg (f_if h_if), if_neg (f_or h_or), if_pos (g_and h_and)]; exact pR.rf)
                  | (rw [if_neg (f_style h_style), if_neg (f_if h_if), if_neg (f_or h_or), if_neg (f_and h_and), if_pos (g_not h_not)]; exact pR.rf)
                  | (rw [if_neg (f_style h_style), if_neg (f_if h_if), if_neg (f_or h_or), if_neg (f_and h_and), if_neg (f_not h_not), if_pos (g_serving h_serving)]; exact pR.rf)
                  | (rw [if_neg (f_style h_style), if_neg (f_if h_if), if_neg (f_or h_or), if_neg (f_and h_and), if_neg (f_not h_not), if_neg (f_serving h_serving), if_pos (g_off h_off)]; exact pR.rf)
                  | (rw [if_neg (f_style h_style), if_neg (f_if h_if), if_neg (f_or h_or), if_neg (f_and h_and), if_neg (f_not h_not), if_neg (f_serving h_serving), if_neg (f_off h_off), if_pos (g_mine h_mine)]; exact pR.rf)
                  | (rw [if_neg (f_style h_style), if_neg (f_if h_if), if_neg (f_or h_or), if_neg (f_and h_and), if_neg (f_not h_not), if_neg (f_serving h_serving), if_neg (f_off h_off), if_neg (f_mine h_mine), if_pos (g_his h_his)]; exact pR.rf)
                  | (rw [if_neg (f_style h_style), if_neg (f_if h_if), if_neg (f_or h_or), if_neg (f_and h_and), if_neg (f_not h_not), if_neg (f_serving h_serving), if_neg (f_off h_off), if_neg (f_mine h_mine), if_neg (f_his h_his), if_pos (g_line h_line)]; exact pR.rf)
                  | (rw [if_neg (f_style h_style), if_neg (f_if h_if), if_neg (f_or h_or), if_neg (f_and h_and), if_neg (f_not h_not), if_neg (f_serving h_serving), if_neg (f_off h_off), if_neg (f_mine h_mine), if_neg (f_his h_his), if_neg (f_line h_line), if_pos (g_chases h_chases)]; exact pR.rf)
                  | (rw [if_neg (f_style h_style), if_neg (f_if h_if), if_neg (f_or h_or), if_neg (f_and h_and), if_neg (f_not h_not), if_neg (f_serving h_serving), if_neg (f_off h_off), if_neg (f_mine h_mine), if_neg (f_his h_his), if_neg (f_line h_line), if_neg (f_chases h_chases)]; exact pR.rf)
            · refine q_bipush 14 93 dX7_ruleWordAt_91 bc_14 rfl ?_
              refine q_goto 178 dX7_ruleWordAt_93 (by decide) ?_
              refine q_ireturn dX7_ruleWordAt_178 rfl ?_
              first
                | (rw [if_pos (g_style h_style)]; exact pR.rf)
                | (rw [if_neg (f_style h_style), if_pos (g_if h_if)]; exact pR.rf)
                | (rw [if_neg (f_style h_style), if_neg (f_if h_if), if_pos (g_or h_or)]; exact pR.rf)
                | (rw [if_neg (f_style h_style), if_neg (f_if h_if), if_neg (f_or h_or), if_pos (g_and h_and)]; exact pR.rf)
                | (rw [if_neg (f_style h_style), if_neg (f_if h_if), if_neg (f_or h_or), if_neg (f_and h_and), if_pos (g_not h_not)]; exact pR.rf)
                | (rw [if_neg (f_style h_style), if_neg (f_if h_if), if_neg (f_or h_or), if_neg (f_and h_and), if_neg (f_not h_not), if_pos (g_serving h_serving)]; exact pR.rf)
                | (rw [if_neg (f_style h_style), if_neg (f_if h_if), if_neg (f_or h_or), if_neg (f_and h_and), if_neg (f_not h_not), if_neg (f_serving h_serving), if_pos (g_off h_off)]; exact pR.rf)
                | (rw [if_neg (f_style h_style), if_neg (f_if h_if), if_neg (f_or h_or), if_neg (f_and h_and), if_neg (f_not h_not), if_neg (f_serving h_serving), if_neg (f_off h_off), if_pos (g_mine h_mine)]; exact pR.rf)
                | (rw [if_neg (f_style h_style), if_neg (f_if h_if), if_neg (f_or h_or), if_neg (f_and h_and), if_neg (f_not h_not), if_neg (f_serving h_serving), if_neg (f_off h_off), if_neg (f_mine h_mine), if_pos (g_his h_his)]; exact pR.rf)
                | (rw [if_neg (f_style h_style), if_neg (f_if h_if), if_neg (f_or h_or), if_neg (f_and h_and), if_neg (f_not h_not), if_neg (f_serving h_serving), if_neg (f_off h_off), if_neg (f_mine h_mine), if_neg (f_his h_his), if_pos (g_line h_line)]; exact pR.rf)
                | (rw [if_neg (f_style h_style), if_neg (f_if h_if), if_neg (f_or h_or), if_neg (f_and h_and), if_neg (f_not h_not), if_neg (f_serving h_serving), if_neg (f_off h_off), if_neg (f_mine h_mine), if_neg (f_his h_his), if_neg (f_line h_line), if_pos (g_chases h_chases)]; exact pR.rf)
                | (rw [if_neg (f_style h_style), if_neg (f_if h_if), if_neg (f_or h_or), if_neg (f_and h_and), if_neg (f_not h_not), if_neg (f_serving h_serving), if_neg (f_off h_off), if_neg (f_mine h_mine), if_neg (f_his h_his), if_neg (f_line h_line), if_neg (f_chases h_chases)]; exact pR.rf)
          · refine q_bipush 13 77 dX7_ruleWordAt_75 bc_13 rfl ?_
            refine q_goto 178 dX7_ruleWordAt_77 (by decide) ?_
            refine q_ireturn dX7_ruleWordAt_178 rfl ?_
            first
              | (rw [if_pos (g_style h_style)]; exact pR.rf)
              | (rw [if_neg (f_style h_style), if_pos (g_if h_if)]; exact pR.rf)
              | (rw [if_neg (f_style h_style), if_neg (f_if h_if), if_pos (g_or h_or)]; exact pR.rf)
              | (rw [if_neg (f_style h_style), if_neg (f_if h_if), if_neg (f_or h_or), if_pos (g_and h_and)]; exact pR.rf)
              | (rw [if_neg (f_style h_style), if_neg (f_if h_if), if_neg (f_or h_or), if_neg (f_and h_and), if_pos (g_not h_not)]; exact pR.rf)
              | (rw [if_neg (f_style h_style), if_neg (f_if h_if), if_neg (f_or h_or), if_neg (f_and h_and), if_neg (f_not h_not), if_pos (g_serving h_serving)]; exact pR.rf)
              | (rw [if_neg (f_style h_style), if_neg (f_if h_if), if_neg (f_or h_or), if_neg (f_and h_and), if_neg (f_not h_not), if_neg (f_serving h_serving), if_pos (g_off h_off)]; exact pR.rf)
              | (rw [if_neg (f_style h_style), if_neg (f_if h_if), if_neg (f_or h_or), if_neg (f_and h_and), if_neg (f_not h_not), if_neg (f_serving h_serving), if_neg (f_off h_off), if_pos (g_mine h_mine)]; exact pR.rf)
              | (rw [if_neg (f_style h_style), if_neg (f_if h_if), if_neg (f_or h_or), if_neg (f_and h_and), if_neg (f_not h_not), if_neg (f_serving h_serving), if_neg (f_off h_off), if_neg (f_mine h_mine), if_pos (g_his h_his)]; exact pR.rf)
              | (rw [if_neg (f_style h_style), if_neg (f_if h_if), if_neg (f_or h_or), if_neg (f_and h_and), if_neg (f_not h_not), if_neg (f_serving h_serving), if_neg (f_off h_off), if_neg (f_mine h_mine), if_neg (f_his h_his), if_pos (g_line h_line)]; exact pR.rf)
              | (rw [if_neg (f_style h_style), if_neg (f_if h_if), if_neg (f_or h_or), if_neg (f_and h_and), if_neg (f_not h_not), if_neg (f_serving h_serving), if_neg (f_off h_off), if_neg (f_mine h_mine), if_neg (f_his h_his), if_neg (f_line h_line), if_pos (g_chases h_chases)]; exact pR.rf)
              | (rw [if_neg (f_style h_style), if_neg (f_if h_if), if_neg (f_or h_or), if_neg (f_and h_and), if_neg (f_not h_not), if_neg (f_serving h_serving), if_neg (f_off h_off), if_neg (f_mine h_mine), if_neg (f_his h_his), if_neg (f_line h_line), if_neg (f_chases h_chases)]; exact pR.rf)
        · refine q_bipush 12 61 dX7_ruleWordAt_59 bc_12 rfl ?_
          refine q_goto 178 dX7_ruleWordAt_61 (by decide) ?_
          refine q_ireturn dX7_ruleWordAt_178 rfl ?_
          first
            | (rw [if_pos (g_style h_style)]; exact pR.rf)
            | (rw [if_neg (f_style h_style), if_pos (g_if h_if)]; exact pR.rf)
            | (rw [if_neg (f_style h_style), if_neg (f_if h_if), if_pos (g_or h_or)]; exact pR.rf)
            | (rw [if_neg (f_style h_style), if_neg (f_if h_if), if_neg (f_or h_or), if_pos (g_and h_and)]; exact pR.rf)
            | (rw [if_neg (f_style h_style), if_neg (f_if h_if), if_neg (f_or h_or), if_neg (f_and h_and), if_pos (g_not h_not)]; exact pR.rf)
            | (rw [if_neg (f_style h_style), if_neg (f_if h_if), if_neg (f_or h_or), if_neg (f_and h_and), if_neg (f_not h_not), if_pos (g_serving h_serving)]; exact pR.rf)
            | (rw [if_neg (f_style h_style), if_neg (f_if h_if), if_neg (f_or h_or), if_neg (f_and h_and), if_neg (f_not h_not), if_neg (f_serving h_serving), if_pos (g_off h_off)]; exact pR.rf)
            | (rw [if_neg (f_style h_style), if_neg (f_if h_if), if_neg (f_or h_or), if_neg (f_and h_and), if_neg (f_not h_not), if_neg (f_serving h_serving), if_neg (f_off h_off), if_pos (g_mine h_mine)]; exact pR.rf)
            | (rw [if_neg (f_style h_style), if_neg (f_if h_if), if_neg (f_or h_or), if_neg (f_and h_and), if_neg (f_not h_not), if_neg (f_serving h_serving), if_neg (f_off h_off), if_neg (f_mine h_mine), if_pos (g_his h_his)]; exact pR.rf)
            | (rw [if_neg (f_style h_style), if_neg (f_if h_if), if_neg (f_or h_or), if_neg (f_and h_and), if_neg (f_not h_not), if_neg (f_serving h_serving), if_neg (f_off h_off), if_neg (f_mine h_mine), if_neg (f_his h_his), if_pos (g_line h_line)]; exact pR.rf)
            | (rw [if_neg (f_style h_style), if_neg (f_if h_if), if_neg (f_or h_or), if_neg (f_and h_and), if_neg (f_not h_not), if_neg (f_serving h_serving), if_neg (f_off h_off), if_neg (f_mine h_mine), if_neg (f_his h_his), if_neg (f_line h_line), if_pos (g_chases h_chases)]; exact pR.rf)
            | (rw [if_neg (f_style h_style), if_neg (f_if h_if), if_neg (f_or h_or), if_neg (f_and h_and), if_neg (f_not h_not), if_neg (f_serving h_serving), if_neg (f_off h_off), if_neg (f_mine h_mine), if_neg (f_his h_his), if_neg (f_line h_line), if_neg (f_chases h_chases)]; exact pR.rf)
      · refine q_bipush 11 45 dX7_ruleWordAt_43 bc_11 rfl ?_
        refine q_goto 178 dX7_ruleWordAt_45 (by decide) ?_
        refine q_ireturn dX7_ruleWordAt_178 rfl ?_
        first
          | (rw [if_pos (g_style h_style)]; exact pR.rf)
          | (rw [if_neg (f_style h_style), if_pos (g_if h_if)]; exact pR.rf)
          | (rw [if_neg (f_style h_style), if_neg (f_if h_if), if_pos (g_or h_or)]; exact pR.rf)
          | (rw [if_neg (f_style h_style), if_neg (f_if h_if), if_neg (f_or h_or), if_pos (g_and h_and)]; exact pR.rf)
          | (rw [if_neg (f_style h_style), if_neg (f_if h_if), if_neg (f_or h_or), if_neg (f_and h_and), if_pos (g_not h_not)]; exact pR.rf)
          | (rw [if_neg (f_style h_style), if_neg (f_if h_if), if_neg (f_or h_or), if_neg (f_and h_and), if_neg (f_not h_not), if_pos (g_serving h_serving)]; exact pR.rf)
          | (rw [if_neg (f_style h_style), if_neg (f_if h_if), if_neg (f_or h_or), if_neg (f_and h_and), if_neg (f_not h_not), if_neg (f_serving h_serving), if_pos (g_off h_off)]; exact pR.rf)
          | (rw [if_neg (f_style h_style), if_neg (f_if h_if), if_neg (f_or h_or), if_neg (f_and h_and), if_neg (f_not h_not), if_neg (f_serving h_serving), if_neg (f_off h_off), if_pos (g_mine h_mine)]; exact pR.rf)
          | (rw [if_neg (f_style h_style), if_neg (f_if h_if), if_neg (f_or h_or), if_neg (f_and h_and), if_neg (f_not h_not), if_neg (f_serving h_serving), if_neg (f_off h_off), if_neg (f_mine h_mine), if_pos (g_his h_his)]; exact pR.rf)
          | (rw [if_neg (f_style h_style), if_neg (f_if h_if), if_neg (f_or h_or), if_neg (f_and h_and), if_neg (f_not h_not), if_neg (f_serving h_serving), if_neg (f_off h_off), if_neg (f_mine h_mine), if_neg (f_his h_his), if_pos (g_line h_line)]; exact pR.rf)
          | (rw [if_neg (f_style h_style), if_neg (f_if h_if), if_neg (f_or h_or), if_neg (f_and h_and), if_neg (f_not h_not), if_neg (f_serving h_serving), if_neg (f_off h_off), if_neg (f_mine h_mine), if_neg (f_his h_his), if_neg (f_line h_line), if_pos (g_chases h_chases)]; exact pR.rf)
          | (rw [if_neg (f_style h_style), if_neg (f_if h_if), if_neg (f_or h_or), if_neg (f_and h_and), if_neg (f_not h_not), if_neg (f_serving h_serving), if_neg (f_off h_off), if_neg (f_mine h_mine), if_neg (f_his h_his), if_neg (f_line h_line), if_neg (f_chases h_chases)]; exact pR.rf)
    · refine q_bipush 10 29 dX7_ruleWordAt_27 bc_10 rfl ?_
      refine q_goto 178 dX7_ruleWordAt_29 (by decide) ?_
      refine q_ireturn dX7_ruleWordAt_178 rfl ?_
      first
        | (rw [if_pos (g_style h_style)]; exact pR.rf)
        | (rw [if_neg (f_style h_style), if_pos (g_if h_if)]; exact pR.rf)
        | (rw [if_neg (f_style h_style), if_neg (f_if h_if), if_pos (g_or h_or)]; exact pR.rf)
        | (rw [if_neg (f_style h_style), if_neg (f_if h_if), if_neg (f_or h_or), if_pos (g_and h_and)]; exact pR.rf)
        | (rw [if_neg (f_style h_style), if_neg (f_if h_if), if_neg (f_or h_or), if_neg (f_and h_and), if_pos (g_not h_not)]; exact pR.rf)
        | (rw [if_neg (f_style h_style), if_neg (f_if h_if), if_neg (f_or h_or), if_neg (f_and h_and), if_neg (f_not h_not), if_pos (g_serving h_serving)]; exact pR.rf)
        | (rw [if_neg (f_style h_style), if_neg (f_if h_if), if_neg (f_or h_or), if_neg (f_and h_and), if_neg (f_not h_not), if_neg (f_serving h_serving), if_pos (g_off h_off)]; exact pR.rf)
        | (rw [if_neg (f_style h_style), if_neg (f_if h_if), if_neg (f_or h_or), if_neg (f_and h_and), if_neg (f_not h_not), if_neg (f_serving h_serving), if_neg (f_off h_off), if_pos (g_mine h_mine)]; exact pR.rf)
        | (rw [if_neg (f_style h_style), if_neg (f_if h_if), if_neg (f_or h_or), if_neg (f_and h_and), if_neg (f_not h_not), if_neg (f_serving h_serving), if_neg (f_off h_off), if_neg (f_mine h_mine), if_pos (g_his h_his)]; exact pR.rf)
        | (rw [if_neg (f_style h_style), if_neg (f_if h_if), if_neg (f_or h_or), if_neg (f_and h_and), if_neg (f_not h_not), if_neg (f_serving h_serving), if_neg (f_off h_off), if_neg (f_mine h_mine), if_neg (f_his h_his), if_pos (g_line h_line)]; exact pR.rf)
        | (rw [if_neg (f_style h_style), if_neg (f_if h_if), if_neg (f_or h_or), if_neg (f_and h_and), if_neg (f_not h_not), if_neg (f_serving h_serving), if_neg (f_off h_off), if_neg (f_mine h_mine), if_neg (f_his h_his), if_neg (f_line h_line), if_pos (g_chases h_chases)]; exact pR.rf)
        | (rw [if_neg (f_style h_style), if_neg (f_if h_if), if_neg (f_or h_or), if_neg (f_and h_and), if_neg (f_not h_not), if_neg (f_serving h_serving), if_neg (f_off h_off), if_neg (f_mine h_mine), if_neg (f_his h_his), if_neg (f_line h_line), if_neg (f_chases h_chases)]; exact pR.rf)
  · refine q_bipush 9 13 dX7_ruleWordAt_11 bc_9 rfl ?_
    refine q_goto 178 dX7_ruleWordAt_13 (by decide) ?_
    refine q_ireturn dX7_ruleWordAt_178 rfl ?_
    first
      | (rw [if_pos (g_style h_style)]; exact pR.rf)
      | (rw [if_neg (f_style h_style), if_pos (g_if h_if)]; exact pR.rf)
      | (rw [if_neg (f_style h_style), if_neg (f_if h_if), if_pos (g_or h_or)]; exact pR.rf)
      | (rw [if_neg (f_style h_style), if_neg (f_if h_if), if_neg (f_or h_or), if_pos (g_and h_and)]; exact pR.rf)
      | (rw [if_neg (f_style h_style), if_neg (f_if h_if), if_neg (f_or h_or), if_neg (f_and h_and), if_pos (g_not h_not)]; exact pR.rf)
      | (rw [if_neg (f_style h_style), if_neg (f_if h_if), if_neg (f_or h_or), if_neg (f_and h_and), if_neg (f_not h_not), if_pos (g_serving h_serving)]; exact pR.rf)
      | (rw [if_neg (f_style h_style), if_neg (f_if h_if), if_neg (f_or h_or), if_neg (f_and h_and), if_neg (f_not h_not), if_neg (f_serving h_serving), if_pos (g_off h_off)]; exact pR.rf)
      | (rw [if_neg (f_style h_style), if_neg (f_if h_if), if_neg (f_or h_or), if_neg (f_and h_and), if_neg (f_not h_not), if_neg (f_serving h_serving), if_neg (f_off h_off), if_pos (g_mine h_mine)]; exact pR.rf)
      | (rw [if_neg (f_style h_style), if_neg (f_if h_if), if_neg (f_or h_or), if_neg (f_and h_and), if_neg (f_not h_not), if_neg (f_serving h_serving), if_neg (f_off h_off), if_neg (f_mine h_mine), if_pos (g_his h_his)]; exact pR.rf)
      | (rw [if_neg (f_style h_style), if_neg (f_if h_if), if_neg (f_or h_or), if_neg (f_and h_and), if_neg (f_not h_not), if_neg (f_serving h_serving), if_neg (f_off h_off), if_neg (f_mine h_mine), if_neg (f_his h_his), if_pos (g_line h_line)]; exact pR.rf)
      | (rw [if_neg (f_style h_style), if_neg (f_if h_if), if_neg (f_or h_or), if_neg (f_and h_and), if_neg (f_not h_not), if_neg (f_serving h_serving), if_neg (f_off h_off), if_neg (f_mine h_mine), if_neg (f_his h_his), if_neg (f_line h_line), if_pos (g_chases h_chases)]; exact pR.rf)
      | (rw [if_neg (f_style h_style), if_neg (f_if h_if), if_neg (f_or h_or), if_neg (f_and h_and), if_neg (f_not h_not), if_neg (f_serving h_serving), if_neg (f_off h_off), if_neg (f_mine h_mine), if_neg (f_his h_his), if_neg (f_line h_line), if_neg (f_chases h_chases)]; exact pR.rf)
def wdK (T : Sc) (p e : Nat) : Int32 := if cwK T p e = 20 then rwK T p e else cwK T p e
theorem c_X7_wordAt {l : Launch} {g : Gh} {q t b n x : Nat} {i Tc : Sc} {p e : Nat} (hp : p ≤ e) (he : e ≤ 400) : Cp l g yX7_wordAt (Cond.code yX7_wordAt cX7_wordAt 4 (some .int)) 7 [.ref q, .int (nI p), .int (nI e)] [(q, ob 7 i (rS t b n x)), (x, aB g 400 Tc)] (some (.int (wdK Tc p e))) [(q, ob 7 i (rS t b n x)), (x, aB g 400 Tc)] := by
  refine ct_of (M := mtX7_wordAt) [some (.ref q), some (.int (nI p)), some (.int (nI e)), none] rfl (by decide) (Nat.le_of_ble_eq_true rfl) (fun _ h => h) (fun a => ?_)
  unfold wdK
  refine q_aload_n 0 1 dX7_wordAt_0 rfl rfl rfl ?_
  refine q_iload_n 1 2 dX7_wordAt_1 rfl rfl rfl ?_
  refine q_iload_n 2 3 dX7_wordAt_2 rfl rfl rfl ?_
  refine q_cVi 0 [0, 1] [] [0, 1] 6 (wr := []) (w1 := _) (ws' := [_, _]) (c_X7_courtWordAt hp he) m_X7_58 dX7_wordAt_3 rfl rfl rfl rfl rfl rfl rfl rfl (by decide) (by decide) (by decide) (by decide) (Nat.le_of_ble_eq_true rfl) (by omega) (by omega) (by omega) rfl ?_
  refine q_istore_n 3 7 (L' := [_, _, _, _]) dX7_wordAt_6 rfl (by decide) rfl rfl ?_
  refine q_iload_n 3 8 dX7_wordAt_7 rfl rfl rfl ?_
  refine q_bipush 20 10 dX7_wordAt_8 bc_20 rfl ?_
  refine q_icmp_eq 17 13 dX7_wordAt_10 (by decide) rfl (fun hz => ?_) (fun hz => ?_)
  · refine q_aload_n 0 18 dX7_wordAt_17 rfl rfl rfl ?_
    refine q_iload_n 1 19 dX7_wordAt_18 rfl rfl rfl ?_
    refine q_iload_n 2 20 dX7_wordAt_19 rfl rfl rfl ?_
    refine q_cVi 0 [0, 1] [] [0, 1] 23 (wr := []) (w1 := _) (ws' := [_, _]) (c_X7_ruleWordAt hp he) m_X7_61 dX7_wordAt_20 rfl rfl rfl rfl rfl rfl rfl rfl (by decide) (by decide) (by decide) (by decide) (Nat.le_of_ble_eq_true rfl) (by omega) (by omega) (by omega) rfl ?_
    refine q_ireturn dX7_wordAt_23 rfl ?_
    first
      | (rw [if_pos hz]; exact pR.rf)
      | (rw [if_neg hz]; exact pR.rf)
  · refine q_iload_n 3 14 dX7_wordAt_13 rfl rfl rfl ?_
    refine q_goto 23 dX7_wordAt_14 (by decide) ?_
    refine q_ireturn dX7_wordAt_23 rfl ?_
    first
      | (rw [if_pos hz]; exact pR.rf)
      | (rw [if_neg hz]; exact pR.rf)
/-- the end of the digits from n on -/
def dep (T : Sc) (e : Nat) : Nat → Nat → Nat
  | 0, n => n
  | f + 1, n => if n < e ∧ ¬ rIn (T n) 48 57 = 0 then dep T e f (n + 1) else n
def de (T : Sc) (e n : Nat) : Nat := dep T e (e - n) n
theorem de_go {T : Sc} {e n : Nat} (h : n < e) (ht : ¬ rIn (T n) 48 57 = 0) : de T e n = de T e (n + 1) := by
  unfold de
  rw [show e - n = (e - (n + 1)) + 1 by omega, dep, if_pos ⟨h, ht⟩]
theorem de_end {T : Sc} {e n : Nat} (h : ¬ (n < e ∧ ¬ rIn (T n) 48 57 = 0)) : de T e n = n := by
  unfold de
  cases e - n with
  | zero => rfl
  | succ f => rw [dep, if_neg h]
theorem dep_ge (T : Sc) (e : Nat) : ∀ f n, n ≤ dep T e f n
  | 0, n => Nat.le_refl n
  | f + 1, n => by
    rw [dep]
    split
    · exact Nat.le_trans (Nat.le_succ n) (dep_ge T e f (n + 1))
    · exact Nat.le_refl n
theorem dep_le (T : Sc) (e : Nat) : ∀ f n, dep T e f n ≤ n ∨ dep T e f n ≤ e
  | 0, n => Or.inl (Nat.le_refl n)
  | f + 1, n => by
    rw [dep]
    split
    · rcases dep_le T e f (n + 1) with h2 | h2
      · exact Or.inr (by omega)
      · exact Or.inr h2
    · exact Or.inl (Nat.le_refl n)
theorem de_ge (T : Sc) (e n : Nat) : n ≤ de T e n := dep_ge T e _ n
theorem de_le (T : Sc) (e n : Nat) : de T e n ≤ n ∨ de T e n ≤ e := dep_le T e _ n
/-- a thing of the text: where it ends, what it is, its number -/
def tkE (T : Sc) (e p : Nat) : Nat := if rIn (T p) 97 122 = 0 then (if rIn (T p) 48 57 = 0 then p + 1 else de T e (p + 1)) else we T e (p + 1)
def tkT (T : Sc) (e p : Nat) : Int32 := if rIn (T p) 97 122 = 0 then (if rIn (T p) 48 57 = 0 then 100 + (T p &&& 255) else 1) else wdK T p (we T e (p + 1))
def tkN (T : Sc) (e p : Nat) (nu : Sc) (s : Nat) : Sc := if rIn (T p) 97 122 = 0 then (if rIn (T p) 48 57 = 0 then nu else upd nu s (nmV T p (de T e (p + 1)))) else nu
theorem c_X7_scanThing {l : Launch} {g : Gh} {q t b n x : Nat} {i th be nu Tc : Sc} {e p s : Nat} (he : e ≤ 400) (hp : p < e) (hs : s < 400) (h4 : i 4 = nI e) (h5 : i 5 = nI s) : Cp l g yX7_scanThing (Cond.code yX7_scanThing cX7_scanThing 3 (some .int)) 8 [.ref q, .int (nI p)] [(q, ob 7 i (rS t b n x)), (t, aI g 401 th), (b, aI g 401 be), (n, aI g 401 nu), (x, aB g 400 Tc)] (some (.int (nI (tkE Tc e p)))) [(q, ob 7 (upd i 5 (nI (s + 1))) (rS t b n x)), (t, aI g 401 (upd th s (tkT Tc e p))), (b, aI g 401 (upd be s (nI p))), (n, aI g 401 (tkN Tc e p nu s)), (x, aB g 400 Tc)] := by
  refine ct_of (M := mtX7_scanThing) [some (.ref q), some (.int (nI p)), none] rfl (by decide) (Nat.le_of_ble_eq_true rfl) (fun _ h => h) (fun a => ?_)
  have e5 : i 5 + 1 = nI (s + 1) := by rw [h5, nI_1]
  unfold tkE tkT tkN
  by_cases hl : rIn (Tc p) 97 122 = 0
  · rw [if_pos hl, if_pos hl, if_pos hl]
    by_cases hd : rIn (Tc p) 48 57 = 0
    · rw [if_pos hd, if_pos hd, if_pos hd]
      refine q_iload_n 1 1 dX7_scanThing_0 rfl rfl rfl ?_
      refine q_iconst 1 2 dX7_scanThing_1 ic_1 rfl ?_
      refine q_iadd 3 dX7_scanThing_2 rfl ?_
      rw [nI_1]
      refine q_istore_n 2 4 (L' := [_, _, _]) dX7_scanThing_3 rfl (by decide) rfl rfl ?_
      refine q_aload_n 0 5 dX7_scanThing_4 rfl rfl rfl ?_
      refine q_getR 0 8 f_X7_15 dX7_scanThing_5 rfl rfl rfl rfl ?_
      refine q_aload_n 0 9 dX7_scanThing_8 rfl rfl rfl ?_
      refine q_getI 0 12 f_X7_35 dX7_scanThing_9 rfl rfl rfl ?_
      rw [h5]
      refine q_iload_n 1 13 dX7_scanThing_12 rfl rfl rfl ?_
      refine q_iast 2 s 14 (w' := [_, _, _, _, _]) dX7_scanThing_13 rfl ⟨rfl, by omega, by decide⟩ rfl rfl ?_
      refine q_aload_n 0 15 dX7_scanThing_14 rfl rfl rfl ?_
      refine q_getR 0 18 f_X7_21 dX7_scanThing_15 rfl rfl rfl rfl ?_
      refine q_iload_n 1 19 dX7_scanThing_18 rfl rfl rfl ?_
      refine q_bald 4 p 20 dX7_scanThing_19 rfl ⟨rfl, by omega, by decide⟩ rfl ?_
      refine q_cSi [] [0, 1, 2, 3, 4] [0, 1, 2, 3, 4] 23 (wr := [_, _, _, _, _]) (w1 := _) (ws' := [_, _, _, _, _]) c_X7_isLetter m_X7_45 dX7_scanThing_20 rfl rfl rfl rfl rfl (by decide) (by decide) (by decide) (by decide) (Nat.le_of_ble_eq_true rfl) (by omega) (by omega) (by omega) rfl ?_
      refine q_if_eq 70 26 dX7_scanThing_23 (by decide) rfl (fun h23 => ?_) (fun h23 => absurd hl h23)
      refine q_aload_n 0 71 dX7_scanThing_70 rfl rfl rfl ?_
      refine q_getR 0 74 f_X7_21 dX7_scanThing_71 rfl rfl rfl rfl ?_
      refine q_iload_n 1 75 dX7_scanThing_74 rfl rfl rfl ?_
      refine q_bald 4 p 76 dX7_scanThing_75 rfl ⟨rfl, by omega, by decide⟩ rfl ?_
      refine q_cSi [] [0, 1, 2, 3, 4] [0, 1, 2, 3, 4] 79 (wr := [_, _, _, _, _]) (w1 := _) (ws' := [_, _, _, _, _]) c_X7_isDigit m_X7_52 dX7_scanThing_76 rfl rfl rfl rfl rfl (by decide) (by decide) (by decide) (by decide) (Nat.le_of_ble_eq_true rfl) (by omega) (by omega) (by omega) rfl ?_
      refine q_if_eq 136 82 dX7_scanThing_79 (by decide) rfl (fun h79 => ?_) (fun h79 => absurd hd h79)
      refine q_aload_n 0 137 dX7_scanThing_136 rfl rfl rfl ?_
      refine q_getR 0 140 f_X7_11 dX7_scanThing_137 rfl rfl rfl rfl ?_
      refine q_aload_n 0 141 dX7_scanThing_140 rfl rfl rfl ?_
      refine q_getI 0 144 f_X7_35 dX7_scanThing_141 rfl rfl rfl ?_
      rw [h5]
      refine q_bipush 100 146 dX7_scanThing_144 bc_100 rfl ?_
      refine q_aload_n 0 147 dX7_scanThing_146 rfl rfl rfl ?_
      refine q_getR 0 150 f_X7_21 dX7_scanThing_147 rfl rfl rfl rfl ?_
      refine q_iload_n 1 151 dX7_scanThing_150 rfl rfl rfl ?_
      refine q_bald 4 p 152 dX7_scanThing_151 rfl ⟨rfl, by omega, by decide⟩ rfl ?_
      refine q_sipush 255 155 dX7_scanThing_152 sc_255 rfl ?_
      refine q_iand 156 dX7_scanThing_155 rfl ?_
      refine q_iadd 157 dX7_scanThing_156 rfl ?_
      refine q_iast 1 s 158 (w' := [_, _, _, _, _]) dX7_scanThing_157 rfl ⟨rfl, by omega, by decide⟩ rfl rfl ?_
      refine q_aload_n 0 159 dX7_scanThing_158 rfl rfl rfl ?_
      refine q_dup 160 dX7_scanThing_159 rfl rfl ?_
      refine q_getI 0 163 f_X7_35 dX7_scanThing_160 rfl rfl rfl ?_
      refine q_iconst 1 164 dX7_scanThing_163 ic_1 rfl ?_
      refine q_iadd 165 dX7_scanThing_164 rfl ?_
      rw [e5]
      refine q_putI 0 168 (w' := [_, _, _, _, _]) f_X7_35 ft_X7_5 dX7_scanThing_165 rfl rfl rfl rfl ?_
      refine q_iload_n 2 169 dX7_scanThing_168 rfl rfl rfl ?_
      refine q_ireturn dX7_scanThing_169 rfl ?_
      exact pR.rf
    · rw [if_neg hd, if_neg hd, if_neg hd]
      have hge := de_ge Tc e (p + 1)
      have hle := de_le Tc e (p + 1)
      have K108 : ∀ r, r = de Tc e (p + 1) → WPs l g mtX7_scanThing 8 0 0 (pR (some (.int (nI (de Tc e (p + 1))))) [(q, ob 7 (upd i 5 (nI (s + 1))) (rS t b n x)), (t, aI g 401 (upd th s 1)), (b, aI g 401 (upd be s (nI p))), (n, aI g 401 (upd nu s (nmV Tc p (de Tc e (p + 1))))), (x, aB g 400 Tc)]) noX a 108 [some (.ref q), some (.int (nI p)), some (.int (nI r))] [] [(q, ob 7 i (rS t b n x)), (t, aI g 401 th), (b, aI g 401 (upd be s (nI p))), (n, aI g 401 nu), (x, aB g 400 Tc)] 0 0 := by
        intro r hr
        rw [← hr]
        refine q_aload_n 0 109 dX7_scanThing_108 rfl rfl rfl ?_
        refine q_getR 0 112 f_X7_11 dX7_scanThing_109 rfl rfl rfl rfl ?_
        refine q_aload_n 0 113 dX7_scanThing_112 rfl rfl rfl ?_
        refine q_getI 0 116 f_X7_35 dX7_scanThing_113 rfl rfl rfl ?_
        rw [h5]
        refine q_iconst 1 117 dX7_scanThing_116 ic_1 rfl ?_
        refine q_iast 1 s 118 (w' := [_, _, _, _, _]) dX7_scanThing_117 rfl ⟨rfl, by omega, by decide⟩ rfl rfl ?_
        refine q_aload_n 0 119 dX7_scanThing_118 rfl rfl rfl ?_
        refine q_getR 0 122 f_X7_18 dX7_scanThing_119 rfl rfl rfl rfl ?_
        refine q_aload_n 0 123 dX7_scanThing_122 rfl rfl rfl ?_
        refine q_getI 0 126 f_X7_35 dX7_scanThing_123 rfl rfl rfl ?_
        rw [h5]
        refine q_aload_n 0 127 dX7_scanThing_126 rfl rfl rfl ?_
        refine q_iload_n 1 128 dX7_scanThing_127 rfl rfl rfl ?_
        refine q_iload_n 2 129 dX7_scanThing_128 rfl rfl rfl ?_
        refine q_cVi 0 [0, 4] [1, 2, 3] [3, 0, 1, 2, 4] 132 (wr := [_, _, _]) (w1 := _) (ws' := [_, _, _, _, _]) (c_X7_numberAt (by omega) (by omega)) m_X7_55 dX7_scanThing_129 rfl rfl rfl rfl rfl rfl rfl rfl (by decide) (by decide) (by decide) (by decide) (Nat.le_of_ble_eq_true rfl) (by omega) (by omega) (by omega) rfl ?_
        refine q_iast 3 s 133 (w' := [_, _, _, _, _]) dX7_scanThing_132 rfl ⟨rfl, by omega, by decide⟩ rfl rfl ?_
        refine q_goto 158 dX7_scanThing_133 (by decide) ?_
        refine q_aload_n 0 159 dX7_scanThing_158 rfl rfl rfl ?_
        refine q_dup 160 dX7_scanThing_159 rfl rfl ?_
        refine q_getI 0 163 f_X7_35 dX7_scanThing_160 rfl rfl rfl ?_
        refine q_iconst 1 164 dX7_scanThing_163 ic_1 rfl ?_
        refine q_iadd 165 dX7_scanThing_164 rfl ?_
        rw [e5]
        refine q_putI 0 168 (w' := [_, _, _, _, _]) f_X7_35 ft_X7_5 dX7_scanThing_165 rfl rfl rfl rfl ?_
        refine q_iload_n 2 169 dX7_scanThing_168 rfl rfl rfl ?_
        refine q_ireturn dX7_scanThing_169 rfl ?_
        exact pR.rf
      have K82 : ∀ (f r : Nat), e - r ≤ f → r ≤ e → de Tc e r = de Tc e (p + 1) → WPs l g mtX7_scanThing 8 0 0 (pR (some (.int (nI (de Tc e (p + 1))))) [(q, ob 7 (upd i 5 (nI (s + 1))) (rS t b n x)), (t, aI g 401 (upd th s 1)), (b, aI g 401 (upd be s (nI p))), (n, aI g 401 (upd nu s (nmV Tc p (de Tc e (p + 1))))), (x, aB g 400 Tc)]) noX a 82 [some (.ref q), some (.int (nI p)), some (.int (nI r))] [] [(q, ob 7 i (rS t b n x)), (t, aI g 401 th), (b, aI g 401 (upd be s (nI p))), (n, aI g 401 nu), (x, aB g 400 Tc)] 0 0 := by
        intro f
        induction f with
        | zero =>
          intro r hf hr hwr
          have hwr2 : de Tc e r = r := de_end (by omega)
          have K1 := K108 r (hwr2.symm.trans hwr)
          clear K108
          have hge2 : i 4 ≤ nI r := by rw [h4]; exact nI_le (by omega) (by omega)
          refine q_iload_n 2 83 dX7_scanThing_82 rfl rfl rfl ?_
          refine q_aload_n 0 84 dX7_scanThing_83 rfl rfl rfl ?_
          refine q_getI 0 87 f_X7_31 dX7_scanThing_84 rfl rfl rfl ?_
          refine q_icmp_ge 108 90 dX7_scanThing_87 (by decide) rfl (fun h87 => ?_) (fun h87 => absurd hge2 h87)
          exact K1
        | succ f ih =>
          intro r hf hr hwr
          by_cases hlt : r < e
          · have hge2 : ¬ i 4 ≤ nI r := by rw [h4]; exact nI_ge hlt (by omega)
            by_cases ht : rIn (Tc r) 48 57 = 0
            · have hwr2 : de Tc e r = r := de_end (fun h => h.2 ht)
              have K1 := K108 r (hwr2.symm.trans hwr)
              clear K108 ih
              refine q_iload_n 2 83 dX7_scanThing_82 rfl rfl rfl ?_
              refine q_aload_n 0 84 dX7_scanThing_83 rfl rfl rfl ?_
              refine q_getI 0 87 f_X7_31 dX7_scanThing_84 rfl rfl rfl ?_
              refine q_icmp_ge 108 90 dX7_scanThing_87 (by decide) rfl (fun h87 => absurd h87 hge2) (fun h87 => ?_)
              refine q_aload_n 0 91 dX7_scanThing_90 rfl rfl rfl ?_
              refine q_getR 0 94 f_X7_21 dX7_scanThing_91 rfl rfl rfl rfl ?_
              refine q_iload_n 2 95 dX7_scanThing_94 rfl rfl rfl ?_
              refine q_bald 4 r 96 dX7_scanThing_95 rfl ⟨rfl, by omega, by decide⟩ rfl ?_
              refine q_cSi [] [0, 1, 2, 3, 4] [0, 1, 2, 3, 4] 99 (wr := [_, _, _, _, _]) (w1 := _) (ws' := [_, _, _, _, _]) c_X7_isDigit m_X7_52 dX7_scanThing_96 rfl rfl rfl rfl rfl (by decide) (by decide) (by decide) (by decide) (Nat.le_of_ble_eq_true rfl) (by omega) (by omega) (by omega) rfl ?_
              refine q_if_eq 108 102 dX7_scanThing_99 (by decide) rfl (fun h99 => ?_) (fun h99 => absurd ht h99)
              exact K1
            · have K1 := ih (r + 1) (by omega) (by omega) (by rw [← hwr, de_go hlt ht])
              clear K108 ih
              refine q_iload_n 2 83 dX7_scanThing_82 rfl rfl rfl ?_
              refine q_aload_n 0 84 dX7_scanThing_83 rfl rfl rfl ?_
              refine q_getI 0 87 f_X7_31 dX7_scanThing_84 rfl rfl rfl ?_
              refine q_icmp_ge 108 90 dX7_scanThing_87 (by decide) rfl (fun h87 => absurd h87 hge2) (fun h87 => ?_)
              refine q_aload_n 0 91 dX7_scanThing_90 rfl rfl rfl ?_
              refine q_getR 0 94 f_X7_21 dX7_scanThing_91 rfl rfl rfl rfl ?_
              refine q_iload_n 2 95 dX7_scanThing_94 rfl rfl rfl ?_
              refine q_bald 4 r 96 dX7_scanThing_95 rfl ⟨rfl, by omega, by decide⟩ rfl ?_
              refine q_cSi [] [0, 1, 2, 3, 4] [0, 1, 2, 3, 4] 99 (wr := [_, _, _, _, _]) (w1 := _) (ws' := [_, _, _, _, _]) c_X7_isDigit m_X7_52 dX7_scanThing_96 rfl rfl rfl rfl rfl (by decide) (by decide) (by decide) (by decide) (Nat.le_of_ble_eq_true rfl) (by omega) (by omega) (by omega) rfl ?_
              refine q_if_eq 108 102 dX7_scanThing_99 (by decide) rfl (fun h99 => absurd h99 ht) (fun h99 => ?_)
              refine q_iinc 2 (nI (r + 1)) 105 (L' := [_, _, _]) dX7_scanThing_102 rfl (inc1 (r)) (by decide) rfl rfl ?_
              refine q_goto 82 dX7_scanThing_105 (by decide) ?_
              exact K1
          · have hwr2 : de Tc e r = r := de_end (fun h => hlt h.1)
            have K1 := K108 r (hwr2.symm.trans hwr)
            clear K108 ih
            have hge2 : i 4 ≤ nI r := by rw [h4]; exact nI_le (by omega) (by omega)
            refine q_iload_n 2 83 dX7_scanThing_82 rfl rfl rfl ?_
            refine q_aload_n 0 84 dX7_scanThing_83 rfl rfl rfl ?_
            refine q_getI 0 87 f_X7_31 dX7_scanThing_84 rfl rfl rfl ?_
            refine q_icmp_ge 108 90 dX7_scanThing_87 (by decide) rfl (fun h87 => ?_) (fun h87 => absurd hge2 h87)
            exact K1
      have K1 := K82 (e - (p + 1)) (p + 1) (Nat.le_refl _) (by omega) rfl
      clear K108 K82
      refine q_iload_n 1 1 dX7_scanThing_0 rfl rfl rfl ?_
      refine q_iconst 1 2 dX7_scanThing_1 ic_1 rfl ?_
      refine q_iadd 3 dX7_scanThing_2 rfl ?_
      rw [nI_1]
      refine q_istore_n 2 4 (L' := [_, _, _]) dX7_scanThing_3 rfl (by decide) rfl rfl ?_
      refine q_aload_n 0 5 dX7_scanThing_4 rfl rfl rfl ?_
      refine q_getR 0 8 f_X7_15 dX7_scanThing_5 rfl rfl rfl rfl ?_
      refine q_aload_n 0 9 dX7_scanThing_8 rfl rfl rfl ?_
      refine q_getI 0 12 f_X7_35 dX7_scanThing_9 rfl rfl rfl ?_
      rw [h5]
      refine q_iload_n 1 13 dX7_scanThing_12 rfl rfl rfl ?_
      refine q_iast 2 s 14 (w' := [_, _, _, _, _]) dX7_scanThing_13 rfl ⟨rfl, by omega, by decide⟩ rfl rfl ?_
      refine q_aload_n 0 15 dX7_scanThing_14 rfl rfl rfl ?_
      refine q_getR 0 18 f_X7_21 dX7_scanThing_15 rfl rfl rfl rfl ?_
      refine q_iload_n 1 19 dX7_scanThing_18 rfl rfl rfl ?_
      refine q_bald 4 p 20 dX7_scanThing_19 rfl ⟨rfl, by omega, by decide⟩ rfl ?_
      refine q_cSi [] [0, 1, 2, 3, 4] [0, 1, 2, 3, 4] 23 (wr := [_, _, _, _, _]) (w1 := _) (ws' := [_, _, _, _, _]) c_X7_isLetter m_X7_45 dX7_scanThing_20 rfl rfl rfl rfl rfl (by decide) (by decide) (by decide) (by decide) (Nat.le_of_ble_eq_true rfl) (by omega) (by omega) (by omega) rfl ?_
      refine q_if_eq 70 26 dX7_scanThing_23 (by decide) rfl (fun h23 => ?_) (fun h23 => absurd hl h23)
      refine q_aload_n 0 71 dX7_scanThing_70 rfl rfl rfl ?_
      refine q_getR 0 74 f_X7_21 dX7_scanThing_71 rfl rfl rfl rfl ?_
      refine q_iload_n 1 75 dX7_scanThing_74 rfl rfl rfl ?_
      refine q_bald 4 p 76 dX7_scanThing_75 rfl ⟨rfl, by omega, by decide⟩ rfl ?_
      refine q_cSi [] [0, 1, 2, 3, 4] [0, 1, 2, 3, 4] 79 (wr := [_, _, _, _, _]) (w1 := _) (ws' := [_, _, _, _, _]) c_X7_isDigit m_X7_52 dX7_scanThing_76 rfl rfl rfl rfl rfl (by decide) (by decide) (by decide) (by decide) (Nat.le_of_ble_eq_true rfl) (by omega) (by omega) (by omega) rfl ?_
      refine q_if_eq 136 82 dX7_scanThing_79 (by decide) rfl (fun h79 => absurd h79 hd) (fun h79 => ?_)
      exact K1
  · rw [if_neg hl, if_neg hl, if_neg hl]
    have hge := we_ge Tc e (p + 1)
    have hle := we_le Tc e (p + 1)
    have K52 : ∀ r, r = we Tc e (p + 1) → WPs l g mtX7_scanThing 8 0 0 (pR (some (.int (nI (we Tc e (p + 1))))) [(q, ob 7 (upd i 5 (nI (s + 1))) (rS t b n x)), (t, aI g 401 (upd th s (wdK Tc p (we Tc e (p + 1))))), (b, aI g 401 (upd be s (nI p))), (n, aI g 401 nu), (x, aB g 400 Tc)]) noX a 52 [some (.ref q), some (.int (nI p)), some (.int (nI r))] [] [(q, ob 7 i (rS t b n x)), (t, aI g 401 th), (b, aI g 401 (upd be s (nI p))), (n, aI g 401 nu), (x, aB g 400 Tc)] 0 0 := by
      intro r hr
      rw [← hr]
      refine q_aload_n 0 53 dX7_scanThing_52 rfl rfl rfl ?_
      refine q_getR 0 56 f_X7_11 dX7_scanThing_53 rfl rfl rfl rfl ?_
      refine q_aload_n 0 57 dX7_scanThing_56 rfl rfl rfl ?_
      refine q_getI 0 60 f_X7_35 dX7_scanThing_57 rfl rfl rfl ?_
      rw [h5]
      refine q_aload_n 0 61 dX7_scanThing_60 rfl rfl rfl ?_
      refine q_iload_n 1 62 dX7_scanThing_61 rfl rfl rfl ?_
      refine q_iload_n 2 63 dX7_scanThing_62 rfl rfl rfl ?_
      refine q_cVi 0 [0, 4] [1, 2, 3] [3, 0, 1, 2, 4] 66 (wr := [_, _, _]) (w1 := _) (ws' := [_, _, _, _, _]) (c_X7_wordAt (by omega) (by omega)) m_X7_49 dX7_scanThing_63 rfl rfl rfl rfl rfl rfl rfl rfl (by decide) (by decide) (by decide) (by decide) (Nat.le_of_ble_eq_true rfl) (by omega) (by omega) (by omega) rfl ?_
      refine q_iast 1 s 67 (w' := [_, _, _, _, _]) dX7_scanThing_66 rfl ⟨rfl, by omega, by decide⟩ rfl rfl ?_
      refine q_goto 158 dX7_scanThing_67 (by decide) ?_
      refine q_aload_n 0 159 dX7_scanThing_158 rfl rfl rfl ?_
      refine q_dup 160 dX7_scanThing_159 rfl rfl ?_
      refine q_getI 0 163 f_X7_35 dX7_scanThing_160 rfl rfl rfl ?_
      refine q_iconst 1 164 dX7_scanThing_163 ic_1 rfl ?_
      refine q_iadd 165 dX7_scanThing_164 rfl ?_
      rw [e5]
      refine q_putI 0 168 (w' := [_, _, _, _, _]) f_X7_35 ft_X7_5 dX7_scanThing_165 rfl rfl rfl rfl ?_
      refine q_iload_n 2 169 dX7_scanThing_168 rfl rfl rfl ?_
      refine q_ireturn dX7_scanThing_169 rfl ?_
      exact pR.rf
    have K26 : ∀ (f r : Nat), e - r ≤ f → r ≤ e → we Tc e r = we Tc e (p + 1) → WPs l g mtX7_scanThing 8 0 0 (pR (some (.int (nI (we Tc e (p + 1))))) [(q, ob 7 (upd i 5 (nI (s + 1))) (rS t b n x)), (t, aI g 401 (upd th s (wdK Tc p (we Tc e (p + 1))))), (b, aI g 401 (upd be s (nI p))), (n, aI g 401 nu), (x, aB g 400 Tc)]) noX a 26 [some (.ref q), some (.int (nI p)), some (.int (nI r))] [] [(q, ob 7 i (rS t b n x)), (t, aI g 401 th), (b, aI g 401 (upd be s (nI p))), (n, aI g 401 nu), (x, aB g 400 Tc)] 0 0 := by
      intro f
      induction f with
      | zero =>
        intro r hf hr hwr
        have hwr2 : we Tc e r = r := we_end (by omega)
        have K1 := K52 r (hwr2.symm.trans hwr)
        clear K52
        have hge2 : i 4 ≤ nI r := by rw [h4]; exact nI_le (by omega) (by omega)
        refine q_iload_n 2 27 dX7_scanThing_26 rfl rfl rfl ?_
        refine q_aload_n 0 28 dX7_scanThing_27 rfl rfl rfl ?_
        refine q_getI 0 31 f_X7_31 dX7_scanThing_28 rfl rfl rfl ?_
        refine q_icmp_ge 52 34 dX7_scanThing_31 (by decide) rfl (fun h31 => ?_) (fun h31 => absurd hge2 h31)
        exact K1
      | succ f ih =>
        intro r hf hr hwr
        by_cases hlt : r < e
        · have hge2 : ¬ i 4 ≤ nI r := by rw [h4]; exact nI_ge hlt (by omega)
          by_cases ht : rIn (Tc r) 97 122 = 0
          · have hwr2 : we Tc e r = r := we_end (fun h => h.2 ht)
            have K1 := K52 r (hwr2.symm.trans hwr)
            clear K52 ih
            refine q_iload_n 2 27 dX7_scanThing_26 rfl rfl rfl ?_
            refine q_aload_n 0 28 dX7_scanThing_27 rfl rfl rfl ?_
            refine q_getI 0 31 f_X7_31 dX7_scanThing_28 rfl rfl rfl ?_
            refine q_icmp_ge 52 34 dX7_scanThing_31 (by decide) rfl (fun h31 => absurd h31 hge2) (fun h31 => ?_)
            refine q_aload_n 0 35 dX7_scanThing_34 rfl rfl rfl ?_
            refine q_getR 0 38 f_X7_21 dX7_scanThing_35 rfl rfl rfl rfl ?_
            refine q_iload_n 2 39 dX7_scanThing_38 rfl rfl rfl ?_
            refine q_bald 4 r 40 dX7_scanThing_39 rfl ⟨rfl, by omega, by decide⟩ rfl ?_
            refine q_cSi [] [0, 1, 2, 3, 4] [0, 1, 2, 3, 4] 43 (wr := [_, _, _, _, _]) (w1 := _) (ws' := [_, _, _, _, _]) c_X7_isLetter m_X7_45 dX7_scanThing_40 rfl rfl rfl rfl rfl (by decide) (by decide) (by decide) (by decide) (Nat.le_of_ble_eq_true rfl) (by omega) (by omega) (by omega) rfl ?_
            refine q_if_eq 52 46 dX7_scanThing_43 (by decide) rfl (fun h43 => ?_) (fun h43 => absurd ht h43)
            exact K1
          · have K1 := ih (r + 1) (by omega) (by omega) (by rw [← hwr, we_go hlt ht])
            clear K52 ih
            refine q_iload_n 2 27 dX7_scanThing_26 rfl rfl rfl ?_
            refine q_aload_n 0 28 dX7_scanThing_27 rfl rfl rfl ?_
            refine q_getI 0 31 f_X7_31 dX7_scanThing_28 rfl rfl rfl ?_
            refine q_icmp_ge 52 34 dX7_scanThing_31 (by decide) rfl (fun h31 => absurd h31 hge2) (fun h31 => ?_)
            refine q_aload_n 0 35 dX7_scanThing_34 rfl rfl rfl ?_
            refine q_getR 0 38 f_X7_21 dX7_scanThing_35 rfl rfl rfl rfl ?_
            refine q_iload_n 2 39 dX7_scanThing_38 rfl rfl rfl ?_
            refine q_bald 4 r 40 dX7_scanThing_39 rfl ⟨rfl, by omega, by decide⟩ rfl ?_
            refine q_cSi [] [0, 1, 2, 3, 4] [0, 1, 2, 3, 4] 43 (wr := [_, _, _, _, _]) (w1 := _) (ws' := [_, _, _, _, _]) c_X7_isLetter m_X7_45 dX7_scanThing_40 rfl rfl rfl rfl rfl (by decide) (by decide) (by decide) (by decide) (Nat.le_of_ble_eq_true rfl) (by omega) (by omega) (by omega) rfl ?_
            refine q_if_eq 52 46 dX7_scanThing_43 (by decide) rfl (fun h43 => absurd h43 ht) (fun h43 => ?_)
            refine q_iinc 2 (nI (r + 1)) 49 (L' := [_, _, _]) dX7_scanThing_46 rfl (inc1 (r)) (by decide) rfl rfl ?_
            refine q_goto 26 dX7_scanThing_49 (by decide) ?_
            exact K1
        · have hwr2 : we Tc e r = r := we_end (fun h => hlt h.1)
          have K1 := K52 r (hwr2.symm.trans hwr)
          clear K52 ih
          have hge2 : i 4 ≤ nI r := by rw [h4]; exact nI_le (by omega) (by omega)
          refine q_iload_n 2 27 dX7_scanThing_26 rfl rfl rfl ?_
          refine q_aload_n 0 28 dX7_scanThing_27 rfl rfl rfl ?_
          refine q_getI 0 31 f_X7_31 dX7_scanThing_28 rfl rfl rfl ?_
          refine q_icmp_ge 52 34 dX7_scanThing_31 (by decide) rfl (fun h31 => ?_) (fun h31 => absurd hge2 h31)
          exact K1
    have K1 := K26 (e - (p + 1)) (p + 1) (Nat.le_refl _) (by omega) rfl
    clear K52 K26
    refine q_iload_n 1 1 dX7_scanThing_0 rfl rfl rfl ?_
    refine q_iconst 1 2 dX7_scanThing_1 ic_1 rfl ?_
    refine q_iadd 3 dX7_scanThing_2 rfl ?_
    rw [nI_1]
    refine q_istore_n 2 4 (L' := [_, _, _]) dX7_scanThing_3 rfl (by decide) rfl rfl ?_
    refine q_aload_n 0 5 dX7_scanThing_4 rfl rfl rfl ?_
    refine q_getR 0 8 f_X7_15 dX7_scanThing_5 rfl rfl rfl rfl ?_
    refine q_aload_n 0 9 dX7_scanThing_8 rfl rfl rfl ?_
    refine q_getI 0 12 f_X7_35 dX7_scanThing_9 rfl rfl rfl ?_
    rw [h5]
    refine q_iload_n 1 13 dX7_scanThing_12 rfl rfl rfl ?_
    refine q_iast 2 s 14 (w' := [_, _, _, _, _]) dX7_scanThing_13 rfl ⟨rfl, by omega, by decide⟩ rfl rfl ?_
    refine q_aload_n 0 15 dX7_scanThing_14 rfl rfl rfl ?_
    refine q_getR 0 18 f_X7_21 dX7_scanThing_15 rfl rfl rfl rfl ?_
    refine q_iload_n 1 19 dX7_scanThing_18 rfl rfl rfl ?_
    refine q_bald 4 p 20 dX7_scanThing_19 rfl ⟨rfl, by omega, by decide⟩ rfl ?_
    refine q_cSi [] [0, 1, 2, 3, 4] [0, 1, 2, 3, 4] 23 (wr := [_, _, _, _, _]) (w1 := _) (ws' := [_, _, _, _, _]) c_X7_isLetter m_X7_45 dX7_scanThing_20 rfl rfl rfl rfl rfl (by decide) (by decide) (by decide) (by decide) (Nat.le_of_ble_eq_true rfl) (by omega) (by omega) (by omega) rfl ?_
    refine q_if_eq 70 26 dX7_scanThing_23 (by decide) rfl (fun h23 => absurd h23 hl) (fun h23 => ?_)
    exact K1

