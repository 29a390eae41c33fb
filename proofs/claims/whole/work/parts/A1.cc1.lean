/-! ===== ChaseCourt: fault, useUp, end ===== -/
theorem c_X11_fault {l : Launch} {g : Gh} {q : Nat} {i : Sc} {R : List (Option Nat)} : Cp l g yX11_fault (Cond.code yX11_fault cX11_fault 1 (some .int)) 0 [.ref q] [(q, ob 11 i R)] (some (.int (i 10))) [(q, ob 11 i R)] := by
  refine ct_of (M := mtX11_fault) [some (.ref q)] rfl (by decide) (Nat.le_of_ble_eq_true rfl) (fun _ h => h) (fun a => ?_)
  refine q_aload_n 0 1 dX11_fault_0 rfl rfl rfl ?_
  refine q_getI 0 4 f_X11_41 dX11_fault_1 rfl rfl rfl ?_
  refine q_ireturn dX11_fault_4 rfl ?_
  exact pR.rf
theorem c_X11_useUp {l : Launch} {g : Gh} {q : Nat} {i : Sc} {R : List (Option Nat)} : Cp l g yX11_useUp (Cond.code yX11_useUp cX11_useUp 2 (some .int)) 1 [.ref q] [(q, ob 11 i R)] (some (.int (i 9))) [(q, ob 11 (upd i 9 0) R)] := by
  refine ct_of (M := mtX11_useUp) [some (.ref q), none] rfl (by decide) (Nat.le_of_ble_eq_true rfl) (fun _ h => h) (fun a => ?_)
  refine q_aload_n 0 1 dX11_useUp_0 rfl rfl rfl ?_
  refine q_getI 0 4 f_X11_45 dX11_useUp_1 rfl rfl rfl ?_
  refine q_istore_n 1 5 (L' := [_, _]) dX11_useUp_4 rfl (by decide) rfl rfl ?_
  refine q_aload_n 0 6 dX11_useUp_5 rfl rfl rfl ?_
  refine q_iconst 0 7 dX11_useUp_6 ic_0 rfl ?_
  refine q_putI 0 10 (w' := [_]) f_X11_45 ft_X11_9 dX11_useUp_7 rfl rfl rfl rfl ?_
  refine q_iload_n 1 11 dX11_useUp_10 rfl rfl rfl ?_
  refine q_ireturn dX11_useUp_11 rfl ?_
  exact pR.rf
theorem c_X11_end0 {l : Launch} {g : Gh} {q : Nat} {i : Sc} {R : List (Option Nat)} {n : Int32} (h : n < 0 ∨ ¬ n ≤ i 9) : Cp l g yX11_end (Cond.code yX11_end cX11_end 2 (some .boolean)) 0 [.ref q, .int n] [(q, ob 11 i R)] (some (.int 0)) [(q, ob 11 i R)] := by
  refine ct_of (M := mtX11_end) [some (.ref q), some (.int n)] rfl (by decide) (Nat.le_of_ble_eq_true rfl) (fun _ h => h) (fun a => ?_)
  by_cases h0 : n < 0
  · have h1 := h0
    refine q_iload_n 1 1 dX11_end_0 rfl rfl rfl ?_
    refine q_if_lt 12 4 dX11_end_1 (by decide) rfl (fun h1 => ?_) (fun h1 => absurd h0 h1)
    refine q_iconst 0 13 dX11_end_12 ic_0 rfl ?_
    refine q_zreturn dX11_end_13 rfl (Or.inl rfl) ?_
    exact pR.rf
  · have h2 : ¬ n ≤ i 9 := h.resolve_left h0
    refine q_iload_n 1 1 dX11_end_0 rfl rfl rfl ?_
    refine q_if_lt 12 4 dX11_end_1 (by decide) rfl (fun h1 => absurd h1 h0) (fun h1 => ?_)
    refine q_iload_n 1 5 dX11_end_4 rfl rfl rfl ?_
    refine q_aload_n 0 6 dX11_end_5 rfl rfl rfl ?_
    refine q_getI 0 9 f_X11_45 dX11_end_6 rfl rfl rfl ?_
    refine q_icmp_le 14 12 dX11_end_9 (by decide) rfl (fun h9 => absurd h9 h2) (fun h9 => ?_)
    refine q_iconst 0 13 dX11_end_12 ic_0 rfl ?_
    refine q_zreturn dX11_end_13 rfl (Or.inl rfl) ?_
    exact pR.rf
theorem c_X11_end1 {l : Launch} {g : Gh} {q : Nat} {i : Sc} {R : List (Option Nat)} {n : Int32} (h0 : ¬ n < 0) (h2 : n ≤ i 9) : Cp l g yX11_end (Cond.code yX11_end cX11_end 2 (some .boolean)) 0 [.ref q, .int n] [(q, ob 11 i R)] (some (.int 1)) [(q, ob 11 (upd i 9 n) R)] := by
  refine ct_of (M := mtX11_end) [some (.ref q), some (.int n)] rfl (by decide) (Nat.le_of_ble_eq_true rfl) (fun _ h => h) (fun a => ?_)
  refine q_iload_n 1 1 dX11_end_0 rfl rfl rfl ?_
  refine q_if_lt 12 4 dX11_end_1 (by decide) rfl (fun h1 => absurd h1 h0) (fun h1 => ?_)
  refine q_iload_n 1 5 dX11_end_4 rfl rfl rfl ?_
  refine q_aload_n 0 6 dX11_end_5 rfl rfl rfl ?_
  refine q_getI 0 9 f_X11_45 dX11_end_6 rfl rfl rfl ?_
  refine q_icmp_le 14 12 dX11_end_9 (by decide) rfl (fun h9 => ?_) (fun h9 => absurd h2 h9)
  refine q_aload_n 0 15 dX11_end_14 rfl rfl rfl ?_
  refine q_iload_n 1 16 dX11_end_15 rfl rfl rfl ?_
  refine q_putI 0 19 (w' := [_]) f_X11_45 ft_X11_9 dX11_end_16 rfl rfl rfl rfl ?_
  refine q_iconst 1 20 dX11_end_19 ic_1 rfl ?_
  refine q_zreturn dX11_end_20 rfl (by decide) ?_
  exact pR.rf

