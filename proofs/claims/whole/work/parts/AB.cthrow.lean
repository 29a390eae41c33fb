/-! ===== throws ===== -/
def inW (X : String) (w : Cond) : Prop := w ∈ TT ∨ (∃ e ∈ dWords, w = .declares e) ∨ w = .castable X X
/-- words by their places in the tables; 'declares' by its own list -/
def chkW (X : String) : List Cond → List (Option Nat) → Bool
  | [], [] => true
  | w :: ws, some i :: ps => decide (tables_1[i]? = some w) && goodWord w && chkW X ws ps
  | w :: ws, none :: ps => ((dWords.any fun e => decide (w = .declares e)) || decide (w = .castable X X)) && chkW X ws ps
  | _, _ => false
theorem chkW_of (X : String) : ∀ (ws : List Cond) (ps : List (Option Nat)), chkW X ws ps = true → ∀ w ∈ ws, inW X w
  | [], _, _, w, hw => by cases hw
  | w0 :: ws, [], h, _, _ => by cases h
  | w0 :: ws, some i :: ps, h, w, hw => by
    simp only [chkW, Bool.and_eq_true, decide_eq_true_eq] at h
    rcases List.mem_cons.mp hw with e | hw
    · rw [e]; exact Or.inl (TT_at i h.1.1 h.1.2)
    · exact chkW_of X ws ps h.2 w hw
  | w0 :: ws, none :: ps, h, w, hw => by
    simp only [chkW, Bool.and_eq_true, Bool.or_eq_true, List.any_eq_true, decide_eq_true_eq] at h
    rcases List.mem_cons.mp hw with e | hw
    · rw [e]; exact Or.inr h.1
    · exact chkW_of X ws ps h.2 w hw
theorem wrd {l : Launch} {g : Gh} {M : Mt} {a : Act} (hE : EnvOK l g M a) {X : String} {w : Cond} (hi : Cond.instantiable X 6 ∈ TT) (h : inW X w) (ho : vx_ot w = true) : w.before a.args a.s = true := by
  obtain ⟨⟨hx, hb, hml, hown, hts⟩, hlk, hret, htb, hnm, hA, hK, hO, hT⟩ := hE
  rcases h with h | ⟨e, he, rfl⟩ | rfl
  · exact hts w h
  · have h8 := hO.2.2.2.2.2.2.1 e he
    exact vx_ot_at (State.WarmedH.refl _) rfl ho h8
  · obtain ⟨c1, k1, hc1, -⟩ := Cond.instantiable_spec (hts _ hi)
    have hself : a.s.vm.assignable c1 c1 = true := by
      show a.s.vm.assignableAux _ c1 c1 = true
      unfold Vm.assignableAux
      simp
    simp only [Cond.before, Cond.holds, Cond.value, hc1, hself]
    rfl
abbrev exN : List String := ["java/lang/RuntimeException", "java/lang/Exception"]
/-- what the tables say of an exception that ChaseCourt makes -/
def ExK (ik ic : Nat) (cls : String) : Prop := Bundle.fit cls = true ∧ Cond.classLink RX11 ik cls ∈ TT ∧ Cond.initialized cls ∈ TT ∧ Cond.instantiable cls 6 ∈ TT ∧ (∀ w ∈ vx_atS RX11 ic cls exN, inW cls w) ∧ ∀ w ∈ Cond.classLink RX11 ik cls :: Cond.initialized cls :: vx_atS RX11 ic cls exN, vx_ot w = true
theorem exN_fit : ∀ n ∈ exN, Bundle.fit n = true := by decide +kernel
theorem ex_IAE : ExK 71 75 "java/lang/IllegalArgumentException" := ⟨by decide +kernel, TT_2 210 rfl rfl, TT_1 17 rfl rfl, TT_2 211 rfl rfl, chkW_of _ _ [some 14, some 472, some 481, some 487, some 490, some 492, some 473, some 474, some 36, some 37, some 475, some 480, some 488, some 508, some 462, some 509, some 464, some 510, some 466, some 476, some 478, some 468, some 504, some 505, some 507, some 468, some 495, some 496, some 497, some 498, none, some 498, some 499, some 500, some 501, none, some 501, some 502, some 503, some 504, none, some 494, some 451, none, some 459, some 460, some 461, some 463, some 465, some 467, some 471, some 470, some 469] (by decide +kernel), by decide +kernel⟩
theorem ex_UOE : ExK 81 85 "java/lang/UnsupportedOperationException" := ⟨by decide +kernel, TT_3 39 rfl rfl, TT_1 18 rfl rfl, TT_3 40 rfl rfl, chkW_of _ _ [some 14, some 472, some 481, some 487, some 490, some 492, some 473, some 474, some 36, some 37, some 475, some 480, some 488, some 508, some 462, some 509, some 464, some 510, some 466, some 476, some 478, some 468, some 504, some 505, some 507, some 468, some 530, some 531, some 532, some 498, none, some 498, some 499, some 500, some 501, none, some 501, some 502, some 503, some 504, none, some 529, some 520, none, some 522, some 485, some 523, some 524, some 525, some 526, some 471, some 470, some 527] (by decide +kernel), by decide +kernel⟩
theorem ex_IOB : ExK 117 121 "java/lang/IndexOutOfBoundsException" := ⟨by decide +kernel, TT_3 171 rfl rfl, TT_1 22 rfl rfl, TT_3 172 rfl rfl, chkW_of _ _ [some 14, some 472, some 481, some 487, some 490, some 492, some 473, some 474, some 36, some 37, some 475, some 480, some 488, some 508, some 462, some 509, some 464, some 510, some 466, some 476, some 478, some 468, some 504, some 505, some 507, some 468, some 662, some 663, some 664, some 498, none, some 498, some 499, some 500, some 501, none, some 501, some 502, some 503, some 504, none, some 661, some 652, none, some 654, some 484, some 655, some 656, some 657, some 658, some 471, some 470, some 659] (by decide +kernel), by decide +kernel⟩
theorem ex_ISE : ExK 334 338 "java/lang/IllegalStateException" := ⟨by decide +kernel, TT_4 71 rfl rfl, TT_1 24 rfl rfl, TT_4 72 rfl rfl, chkW_of _ _ [some 14, some 472, some 481, some 487, some 490, some 492, some 473, some 474, some 36, some 37, some 475, some 480, some 488, some 508, some 462, some 509, some 464, some 510, some 466, some 476, some 478, some 468, some 504, some 505, some 507, some 468, some 802, some 803, some 804, some 498, none, some 498, some 499, some 500, some 501, none, some 501, some 502, some 503, some 504, none, some 801, some 792, none, some 794, some 483, some 795, some 796, some 797, some 798, some 471, some 470, some 799] (by decide +kernel), by decide +kernel⟩
theorem q_throwS {l : Launch} {g : Gh} {M : Mt} {d rc rs : Nat} {post : Pst} {px : Pxc} {a : Act} {pc : Nat} {L : List (Option Value)} {ws : va_W} {k n ik is ic : Nat} {cls text : String} (hX : ExK ik ic cls) (ht : (RX11, is, text) ∈ sRefs) (hM : M.own = RX11) (htb0 : M.tb = []) (d0 : decode M.cc pc = .ok (.new ik, 3)) (d3 : decode M.cc (pc + 3) = .ok (.dup, 1)) (d4 : decode M.cc (pc + 4) = .ok (.ldc is, 2)) (d6 : decode M.cc (pc + 6) = .ok (.invokespecial ic, 3)) (d9 : decode M.cc (pc + 9) = .ok (.athrow, 1)) (hd : 6 ≤ d) (hrc : k + 1 ≤ rc) (hrs : n + 6 ≤ rs) (hpx : px cls ws (k + 1) (n + 6)) : WPs l g M d rc rs post px a pc L [] ws k n := by
  intro hE H locs ls hP hD hS hl
  obtain ⟨⟨hx, hb, hml, hown, hts⟩, hlk, hret, htb, hnm, hA, hK, hO, hT⟩ := id hE
  obtain ⟨h1, h2, h3, hi, h4, h5⟩ := hX
  refine W.conseq (Q := vx_MQ a.below (qR g post a.A (k + 1) (n + 6)) (qX g px a.A (k + 1) (n + 6)) a.args a.s (k + 1) (n + 6) a.A) (fun t h => ?_) ?_
  · obtain ⟨o, h6, h7, h8⟩ := h
    exact ⟨o, h6, h7, k + 1, n + 6, h8⟩
  · refine vx_throwS hx hb hT (own := RX11) (cls := cls) (text := text) (names := exN) (ik := ik) (is := is) (ic := ic) (sa := g.2.2.1 RX11 is) (A := a.A) (by rw [← hM]; exact hown) h1 exN_fit (hts _ h2) (hts _ h3) (hO.2.1 _ ht) (fun w hw => wrd hE hi (h4 w hw) (h5 w (List.mem_cons_of_mem _ (List.mem_cons_of_mem _ hw)))) h5 hO.1.1 hO.1.2 hS (by rw [hml]; exact hl.1) d0 d3 d4 d6 d9 (by rw [htb, htb0]; exact fun x hx => by cases hx) (by show 2 + 3 < d; omega) (by show 0 + (13 * 3 + 43) ≤ 40 * d; omega) hrc hrs hlk (fun t hv h6 h7 => ?_) hS.2.2 (Nat.le_refl _) (Nat.le_refl _)
    refine ⟨ws, hpx, hP.kept (fun q x hq => h7 _ ((hP q x hq).lt)), hD, ⟨Nat.le_trans hS.1 h6, fun q h8 h9 => ?_⟩⟩
    rw [h7 q (Nat.lt_of_lt_of_le h8 hS.1)]
    exact hS.2.1 q h8 h9
theorem q_throwW {l : Launch} {g : Gh} {M : Mt} {d rc rs : Nat} {post : Pst} {px : Pxc} {a : Act} {pc : Nat} {L : List (Option Value)} {ws : va_W} {k n ik is ic : Nat} {cls text : String} (hX : ExK ik ic cls) (ht : (RX11, is, text) ∈ sRefs) (hM : M.own = RX11) (htb0 : M.tb = []) (d0 : decode M.cc pc = .ok (.new ik, 3)) (d3 : decode M.cc (pc + 3) = .ok (.dup, 1)) (d4 : decode M.cc (pc + 4) = .ok (.ldc_w is, 3)) (d6 : decode M.cc (pc + 7) = .ok (.invokespecial ic, 3)) (d9 : decode M.cc (pc + 10) = .ok (.athrow, 1)) (hd : 6 ≤ d) (hrc : k + 1 ≤ rc) (hrs : n + 6 ≤ rs) (hpx : px cls ws (k + 1) (n + 6)) : WPs l g M d rc rs post px a pc L [] ws k n := by
  intro hE H locs ls hP hD hS hl
  obtain ⟨⟨hx, hb, hml, hown, hts⟩, hlk, hret, htb, hnm, hA, hK, hO, hT⟩ := id hE
  obtain ⟨h1, h2, h3, hi, h4, h5⟩ := hX
  refine W.conseq (Q := vx_MQ a.below (qR g post a.A (k + 1) (n + 6)) (qX g px a.A (k + 1) (n + 6)) a.args a.s (k + 1) (n + 6) a.A) (fun t h => ?_) ?_
  · obtain ⟨o, h6, h7, h8⟩ := h
    exact ⟨o, h6, h7, k + 1, n + 6, h8⟩
  · refine vx_throwSW hx hb hT (own := RX11) (cls := cls) (text := text) (names := exN) (ik := ik) (is := is) (ic := ic) (sa := g.2.2.1 RX11 is) (A := a.A) (by rw [← hM]; exact hown) h1 exN_fit (hts _ h2) (hts _ h3) (hO.2.1 _ ht) (fun w hw => wrd hE hi (h4 w hw) (h5 w (List.mem_cons_of_mem _ (List.mem_cons_of_mem _ hw)))) h5 hO.1.1 hO.1.2 hS (by rw [hml]; exact hl.1) d0 d3 d4 d6 d9 (by rw [htb, htb0]; exact fun x hx => by cases hx) (by show 2 + 3 < d; omega) (by show 0 + (13 * 3 + 43) ≤ 40 * d; omega) hrc hrs hlk (fun t hv h6 h7 => ?_) hS.2.2 (Nat.le_refl _) (Nat.le_refl _)
    refine ⟨ws, hpx, hP.kept (fun q x hq => h7 _ ((hP q x hq).lt)), hD, ⟨Nat.le_trans hS.1 h6, fun q h8 h9 => ?_⟩⟩
    rw [h7 q (Nat.lt_of_lt_of_le h8 hS.1)]
    exact hS.2.1 q h8 h9

