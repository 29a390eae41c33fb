theorem arrc_int : Cond.arrayClass (newarray.typeOf .int) ∈ TT := TT_of (by decide +kernel) rfl
theorem arrc_byte : Cond.arrayClass (newarray.typeOf .byte) ∈ TT := TT_of (by decide +kernel) rfl
theorem arrc_long : Cond.arrayClass (newarray.typeOf .long) ∈ TT := TT_of (by decide +kernel) rfl
section Rules2
variable {l : Launch} {g : Gh} {M : Mt} {d rc rs : Nat} {post : Pst} {px : Pxc} {a : Act} {pc : Nat} {L : List (Option Value)} {st : List Value} {ws : va_W} {k n : Nat}
theorem q_putI {i ci f b : Nat} {ii : Nat → Int32} {rr : List (Option Nat)} {jj : Nat → Int64} {w' : va_W} {x : Int32} (q0 pc' : Nat) (hF : FK M.own i ci f) (hTy : FT ci f .int false) (hd : decode M.cc pc = .ok (.putfield i, 3)) (hq : ws[q0]? = some (b, obj ci ii rr jj)) (hk : (kd ci)[f]? = some 0) (hw : ws.set q0 (b, obj ci (upd ii f x) rr jj) = w') (hp : pc + 3 = pc') (kk : WPs l g M d rc rs post px a pc' L st w' k n) : WPs l g M d rc rs post px a pc L (.int x :: .ref b :: st) ws k n := by
  subst hp; subst hw
  exact q_putG q0 hF hTy hd hq rfl (by rw [fl_len]; exact (List.getElem?_eq_some_iff.mp hk).1) rfl rfl (by rw [fl_si x hk]; rfl) kk
theorem q_putZ {i ci f b : Nat} {ii : Nat → Int32} {rr : List (Option Nat)} {jj : Nat → Int64} {w' : va_W} {x : Int32} (q0 pc' : Nat) (hF : FK M.own i ci f) (hTy : FT ci f .boolean false) (hd : decode M.cc pc = .ok (.putfield i, 3)) (hq : ws[q0]? = some (b, obj ci ii rr jj)) (hk : (kd ci)[f]? = some 0) (hz : x = 0 ∨ x = 1) (hw : ws.set q0 (b, obj ci (upd ii f x) rr jj) = w') (hp : pc + 3 = pc') (kk : WPs l g M d rc rs post px a pc' L st w' k n) : WPs l g M d rc rs post px a pc L (.int x :: .ref b :: st) ws k n := by
  subst hp; subst hw
  exact q_putG q0 hF hTy hd hq rfl (by rw [fl_len]; exact (List.getElem?_eq_some_iff.mp hk).1) (by rcases hz with h | h <;> subst h <;> rfl) (by rcases hz with h | h <;> subst h <;> rfl) (by rw [fl_si x hk]; rfl) kk
theorem q_putJ {i ci f b : Nat} {ii : Nat → Int32} {rr : List (Option Nat)} {jj : Nat → Int64} {w' : va_W} {x : Int64} (q0 pc' : Nat) (hF : FK M.own i ci f) (hTy : FT ci f .long false) (hd : decode M.cc pc = .ok (.putfield i, 3)) (hq : ws[q0]? = some (b, obj ci ii rr jj)) (hk : (kd ci)[f]? = some 2) (hw : ws.set q0 (b, obj ci ii rr (vp_updL jj f x)) = w') (hp : pc + 3 = pc') (kk : WPs l g M d rc rs post px a pc' L st w' k n) : WPs l g M d rc rs post px a pc L (.long x :: .ref b :: st) ws k n := by
  subst hp; subst hw
  exact q_putG q0 hF hTy hd hq rfl (by rw [fl_len]; exact (List.getElem?_eq_some_iff.mp hk).1) rfl rfl (by rw [fl_sj x hk]; rfl) kk
theorem q_putR {i ci f b : Nat} {ii : Nat → Int32} {rr : List (Option Nat)} {jj : Nat → Int64} {w' : va_W} {x : Nat} {ty : FieldType} (q0 pc' : Nat) (hF : FK M.own i ci f) (hTy : FT ci f ty false) (hd : decode M.cc pc = .ok (.putfield i, 3)) (hq : ws[q0]? = some (b, obj ci ii rr jj)) (hk : (kd ci)[f]? = some 1) (hr : f < rr.length) (hn : narrow ty (.ref x) = .ref x) (hfit : fits ty (.ref x) = true) {r' : List (Option Nat)} (hr' : rr.set f (some x) = r') (hw : ws.set q0 (b, obj ci ii r' jj) = w') (hp : pc + 3 = pc') (kk : WPs l g M d rc rs post px a pc' L st w' k n) : WPs l g M d rc rs post px a pc L (.ref x :: .ref b :: st) ws k n := by
  subst hp; subst hw; subst hr'
  exact q_putG q0 hF hTy hd hq rfl (by rw [fl_len]; exact (List.getElem?_eq_some_iff.mp hk).1) hn hfit (by have h9 := fl_sr (ks := kd ci) (i := ii) (r := rr) (j := jj) (some x) hk hr; exact congrArg (fun z => (Sum.inr (ci, z) : va_E)) h9) kk
theorem q_putRF {i ci f b : Nat} {ii : Nat → Int32} {rr : List (Option Nat)} {jj : Nat → Int64} {w' : va_W} {x : Nat} {ty : FieldType} (q0 pc' : Nat) (hF : FK M.own i ci f) (hTy : FT ci f ty true) (hi : M.nm = "<init>") (hO1 : vwCl[ci]?.map (fun q => (q.2.1 f).1) = some M.own) (hd : decode M.cc pc = .ok (.putfield i, 3)) (hq : ws[q0]? = some (b, obj ci ii rr jj)) (hk : (kd ci)[f]? = some 1) (hr : f < rr.length) (hn : narrow ty (.ref x) = .ref x) (hfit : fits ty (.ref x) = true) {r' : List (Option Nat)} (hr' : rr.set f (some x) = r') (hw : ws.set q0 (b, obj ci ii r' jj) = w') (hp : pc + 3 = pc') (kk : WPs l g M d rc rs post px a pc' L st w' k n) : WPs l g M d rc rs post px a pc L (.ref x :: .ref b :: st) ws k n := by
  subst hp; subst hw; subst hr'
  exact q_putFG q0 hF hTy hi hO1 hd hq rfl (by rw [fl_len]; exact (List.getElem?_eq_some_iff.mp hk).1) hn hfit (by have h9 := fl_sr (ks := kd ci) (i := ii) (r := rr) (j := jj) (some x) hk hr; exact congrArg (fun z => (Sum.inr (ci, z) : va_E)) h9) kk
/-- i is the number j, and j is a place among N -/
def ix (i : Int32) (j N : Nat) : Prop := i = nI j ∧ j < N ∧ N < 2 ^ 31
theorem ix.in {i : Int32} {j N : Nat} (h : ix i j N) : vp_in i N := by rw [h.1]; exact vp_in_nI h.2.1 h.2.2
theorem ix.cl {i : Int32} {j N : Nat} (h : ix i j N) : i.toNatClampNeg = j := by rw [h.1]; exact nI_clamp (Nat.lt_trans h.2.1 h.2.2)
theorem ix.of {j N : Nat} (h : j < N) (hN : N < 2 ^ 31) : ix (nI j) j N := ⟨rfl, h, hN⟩
theorem q_iald {b N : Nat} {i : Int32} {f : Nat → Int32} (q0 j pc' : Nat) (hd : decode M.cc pc = .ok (.iaload, 1)) (hq : ws[q0]? = some (b, aI g N f)) (hi : ix i j N) (hp : pc + 1 = pc') (kk : WPs l g M d rc rs post px a pc' L (.int (f j) :: st) ws k n) : WPs l g M d rc rs post px a pc L (.int i :: .ref b :: st) ws k n := by
  intro hE H locs ls hP hD hS hl
  obtain ⟨⟨hx, hb, hml, hown, hts⟩, hlk, hret, htb, hnm, hA, hK, hO, hT⟩ := id hE
  subst hp
  refine va_iald (D := g.1) (cl := vwCl) (tys := tysG g) hx hb hK hP q0 0 hq rfl hi.in hd ?_
  rw [hi.cl]
  exact kk hE H locs ls hP hD hS hl
theorem q_bald {b N : Nat} {i : Int32} {f : Nat → Int32} (q0 j pc' : Nat) (hd : decode M.cc pc = .ok (.baload, 1)) (hq : ws[q0]? = some (b, aB g N f)) (hi : ix i j N) (hp : pc + 1 = pc') (kk : WPs l g M d rc rs post px a pc' L (.int (f j) :: st) ws k n) : WPs l g M d rc rs post px a pc L (.int i :: .ref b :: st) ws k n := by
  intro hE H locs ls hP hD hS hl
  obtain ⟨⟨hx, hb, hml, hown, hts⟩, hlk, hret, htb, hnm, hA, hK, hO, hT⟩ := id hE
  subst hp
  refine va_bald (D := g.1) (cl := vwCl) (tys := tysG g) hx hb hK hP q0 1 hq rfl hi.in hd ?_
  rw [hi.cl]
  exact kk hE H locs ls hP hD hS hl
theorem q_lald {b N : Nat} {i : Int32} {f : Nat → Int64} (q0 j pc' : Nat) (hd : decode M.cc pc = .ok (.laload, 1)) (hq : ws[q0]? = some (b, aJ g N f)) (hi : ix i j N) (hp : pc + 1 = pc') (kk : WPs l g M d rc rs post px a pc' L (.long (f j) :: st) ws k n) : WPs l g M d rc rs post px a pc L (.int i :: .ref b :: st) ws k n := by
  intro hE H locs ls hP hD hS hl
  obtain ⟨⟨hx, hb, hml, hown, hts⟩, hlk, hret, htb, hnm, hA, hK, hO, hT⟩ := id hE
  subst hp
  refine va_lald (D := g.1) (cl := vwCl) (tys := tysG g) hx hb hK hP q0 2 hq rfl hi.in hd ?_
  rw [hi.cl]
  exact kk hE H locs ls hP hD hS hl
theorem q_aald {b N x : Nat} {i : Int32} {f : Nat → Option Nat} (q0 j pc' : Nat) (hd : decode M.cc pc = .ok (.aaload, 1)) (hq : ws[q0]? = some (b, aR g N f)) (hi : ix i j N) (hr : f j = some x) (hp : pc + 1 = pc') (kk : WPs l g M d rc rs post px a pc' L (.ref x :: st) ws k n) : WPs l g M d rc rs post px a pc L (.int i :: .ref b :: st) ws k n := by
  intro hE H locs ls hP hD hS hl
  obtain ⟨⟨hx, hb, hml, hown, hts⟩, hlk, hret, htb, hnm, hA, hK, hO, hT⟩ := id hE
  subst hp
  refine va_aldq (D := g.1) (cl := vwCl) (tys := tysG g) hx hb hK hP q0 3 hq rfl hi.in hd ?_
  rw [hi.cl, hr]
  exact kk hE H locs ls hP hD hS hl
theorem q_aaldN {b N : Nat} {i : Int32} {f : Nat → Option Nat} (q0 j pc' : Nat) (hd : decode M.cc pc = .ok (.aaload, 1)) (hq : ws[q0]? = some (b, aR g N f)) (hi : ix i j N) (hr : f j = none) (hp : pc + 1 = pc') (kk : WPs l g M d rc rs post px a pc' L (.null :: st) ws k n) : WPs l g M d rc rs post px a pc L (.int i :: .ref b :: st) ws k n := by
  intro hE H locs ls hP hD hS hl
  obtain ⟨⟨hx, hb, hml, hown, hts⟩, hlk, hret, htb, hnm, hA, hK, hO, hT⟩ := id hE
  subst hp
  refine va_aldq (D := g.1) (cl := vwCl) (tys := tysG g) hx hb hK hP q0 3 hq rfl hi.in hd ?_
  rw [hi.cl, hr]
  exact kk hE H locs ls hP hD hS hl
theorem q_iast {b N : Nat} {i x : Int32} {f : Nat → Int32} {w' : va_W} (q0 j pc' : Nat) (hd : decode M.cc pc = .ok (.iastore, 1)) (hq : ws[q0]? = some (b, aI g N f)) (hi : ix i j N) (hw : ws.set q0 (b, aI g N (upd f j x)) = w') (hp : pc + 1 = pc') (kk : WPs l g M d rc rs post px a pc' L st w' k n) : WPs l g M d rc rs post px a pc L (.int x :: .int i :: .ref b :: st) ws k n := by
  intro hE H locs ls hP hD hS hl
  obtain ⟨⟨hx, hb, hml, hown, hts⟩, hlk, hret, htb, hnm, hA, hK, hO, hT⟩ := id hE
  subst hp; subst hw
  refine va_iast (D := g.1) (cl := vwCl) (tys := tysG g) hx hb hK hP hD hS q0 0 hq rfl hi.in hd (fun H1 locs1 hP1 hD1 hS1 => ?_)
  rw [hi.cl] at hP1 hD1
  exact kk hE H1 locs1 ls hP1 hD1 hS1 hl
theorem q_bast {b N : Nat} {i x : Int32} {f : Nat → Int32} {w' : va_W} (q0 j pc' : Nat) (hd : decode M.cc pc = .ok (.bastore, 1)) (hq : ws[q0]? = some (b, aB g N f)) (hi : ix i j N) (hw : ws.set q0 (b, aB g N (upd f j (vp_nar .byte x))) = w') (hp : pc + 1 = pc') (kk : WPs l g M d rc rs post px a pc' L st w' k n) : WPs l g M d rc rs post px a pc L (.int x :: .int i :: .ref b :: st) ws k n := by
  intro hE H locs ls hP hD hS hl
  obtain ⟨⟨hx, hb, hml, hown, hts⟩, hlk, hret, htb, hnm, hA, hK, hO, hT⟩ := id hE
  subst hp; subst hw
  refine va_bast (D := g.1) (cl := vwCl) (tys := tysG g) hx hb hK hP hD hS q0 1 hq rfl hi.in hd (fun H1 locs1 hP1 hD1 hS1 => ?_)
  rw [hi.cl] at hP1 hD1
  exact kk hE H1 locs1 ls hP1 hD1 hS1 hl
theorem q_last {b N : Nat} {i : Int32} {x : Int64} {f : Nat → Int64} {w' : va_W} (q0 j pc' : Nat) (hd : decode M.cc pc = .ok (.lastore, 1)) (hq : ws[q0]? = some (b, aJ g N f)) (hi : ix i j N) (hw : ws.set q0 (b, aJ g N (vp_updL f j x)) = w') (hp : pc + 1 = pc') (kk : WPs l g M d rc rs post px a pc' L st w' k n) : WPs l g M d rc rs post px a pc L (.long x :: .int i :: .ref b :: st) ws k n := by
  intro hE H locs ls hP hD hS hl
  obtain ⟨⟨hx, hb, hml, hown, hts⟩, hlk, hret, htb, hnm, hA, hK, hO, hT⟩ := id hE
  subst hp; subst hw
  refine va_last (D := g.1) (cl := vwCl) (tys := tysG g) hx hb hK hP hD hS q0 2 hq rfl hi.in hd (fun H1 locs1 hP1 hD1 hS1 => ?_)
  rw [hi.cl] at hP1 hD1
  exact kk hE H1 locs1 ls hP1 hD1 hS1 hl
theorem q_aast {b N c9 v : Nat} {i : Int32} {f : Nat → Option Nat} {ii : Nat → Int32} {rr : List (Option Nat)} {jj : Nat → Int64} {w' : va_W} (q0 qv j pc' : Nat) (hd : decode M.cc pc = .ok (.aastore, 1)) (hq : ws[q0]? = some (b, aR g N f)) (hv : ws[qv]? = some (v, obj 4 ii rr jj)) (hi : ix i j N) (hw : ws.set q0 (b, aR g N (va_up f j (some v))) = w') (hp : pc + 1 = pc') (kk : WPs l g M d rc rs post px a pc' L st w' k n) : WPs l g M d rc rs post px a pc L (.ref v :: .int i :: .ref b :: st) ws k n := by
  intro hE H locs ls hP hD hS hl
  obtain ⟨⟨hx, hb, hml, hown, hts⟩, hlk, hret, htb, hnm, hA, hK, hO, hT⟩ := id hE
  subst hp; subst hw
  refine va_astq (D := g.1) (cl := vwCl) (tys := tysG g) (r := (RX4, TX4, 2)) hx hb hK hP hD hS q0 3 qv 4 hq rfl hv rfl hi.in hd (fun H1 locs1 hP1 hD1 hS1 => ?_)
  rw [hi.cl] at hP1 hD1
  exact kk hE H1 locs1 ls hP1 hD1 hS1 hl
theorem q_alenI {b N : Nat} {f : Nat → Int32} (q0 : Nat) (v : Int32) (pc' : Nat) (hd : decode M.cc pc = .ok (.arraylength, 1)) (hq : ws[q0]? = some (b, aI g N f)) (hv : nI N = v) (hp : pc + 1 = pc') (kk : WPs l g M d rc rs post px a pc' L (.int v :: st) ws k n) : WPs l g M d rc rs post px a pc L (.ref b :: st) ws k n := by
  intro hE H locs ls hP hD hS hl
  obtain ⟨⟨hx, hb, hml, hown, hts⟩, hlk, hret, htb, hnm, hA, hK, hO, hT⟩ := id hE
  subst hp
  exact va_alen (D := g.1) (cl := vwCl) (tys := tysG g) (ty := .int) hx hb hK hP q0 0 hq rfl hv hd (kk hE H locs ls hP hD hS hl)
theorem q_alenB {b N : Nat} {f : Nat → Int32} (q0 : Nat) (v : Int32) (pc' : Nat) (hd : decode M.cc pc = .ok (.arraylength, 1)) (hq : ws[q0]? = some (b, aB g N f)) (hv : nI N = v) (hp : pc + 1 = pc') (kk : WPs l g M d rc rs post px a pc' L (.int v :: st) ws k n) : WPs l g M d rc rs post px a pc L (.ref b :: st) ws k n := by
  intro hE H locs ls hP hD hS hl
  obtain ⟨⟨hx, hb, hml, hown, hts⟩, hlk, hret, htb, hnm, hA, hK, hO, hT⟩ := id hE
  subst hp
  exact va_alen (D := g.1) (cl := vwCl) (tys := tysG g) (ty := .byte) hx hb hK hP q0 1 hq rfl hv hd (kk hE H locs ls hP hD hS hl)
theorem q_alenJ {b N : Nat} {f : Nat → Int64} (q0 : Nat) (v : Int32) (pc' : Nat) (hd : decode M.cc pc = .ok (.arraylength, 1)) (hq : ws[q0]? = some (b, aJ g N f)) (hv : nI N = v) (hp : pc + 1 = pc') (kk : WPs l g M d rc rs post px a pc' L (.int v :: st) ws k n) : WPs l g M d rc rs post px a pc L (.ref b :: st) ws k n := by
  intro hE H locs ls hP hD hS hl
  obtain ⟨⟨hx, hb, hml, hown, hts⟩, hlk, hret, htb, hnm, hA, hK, hO, hT⟩ := id hE
  subst hp
  exact va_alen (D := g.1) (cl := vwCl) (tys := tysG g) (ty := .long) hx hb hK hP q0 2 hq rfl hv hd (kk hE H locs ls hP hD hS hl)
theorem find_one {U : State} {nm : String} {c1 c2 : ClassId} (h1 : U.vm.findClass nm = some c1) (h2 : U.vm.findClass nm = some c2) : c1 = c2 := Option.some.inj (h1.symm.trans h2)
theorem q_newI {N : Nat} {z : Int32} (pc' : Nat) (hd : decode M.cc pc = .ok (.newarray .int, 2)) (hz : z = nI N) (hN : N ≤ 60000000) (hrc : k + 1 ≤ rc) (hrs : n + N ≤ rs) (hp : pc + 2 = pc') (kk : ∀ q : Nat, WPs l g M d rc rs post px a pc' L (.ref q :: st) (ws ++ [(q, aI g N (fun _ => 0))]) (k + 1) (n + N)) : WPs l g M d rc rs post px a pc L (.int z :: st) ws k n := by
  intro hE H locs ls hP hD hS hl
  obtain ⟨⟨hx, hb, hml, hown, hts⟩, hlk, hret, htb, hnm, hA, hK, hO, hT⟩ := id hE
  subst hp; subst hz
  refine va_newa (D := g.1) (cl := vwCl) (tys := tysG g) (atype := .int) (ty := .int) (N' := N) (a0 := ((aI g N (fun _ => 0)).elim (fun q => q.2) (fun _ => (0, .inl (fun _ => 0))))) hx hb (hts _ arrc_int) rfl hK hP hD hS hA ?_ (nI_pos (by omega)) (nI_clamp (by omega)) (by show N * 4 ≤ 536870912; omega) hrc hrs hd (fun q cA H1 hK1 hP1 hD1 hS1 => ?_)
  · intro cA; first | rfl | (simp [vp_cell, arrV, aI, defaultValue])
  · have e1 := (hK1.2 4 (cA, .int) rfl).2
    have e2 := (hK.2 0 (g.2.1 0, .int) rfl).2
    have e3 : cA = g.2.1 0 := find_one e1 e2
    subst e3
    exact kk q hE H1 locs ls hP1 hD1 hS1 hl
theorem q_newB {N : Nat} {z : Int32} (pc' : Nat) (hd : decode M.cc pc = .ok (.newarray .byte, 2)) (hz : z = nI N) (hN : N ≤ 60000000) (hrc : k + 1 ≤ rc) (hrs : n + N ≤ rs) (hp : pc + 2 = pc') (kk : ∀ q : Nat, WPs l g M d rc rs post px a pc' L (.ref q :: st) (ws ++ [(q, aB g N (fun _ => 0))]) (k + 1) (n + N)) : WPs l g M d rc rs post px a pc L (.int z :: st) ws k n := by
  intro hE H locs ls hP hD hS hl
  obtain ⟨⟨hx, hb, hml, hown, hts⟩, hlk, hret, htb, hnm, hA, hK, hO, hT⟩ := id hE
  subst hp; subst hz
  refine va_newa (D := g.1) (cl := vwCl) (tys := tysG g) (atype := .byte) (ty := .byte) (N' := N) (a0 := ((aB g N (fun _ => 0)).elim (fun q => q.2) (fun _ => (0, .inl (fun _ => 0))))) hx hb (hts _ arrc_byte) rfl hK hP hD hS hA ?_ (nI_pos (by omega)) (nI_clamp (by omega)) (by show N * 1 ≤ 536870912; omega) hrc hrs hd (fun q cA H1 hK1 hP1 hD1 hS1 => ?_)
  · intro cA; first | rfl | (simp [vp_cell, arrV, aB, defaultValue])
  · have e1 := (hK1.2 4 (cA, .byte) rfl).2
    have e2 := (hK.2 1 (g.2.1 1, .byte) rfl).2
    have e3 : cA = g.2.1 1 := find_one e1 e2
    subst e3
    exact kk q hE H1 locs ls hP1 hD1 hS1 hl
theorem q_newJ {N : Nat} {z : Int32} (pc' : Nat) (hd : decode M.cc pc = .ok (.newarray .long, 2)) (hz : z = nI N) (hN : N ≤ 60000000) (hrc : k + 1 ≤ rc) (hrs : n + N ≤ rs) (hp : pc + 2 = pc') (kk : ∀ q : Nat, WPs l g M d rc rs post px a pc' L (.ref q :: st) (ws ++ [(q, aJ g N (fun _ => 0))]) (k + 1) (n + N)) : WPs l g M d rc rs post px a pc L (.int z :: st) ws k n := by
  intro hE H locs ls hP hD hS hl
  obtain ⟨⟨hx, hb, hml, hown, hts⟩, hlk, hret, htb, hnm, hA, hK, hO, hT⟩ := id hE
  subst hp; subst hz
  refine va_newa (D := g.1) (cl := vwCl) (tys := tysG g) (atype := .long) (ty := .long) (N' := N) (a0 := ((aJ g N (fun _ => 0)).elim (fun q => q.2) (fun _ => (0, .inl (fun _ => 0))))) hx hb (hts _ arrc_long) rfl hK hP hD hS hA ?_ (nI_pos (by omega)) (nI_clamp (by omega)) (by show N * 8 ≤ 536870912; omega) hrc hrs hd (fun q cA H1 hK1 hP1 hD1 hS1 => ?_)
  · intro cA; first | rfl | (simp [vp_cell, arrV, aJ, defaultValue])
  · have e1 := (hK1.2 4 (cA, .long) rfl).2
    have e2 := (hK.2 2 (g.2.1 2, .long) rfl).2
    have e3 : cA = g.2.1 2 := find_one e1 e2
    subst e3
    exact kk q hE H1 locs ls hP1 hD1 hS1 hl
theorem q_newR {N i : Nat} {z : Int32} (pc' : Nat) (hl0 : Cond.classLink M.own i RX4 ∈ TT) (hd : decode M.cc pc = .ok (.anewarray i, 3)) (hz : z = nI N) (hN : N ≤ 60000000) (hrc : k + 1 ≤ rc) (hrs : n + N ≤ rs) (hp : pc + 3 = pc') (kk : ∀ q : Nat, WPs l g M d rc rs post px a pc' L (.ref q :: st) (ws ++ [(q, aR g N (fun _ => none))]) (k + 1) (n + N)) : WPs l g M d rc rs post px a pc L (.int z :: st) ws k n := by
  intro hE H locs ls hP hD hS hl
  obtain ⟨⟨hx, hb, hml, hown, hts⟩, hlk, hret, htb, hnm, hA, hK, hO, hT⟩ := id hE
  subst hp; subst hz
  refine va_newq (D := g.1) (cl := vwCl) (tys := tysG g) (N' := N) hx hb hown (hts _ hl0) hO.2.2.2.2.2.2.2.2 hK hP hD hS hA (nI_pos (by omega)) (nI_clamp (by omega)) (by omega) hrc hrs hd (fun q cA H1 hK1 hP1 hD1 hS1 => ?_)
  have e1 := (hK1.2 4 (cA, .object RX4) rfl).2
  have e2 := (hK.2 3 (g.2.1 3, .object RX4) rfl).2
  obtain ⟨_, _, _, _, _, e1⟩ := e1
  obtain ⟨_, _, _, _, _, e2⟩ := e2
  have e3 : cA = g.2.1 3 := find_one e1 e2
  subst e3
  exact kk q hE H1 locs ls hP1 hD1 hS1 hl
/-- a class that can be made: the owner's entry i is class ci -/
def NK (own : String) (i ci : Nat) : Prop := ∃ (C : String) (T : u_T) (N : Nat) (ty : Nat → FieldType), vwCl[ci]? = some (C, T, N) ∧ (∀ w ∈ u_ws C T N, w ∈ TT) ∧ (∀ k, k < N → parseFieldDescriptor (T k).2.2.1 = some (ty k)) ∧ Cond.classLink own i C ∈ TT ∧ Cond.instantiable C N ∈ TT ∧ Cond.initialized C ∈ TT ∧ N = (kd ci).length ∧ ∀ j, j < N → defaultValue (ty j) = vp_V (fl (kd ci) 0 (fun _ => 0) (List.replicate N none) (fun _ => 0)) j
theorem q_new {i ci N : Nat} (pc' : Nat) (hK0 : NK M.own i ci) (hN : (kd ci).length = N) (hd : decode M.cc pc = .ok (.new i, 3)) (hrc : k + 1 ≤ rc) (hrs : n + N ≤ rs) (hp : pc + 3 = pc') (kk : ∀ q : Nat, WPs l g M d rc rs post px a pc' L (.ref q :: st) (ws ++ [(q, ob ci (fun _ => 0) (List.replicate N none))]) (k + 1) (n + N)) : WPs l g M d rc rs post px a pc L st ws k n := by
  intro hE H locs ls hP hD hS hl
  obtain ⟨⟨hx, hb, hml, hown, hts⟩, hlk, hret, htb, hnm, hA, hK, hO, hT⟩ := id hE
  subst hp
  obtain ⟨C, T, N', ty, f1, f2, f3, f4, f5, f6, f7, f8⟩ := hK0
  rw [hN] at f7
  subst f7
  exact va_new (D := g.1) (cl := vwCl) (tys := tysG g) hx hb hts f2 ty f3 hown (hts _ f4) (hts _ f5) (hts _ f6) hK hP hD hS hA f1 f8 hrc hrs hd (fun q H1 hP1 hD1 hS1 => kk q hE H1 locs ls hP1 hD1 hS1 hl)
theorem q_sub {ws' : va_W} (is : List Nat) (hn : va_nd is = true) (hs : is.map (fun i => ws[i]?) = ws'.map some) (kk : WPs l g M d rc rs post px a pc L st ws' k n) : WPs l g M d rc rs post px a pc L st ws k n := by
  intro hE H locs ls hP hD hS hl
  obtain ⟨⟨hx, hb, hml, hown, hts⟩, hlk, hret, htb, hnm, hA, hK, hO, hT⟩ := id hE
  refine kk hE H locs ls (fun q x hq => ?_) (hD.sub is hn hs) hS hl
  have h1 : (is.map (fun i => ws[i]?))[q]? = some (some x) := by rw [hs, List.getElem?_map, hq]; rfl
  rw [List.getElem?_map] at h1
  cases hi : is[q]? with
  | none => rw [hi] at h1; cases h1
  | some i => rw [hi] at h1; exact hP i x (Option.some.inj h1)
theorem q_widen {k' n' : Nat} (h1 : k ≤ k') (h2 : n ≤ n') (kk : WPs l g M d rc rs post px a pc L st ws k' n') : WPs l g M d rc rs post px a pc L st ws k n := by
  intro hE H locs ls hP hD hS hl
  obtain ⟨⟨hx, hb, hml, hown, hts⟩, hlk, hret, htb, hnm, hA, hK, hO, hT⟩ := id hE
  exact W.widen h1 h2 (kk hE H locs ls hP hD hS hl)
theorem q_loc {L' : List (Option Value)} (h : ∀ q ∈ lp 0 L', q ∈ lp 0 L) (kk : WPs l g M d rc rs post px a pc L' st ws k n) : WPs l g M d rc rs post px a pc L st ws k n := by
  intro hE H locs ls hP hD hS hl
  obtain ⟨⟨hx, hb, hml, hown, hts⟩, hlk, hret, htb, hnm, hA, hK, hO, hT⟩ := id hE
  exact kk hE H locs ls hP hD hS (lv_less hl h)
theorem q_ireturn {v : Int32} (hd : decode M.cc pc = .ok (.ireturn, 1)) (hr : M.ret = some .int) (hpost : post (some (.int v)) ws k n) : WPs l g M d rc rs post px a pc L [.int v] ws k n := by
  intro hE H locs ls hP hD hS hl
  obtain ⟨⟨hx, hb, hml, hown, hts⟩, hlk, hret, htb, hnm, hA, hK, hO, hT⟩ := id hE
  refine W.conseq (Q := MQ a.below (qR g post a.A k n) a.args a.s k n a.A) (fun t h => ?_) ?_
  · obtain ⟨o, h1, h2, h3, h4⟩ := h
    exact ⟨o, h1, h2, k, n, Or.inl ⟨h3, h4⟩⟩
  · exact W.iret hx hb (hret.trans hr) (fun t ht hW => ⟨some (.int v), ws, rfl, hpost, by rw [ht]; exact hP, hD, hS.F ht⟩) hS.2.2 hd hlk
theorem q_zreturn {v : Int32} (hd : decode M.cc pc = .ok (.ireturn, 1)) (hr : M.ret = some .boolean) (hz : v = 0 ∨ v = 1) (hpost : post (some (.int v)) ws k n) : WPs l g M d rc rs post px a pc L [.int v] ws k n := by
  intro hE H locs ls hP hD hS hl
  obtain ⟨⟨hx, hb, hml, hown, hts⟩, hlk, hret, htb, hnm, hA, hK, hO, hT⟩ := id hE
  refine W.conseq (Q := MQ a.below (qR g post a.A k n) a.args a.s k n a.A) (fun t h => ?_) ?_
  · obtain ⟨o, h1, h2, h3, h4⟩ := h
    exact ⟨o, h1, h2, k, n, Or.inl ⟨h3, h4⟩⟩
  · exact W.zret hx hb (hret.trans hr) (by rcases hz with h | h <;> subst h <;> rfl) (fun t ht hW => ⟨some (.int v), ws, rfl, hpost, by rw [ht]; exact hP, hD, hS.F ht⟩) hS.2.2 hd hlk
theorem q_creturn {v : Int32} {ty : FieldType} (hd : decode M.cc pc = .ok (.ireturn, 1)) (hr : M.ret = some ty) (hz : narrow ty (.int v) = .int v) (hpost : post (some (.int v)) ws k n) : WPs l g M d rc rs post px a pc L [.int v] ws k n := by
  intro hE H locs ls hP hD hS hl
  obtain ⟨⟨hx, hb, hml, hown, hts⟩, hlk, hret, htb, hnm, hA, hK, hO, hT⟩ := id hE
  refine W.conseq (Q := MQ a.below (qR g post a.A k n) a.args a.s k n a.A) (fun t h => ?_) ?_
  · obtain ⟨o, h1, h2, h3, h4⟩ := h
    exact ⟨o, h1, h2, k, n, Or.inl ⟨h3, h4⟩⟩
  · exact W.zret hx hb (hret.trans hr) hz (fun t ht hW => ⟨some (.int v), ws, rfl, hpost, by rw [ht]; exact hP, hD, hS.F ht⟩) hS.2.2 hd hlk
theorem q_lreturn {v : Int64} (hd : decode M.cc pc = .ok (.lreturn, 1)) (hr : M.ret = some .long) (hpost : post (some (.long v)) ws k n) : WPs l g M d rc rs post px a pc L [.long v] ws k n := by
  intro hE H locs ls hP hD hS hl
  obtain ⟨⟨hx, hb, hml, hown, hts⟩, hlk, hret, htb, hnm, hA, hK, hO, hT⟩ := id hE
  refine W.conseq (Q := MQ a.below (qR g post a.A k n) a.args a.s k n a.A) (fun t h => ?_) ?_
  · obtain ⟨o, h1, h2, h3, h4⟩ := h
    exact ⟨o, h1, h2, k, n, Or.inl ⟨h3, h4⟩⟩
  · exact W.lret hx hb (hret.trans hr) (fun t ht hW => ⟨some (.long v), ws, rfl, hpost, by rw [ht]; exact hP, hD, hS.F ht⟩) hS.2.2 hd hlk
theorem q_areturn {v : Nat} {rt : FieldType} (hd : decode M.cc pc = .ok (.areturn, 1)) (hr : M.ret = some rt) (hrt : (∃ n, rt = .object n) ∨ ∃ t, rt = .array t) (hpost : post (some (.ref v)) ws k n) : WPs l g M d rc rs post px a pc L [.ref v] ws k n := by
  intro hE H locs ls hP hD hS hl
  obtain ⟨⟨hx, hb, hml, hown, hts⟩, hlk, hret, htb, hnm, hA, hK, hO, hT⟩ := id hE
  refine W.conseq (Q := MQ a.below (qR g post a.A k n) a.args a.s k n a.A) (fun t h => ?_) ?_
  · obtain ⟨o, h1, h2, h3, h4⟩ := h
    exact ⟨o, h1, h2, k, n, Or.inl ⟨h3, h4⟩⟩
  · exact W.aret hx hb (hret.trans hr) hrt (Or.inr ⟨v, rfl⟩) (fun t ht hW => ⟨some (.ref v), ws, rfl, hpost, by rw [ht]; exact hP, hD, hS.F ht⟩) hS.2.2 hd hlk
theorem q_return (hd : decode M.cc pc = .ok (.return_, 1)) (hr : M.ret = none) (hpost : post none ws k n) : WPs l g M d rc rs post px a pc L [] ws k n := by
  intro hE H locs ls hP hD hS hl
  obtain ⟨⟨hx, hb, hml, hown, hts⟩, hlk, hret, htb, hnm, hA, hK, hO, hT⟩ := id hE
  refine W.conseq (Q := MQ a.below (qR g post a.A k n) a.args a.s k n a.A) (fun t h => ?_) ?_
  · obtain ⟨o, h1, h2, h3, h4⟩ := h
    exact ⟨o, h1, h2, k, n, Or.inl ⟨h3, h4⟩⟩
  · exact W.vret hx hb (hret.trans hr) (fun t ht hW => ⟨none, ws, rfl, hpost, by rw [ht]; exact hP, hD, hS.F ht⟩) hS.2.2 hd hlk
end Rules2
