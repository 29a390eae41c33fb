section Rules
variable {l : Launch} {g : Gh} {M : Mt} {d rc rs : Nat} {post : Pst} {px : Pxc} {a : Act} {pc : Nat} {L : List (Option Value)} {st : List Value} {ws : va_W} {k n : Nat}
theorem q_iconst {z : Int} (v : Int32) (pc' : Nat) (hd : decode M.cc pc = .ok (.iconst z, 1)) (hv : Int32.ofInt z = v) (hp : pc + 1 = pc') (kk : WPs l g M d rc rs post px a pc' L (.int v :: st) ws k n) : WPs l g M d rc rs post px a pc L st ws k n := by
  intro hE H locs ls hP hD hS hl
  obtain ⟨⟨hx, hb, hml, hown, hts⟩, hlk, hret, htb, hnm, hA, hK, hO, hT⟩ := id hE
  subst hp
  exact lv_iconst hx hb hd hv (kk hE H locs ls hP hD hS hl)
theorem q_bipush {z : Int} (v : Int32) (pc' : Nat) (hd : decode M.cc pc = .ok (.bipush z, 2)) (hv : (Int8.ofInt z).toInt32 = v) (hp : pc + 2 = pc') (kk : WPs l g M d rc rs post px a pc' L (.int v :: st) ws k n) : WPs l g M d rc rs post px a pc L st ws k n := by
  intro hE H locs ls hP hD hS hl
  obtain ⟨⟨hx, hb, hml, hown, hts⟩, hlk, hret, htb, hnm, hA, hK, hO, hT⟩ := id hE
  subst hp
  exact lv_bipush hx hb hd hv (kk hE H locs ls hP hD hS hl)
theorem q_sipush {z : Int} (v : Int32) (pc' : Nat) (hd : decode M.cc pc = .ok (.sipush z, 3)) (hv : (Int16.ofInt z).toInt32 = v) (hp : pc + 3 = pc') (kk : WPs l g M d rc rs post px a pc' L (.int v :: st) ws k n) : WPs l g M d rc rs post px a pc L st ws k n := by
  intro hE H locs ls hP hD hS hl
  obtain ⟨⟨hx, hb, hml, hown, hts⟩, hlk, hret, htb, hnm, hA, hK, hO, hT⟩ := id hE
  subst hp
  exact lv_sipush hx hb hd hv (kk hE H locs ls hP hD hS hl)
theorem q_lconst {z : Fin 2} (v : Int64) (pc' : Nat) (hd : decode M.cc pc = .ok (.lconst z, 1)) (hv : Int64.ofNat (z : Nat) = v) (hp : pc + 1 = pc') (kk : WPs l g M d rc rs post px a pc' L (.long v :: st) ws k n) : WPs l g M d rc rs post px a pc L st ws k n := by
  intro hE H locs ls hP hD hS hl
  obtain ⟨⟨hx, hb, hml, hown, hts⟩, hlk, hret, htb, hnm, hA, hK, hO, hT⟩ := id hE
  subst hp
  exact lv_lconst hx hb hd hv (kk hE H locs ls hP hD hS hl)
theorem q_ldc {i : Nat} (v : Int32) (pc' : Nat) (hc : Cond.constant M.own i v ∈ TT) (hd : decode M.cc pc = .ok (.ldc i, 2)) (hp : pc + 2 = pc') (kk : WPs l g M d rc rs post px a pc' L (.int v :: st) ws k n) : WPs l g M d rc rs post px a pc L st ws k n := by
  intro hE H locs ls hP hD hS hl
  obtain ⟨⟨hx, hb, hml, hown, hts⟩, hlk, hret, htb, hnm, hA, hK, hO, hT⟩ := id hE
  subst hp
  exact lv_ldc hx hb hown (hts _ hc) hd (kk hE H locs ls hP hD hS hl)
theorem q_ldcw {i : Nat} (v : Int32) (pc' : Nat) (hc : Cond.constant M.own i v ∈ TT) (hd : decode M.cc pc = .ok (.ldc_w i, 3)) (hp : pc + 3 = pc') (kk : WPs l g M d rc rs post px a pc' L (.int v :: st) ws k n) : WPs l g M d rc rs post px a pc L st ws k n := by
  intro hE H locs ls hP hD hS hl
  obtain ⟨⟨hx, hb, hml, hown, hts⟩, hlk, hret, htb, hnm, hA, hK, hO, hT⟩ := id hE
  subst hp
  exact lv_ldcw hx hb hown (hts _ hc) hd (kk hE H locs ls hP hD hS hl)
theorem q_ldc2 {i : Nat} (v : Int64) (pc' : Nat) (hc : Cond.constantLong M.own i v ∈ TT) (hd : decode M.cc pc = .ok (.ldc2_w i, 3)) (hp : pc + 3 = pc') (kk : WPs l g M d rc rs post px a pc' L (.long v :: st) ws k n) : WPs l g M d rc rs post px a pc L st ws k n := by
  intro hE H locs ls hP hD hS hl
  obtain ⟨⟨hx, hb, hml, hown, hts⟩, hlk, hret, htb, hnm, hA, hK, hO, hT⟩ := id hE
  subst hp
  exact lv_ldc2 hx hb hown (hts _ hc) hd (kk hE H locs ls hP hD hS hl)
theorem q_ldcS {i : Nat} (tx : String) (pc' : Nat) (hc : (M.own, i, tx) ∈ sRefs) (hd : decode M.cc pc = .ok (.ldc i, 2)) (hp : pc + 2 = pc') (kk : WPs l g M d rc rs post px a pc' L (.ref (g.2.2.1 M.own i) :: st) ws k n) : WPs l g M d rc rs post px a pc L st ws k n := by
  intro hE H locs ls hP hD hS hl
  obtain ⟨⟨hx, hb, hml, hown, hts⟩, hlk, hret, htb, hnm, hA, hK, hO, hT⟩ := id hE
  subst hp
  exact va_ldcS hx hb hown (hO.2.1 _ hc) hd (kk hE H locs ls hP hD hS hl)
theorem q_iload_n {z : Fin 4} {x : Int32} (i pc' : Nat) (hd : decode M.cc pc = .ok (.iload_n z, 1)) (hi : (z : Nat) = i) (hL : L[i]? = some (some (.int x))) (hp : pc + 1 = pc') (kk : WPs l g M d rc rs post px a pc' L (.int x :: st) ws k n) : WPs l g M d rc rs post px a pc L st ws k n := by
  intro hE H locs ls hP hD hS hl
  obtain ⟨⟨hx, hb, hml, hown, hts⟩, hlk, hret, htb, hnm, hA, hK, hO, hT⟩ := id hE
  subst hp
  exact lv_iload_n hx hb hd hi (lp_at hl hL) (kk hE H locs ls hP hD hS hl)
theorem q_iload {x : Int32} (i pc' : Nat) (hd : decode M.cc pc = .ok (.iload i, 2)) (hL : L[i]? = some (some (.int x))) (hp : pc + 2 = pc') (kk : WPs l g M d rc rs post px a pc' L (.int x :: st) ws k n) : WPs l g M d rc rs post px a pc L st ws k n := by
  intro hE H locs ls hP hD hS hl
  obtain ⟨⟨hx, hb, hml, hown, hts⟩, hlk, hret, htb, hnm, hA, hK, hO, hT⟩ := id hE
  subst hp
  exact lv_iload hx hb hd (lp_at hl hL) (kk hE H locs ls hP hD hS hl)
theorem q_istore_n {z : Fin 4} {x : Int32} (i pc' : Nat) {L' : List (Option Value)} (hd : decode M.cc pc = .ok (.istore_n z, 1)) (hi : (z : Nat) = i) (hn : i < M.nL) (hL : sto1 L i (.int x) = L') (hp : pc + 1 = pc') (kk : WPs l g M d rc rs post px a pc' L' st ws k n) : WPs l g M d rc rs post px a pc L (.int x :: st) ws k n := by
  intro hE H locs ls hP hD hS hl
  obtain ⟨⟨hx, hb, hml, hown, hts⟩, hlk, hret, htb, hnm, hA, hK, hO, hT⟩ := id hE
  subst hp; subst hL
  exact lv_istore_n hx hb hd hi hl hn rfl (fun ls' h' => kk hE H locs ls' hP hD hS (lv_less h' sto1_sub))
theorem q_istore {x : Int32} (i pc' : Nat) {L' : List (Option Value)} (hd : decode M.cc pc = .ok (.istore i, 2)) (hn : i < M.nL) (hL : sto1 L i (.int x) = L') (hp : pc + 2 = pc') (kk : WPs l g M d rc rs post px a pc' L' st ws k n) : WPs l g M d rc rs post px a pc L (.int x :: st) ws k n := by
  intro hE H locs ls hP hD hS hl
  obtain ⟨⟨hx, hb, hml, hown, hts⟩, hlk, hret, htb, hnm, hA, hK, hO, hT⟩ := id hE
  subst hp; subst hL
  exact lv_istore hx hb hd hl hn rfl (fun ls' h' => kk hE H locs ls' hP hD hS (lv_less h' sto1_sub))
theorem q_lload_n {z : Fin 4} {x : Int64} (i pc' : Nat) (hd : decode M.cc pc = .ok (.lload_n z, 1)) (hi : (z : Nat) = i) (hL : L[i]? = some (some (.long x))) (hp : pc + 1 = pc') (kk : WPs l g M d rc rs post px a pc' L (.long x :: st) ws k n) : WPs l g M d rc rs post px a pc L st ws k n := by
  intro hE H locs ls hP hD hS hl
  obtain ⟨⟨hx, hb, hml, hown, hts⟩, hlk, hret, htb, hnm, hA, hK, hO, hT⟩ := id hE
  subst hp
  exact lv_lload_n hx hb hd hi (lp_at hl hL) (kk hE H locs ls hP hD hS hl)
theorem q_lload {x : Int64} (i pc' : Nat) (hd : decode M.cc pc = .ok (.lload i, 2)) (hL : L[i]? = some (some (.long x))) (hp : pc + 2 = pc') (kk : WPs l g M d rc rs post px a pc' L (.long x :: st) ws k n) : WPs l g M d rc rs post px a pc L st ws k n := by
  intro hE H locs ls hP hD hS hl
  obtain ⟨⟨hx, hb, hml, hown, hts⟩, hlk, hret, htb, hnm, hA, hK, hO, hT⟩ := id hE
  subst hp
  exact lv_lload hx hb hd (lp_at hl hL) (kk hE H locs ls hP hD hS hl)
theorem q_lstore_n {z : Fin 4} {x : Int64} (i pc' : Nat) {L' : List (Option Value)} (hd : decode M.cc pc = .ok (.lstore_n z, 1)) (hi : (z : Nat) = i) (hn : i + 1 < M.nL) (hL : sto2 L i (.long x) = L') (hp : pc + 1 = pc') (kk : WPs l g M d rc rs post px a pc' L' st ws k n) : WPs l g M d rc rs post px a pc L (.long x :: st) ws k n := by
  intro hE H locs ls hP hD hS hl
  obtain ⟨⟨hx, hb, hml, hown, hts⟩, hlk, hret, htb, hnm, hA, hK, hO, hT⟩ := id hE
  subst hp; subst hL
  exact lv_lstore_n hx hb hd hi hl hn rfl (fun ls' h' => kk hE H locs ls' hP hD hS (lv_less h' sto2_sub))
theorem q_lstore {x : Int64} (i pc' : Nat) {L' : List (Option Value)} (hd : decode M.cc pc = .ok (.lstore i, 2)) (hn : i + 1 < M.nL) (hL : sto2 L i (.long x) = L') (hp : pc + 2 = pc') (kk : WPs l g M d rc rs post px a pc' L' st ws k n) : WPs l g M d rc rs post px a pc L (.long x :: st) ws k n := by
  intro hE H locs ls hP hD hS hl
  obtain ⟨⟨hx, hb, hml, hown, hts⟩, hlk, hret, htb, hnm, hA, hK, hO, hT⟩ := id hE
  subst hp; subst hL
  exact lv_lstore hx hb hd hl hn rfl (fun ls' h' => kk hE H locs ls' hP hD hS (lv_less h' sto2_sub))
theorem q_aload_n {z : Fin 4} {x : Nat} (i pc' : Nat) (hd : decode M.cc pc = .ok (.aload_n z, 1)) (hi : (z : Nat) = i) (hL : L[i]? = some (some (.ref x))) (hp : pc + 1 = pc') (kk : WPs l g M d rc rs post px a pc' L (.ref x :: st) ws k n) : WPs l g M d rc rs post px a pc L st ws k n := by
  intro hE H locs ls hP hD hS hl
  obtain ⟨⟨hx, hb, hml, hown, hts⟩, hlk, hret, htb, hnm, hA, hK, hO, hT⟩ := id hE
  subst hp
  exact lv_aload_n hx hb hd hi (lp_at hl hL) (kk hE H locs ls hP hD hS hl)
theorem q_aload {x : Nat} (i pc' : Nat) (hd : decode M.cc pc = .ok (.aload i, 2)) (hL : L[i]? = some (some (.ref x))) (hp : pc + 2 = pc') (kk : WPs l g M d rc rs post px a pc' L (.ref x :: st) ws k n) : WPs l g M d rc rs post px a pc L st ws k n := by
  intro hE H locs ls hP hD hS hl
  obtain ⟨⟨hx, hb, hml, hown, hts⟩, hlk, hret, htb, hnm, hA, hK, hO, hT⟩ := id hE
  subst hp
  exact lv_aload hx hb hd (lp_at hl hL) (kk hE H locs ls hP hD hS hl)
theorem q_astore_n {z : Fin 4} {x : Nat} (i pc' : Nat) {L' : List (Option Value)} (hd : decode M.cc pc = .ok (.astore_n z, 1)) (hi : (z : Nat) = i) (hn : i < M.nL) (hL : sto1 L i (.ref x) = L') (hp : pc + 1 = pc') (kk : WPs l g M d rc rs post px a pc' L' st ws k n) : WPs l g M d rc rs post px a pc L (.ref x :: st) ws k n := by
  intro hE H locs ls hP hD hS hl
  obtain ⟨⟨hx, hb, hml, hown, hts⟩, hlk, hret, htb, hnm, hA, hK, hO, hT⟩ := id hE
  subst hp; subst hL
  exact lv_astore_n hx hb hd hi hl hn rfl (fun ls' h' => kk hE H locs ls' hP hD hS (lv_less h' sto1_sub))
theorem q_astore {x : Nat} (i pc' : Nat) {L' : List (Option Value)} (hd : decode M.cc pc = .ok (.astore i, 2)) (hn : i < M.nL) (hL : sto1 L i (.ref x) = L') (hp : pc + 2 = pc') (kk : WPs l g M d rc rs post px a pc' L' st ws k n) : WPs l g M d rc rs post px a pc L (.ref x :: st) ws k n := by
  intro hE H locs ls hP hD hS hl
  obtain ⟨⟨hx, hb, hml, hown, hts⟩, hlk, hret, htb, hnm, hA, hK, hO, hT⟩ := id hE
  subst hp; subst hL
  exact lv_astore hx hb hd hl hn rfl (fun ls' h' => kk hE H locs ls' hP hD hS (lv_less h' sto1_sub))
theorem lp_place {L : List (Option Value)} {i : Nat} {v : Value} (h : L[i]? = some (some v)) : ∃ q : Nat, (lp 0 L)[q]? = some (i, v) := by
  have h1 := lp_get L 0 i v h
  rw [Nat.zero_add] at h1
  exact List.getElem?_of_mem h1
theorem q_iinc {z : Int} {x : Int32} (i : Nat) (v : Int32) (pc' : Nat) {L' : List (Option Value)} (hd : decode M.cc pc = .ok (.iinc i z, 3)) (hx0 : L[i]? = some (some (.int x))) (hv : x + Int32.ofInt z = v) (hn : i < M.nL) (hL : sto1 L i (.int v) = L') (hp : pc + 3 = pc') (kk : WPs l g M d rc rs post px a pc' L' st ws k n) : WPs l g M d rc rs post px a pc L st ws k n := by
  intro hE H locs ls hP hD hS hl
  obtain ⟨⟨hx, hb, hml, hown, hts⟩, hlk, hret, htb, hnm, hA, hK, hO, hT⟩ := id hE
  subst hp; subst hL
  obtain ⟨q, hq⟩ := lp_place hx0
  exact lv_iinc hx hb hd hl hq hv hn rfl (fun ls' h' => kk hE H locs ls' hP hD hS (lv_less h' sto1_sub))
theorem q_iadd {x y : Int32} (pc' : Nat) (hd : decode M.cc pc = .ok (.iadd, 1)) (hp : pc + 1 = pc') (kk : WPs l g M d rc rs post px a pc' L (.int (x + y) :: st) ws k n) : WPs l g M d rc rs post px a pc L (.int y :: .int x :: st) ws k n := by
  intro hE H locs ls hP hD hS hl
  obtain ⟨⟨hx, hb, hml, hown, hts⟩, hlk, hret, htb, hnm, hA, hK, hO, hT⟩ := id hE
  subst hp
  exact lv_iadd hx hb hd (kk hE H locs ls hP hD hS hl)
theorem q_isub {x y : Int32} (pc' : Nat) (hd : decode M.cc pc = .ok (.isub, 1)) (hp : pc + 1 = pc') (kk : WPs l g M d rc rs post px a pc' L (.int (x - y) :: st) ws k n) : WPs l g M d rc rs post px a pc L (.int y :: .int x :: st) ws k n := by
  intro hE H locs ls hP hD hS hl
  obtain ⟨⟨hx, hb, hml, hown, hts⟩, hlk, hret, htb, hnm, hA, hK, hO, hT⟩ := id hE
  subst hp
  exact lv_isub hx hb hd (kk hE H locs ls hP hD hS hl)
theorem q_imul {x y : Int32} (pc' : Nat) (hd : decode M.cc pc = .ok (.imul, 1)) (hp : pc + 1 = pc') (kk : WPs l g M d rc rs post px a pc' L (.int (x * y) :: st) ws k n) : WPs l g M d rc rs post px a pc L (.int y :: .int x :: st) ws k n := by
  intro hE H locs ls hP hD hS hl
  obtain ⟨⟨hx, hb, hml, hown, hts⟩, hlk, hret, htb, hnm, hA, hK, hO, hT⟩ := id hE
  subst hp
  exact lv_imul hx hb hd (kk hE H locs ls hP hD hS hl)
theorem q_iand {x y : Int32} (pc' : Nat) (hd : decode M.cc pc = .ok (.iand, 1)) (hp : pc + 1 = pc') (kk : WPs l g M d rc rs post px a pc' L (.int (x &&& y) :: st) ws k n) : WPs l g M d rc rs post px a pc L (.int y :: .int x :: st) ws k n := by
  intro hE H locs ls hP hD hS hl
  obtain ⟨⟨hx, hb, hml, hown, hts⟩, hlk, hret, htb, hnm, hA, hK, hO, hT⟩ := id hE
  subst hp
  exact lv_iand hx hb hd (kk hE H locs ls hP hD hS hl)
theorem q_ior {x y : Int32} (pc' : Nat) (hd : decode M.cc pc = .ok (.ior, 1)) (hp : pc + 1 = pc') (kk : WPs l g M d rc rs post px a pc' L (.int (x ||| y) :: st) ws k n) : WPs l g M d rc rs post px a pc L (.int y :: .int x :: st) ws k n := by
  intro hE H locs ls hP hD hS hl
  obtain ⟨⟨hx, hb, hml, hown, hts⟩, hlk, hret, htb, hnm, hA, hK, hO, hT⟩ := id hE
  subst hp
  exact lv_ior hx hb hd (kk hE H locs ls hP hD hS hl)
theorem q_ixor {x y : Int32} (pc' : Nat) (hd : decode M.cc pc = .ok (.ixor, 1)) (hp : pc + 1 = pc') (kk : WPs l g M d rc rs post px a pc' L (.int (x ^^^ y) :: st) ws k n) : WPs l g M d rc rs post px a pc L (.int y :: .int x :: st) ws k n := by
  intro hE H locs ls hP hD hS hl
  obtain ⟨⟨hx, hb, hml, hown, hts⟩, hlk, hret, htb, hnm, hA, hK, hO, hT⟩ := id hE
  subst hp
  exact lv_ixor hx hb hd (kk hE H locs ls hP hD hS hl)
theorem q_ishl {x y : Int32} (pc' : Nat) (hd : decode M.cc pc = .ok (.ishl, 1)) (hp : pc + 1 = pc') (kk : WPs l g M d rc rs post px a pc' L (.int (x <<< (y &&& 31)) :: st) ws k n) : WPs l g M d rc rs post px a pc L (.int y :: .int x :: st) ws k n := by
  intro hE H locs ls hP hD hS hl
  obtain ⟨⟨hx, hb, hml, hown, hts⟩, hlk, hret, htb, hnm, hA, hK, hO, hT⟩ := id hE
  subst hp
  exact lv_ishl hx hb hd (kk hE H locs ls hP hD hS hl)
theorem q_ishr {x y : Int32} (pc' : Nat) (hd : decode M.cc pc = .ok (.ishr, 1)) (hp : pc + 1 = pc') (kk : WPs l g M d rc rs post px a pc' L (.int (x >>> (y &&& 31)) :: st) ws k n) : WPs l g M d rc rs post px a pc L (.int y :: .int x :: st) ws k n := by
  intro hE H locs ls hP hD hS hl
  obtain ⟨⟨hx, hb, hml, hown, hts⟩, hlk, hret, htb, hnm, hA, hK, hO, hT⟩ := id hE
  subst hp
  exact lv_ishr hx hb hd (kk hE H locs ls hP hD hS hl)
theorem q_idiv {x y : Int32} (pc' : Nat) (hd : decode M.cc pc = .ok (.idiv, 1)) (hne : ¬ y = 0) (hp : pc + 1 = pc') (kk : WPs l g M d rc rs post px a pc' L (.int (x / y) :: st) ws k n) : WPs l g M d rc rs post px a pc L (.int y :: .int x :: st) ws k n := by
  intro hE H locs ls hP hD hS hl
  obtain ⟨⟨hx, hb, hml, hown, hts⟩, hlk, hret, htb, hnm, hA, hK, hO, hT⟩ := id hE
  subst hp
  exact lv_idiv hx hb hd hne (kk hE H locs ls hP hD hS hl)
theorem q_irem {x y : Int32} (pc' : Nat) (hd : decode M.cc pc = .ok (.irem, 1)) (hne : ¬ y = 0) (hp : pc + 1 = pc') (kk : WPs l g M d rc rs post px a pc' L (.int (x - x / y * y) :: st) ws k n) : WPs l g M d rc rs post px a pc L (.int y :: .int x :: st) ws k n := by
  intro hE H locs ls hP hD hS hl
  obtain ⟨⟨hx, hb, hml, hown, hts⟩, hlk, hret, htb, hnm, hA, hK, hO, hT⟩ := id hE
  subst hp
  exact lv_irem hx hb hd hne (kk hE H locs ls hP hD hS hl)
theorem q_ladd {x y : Int64} (pc' : Nat) (hd : decode M.cc pc = .ok (.ladd, 1)) (hp : pc + 1 = pc') (kk : WPs l g M d rc rs post px a pc' L (.long (x + y) :: st) ws k n) : WPs l g M d rc rs post px a pc L (.long y :: .long x :: st) ws k n := by
  intro hE H locs ls hP hD hS hl
  obtain ⟨⟨hx, hb, hml, hown, hts⟩, hlk, hret, htb, hnm, hA, hK, hO, hT⟩ := id hE
  subst hp
  exact lv_ladd hx hb hd (kk hE H locs ls hP hD hS hl)
theorem q_lsub {x y : Int64} (pc' : Nat) (hd : decode M.cc pc = .ok (.lsub, 1)) (hp : pc + 1 = pc') (kk : WPs l g M d rc rs post px a pc' L (.long (x - y) :: st) ws k n) : WPs l g M d rc rs post px a pc L (.long y :: .long x :: st) ws k n := by
  intro hE H locs ls hP hD hS hl
  obtain ⟨⟨hx, hb, hml, hown, hts⟩, hlk, hret, htb, hnm, hA, hK, hO, hT⟩ := id hE
  subst hp
  exact lv_lsub hx hb hd (kk hE H locs ls hP hD hS hl)
theorem q_lmul {x y : Int64} (pc' : Nat) (hd : decode M.cc pc = .ok (.lmul, 1)) (hp : pc + 1 = pc') (kk : WPs l g M d rc rs post px a pc' L (.long (x * y) :: st) ws k n) : WPs l g M d rc rs post px a pc L (.long y :: .long x :: st) ws k n := by
  intro hE H locs ls hP hD hS hl
  obtain ⟨⟨hx, hb, hml, hown, hts⟩, hlk, hret, htb, hnm, hA, hK, hO, hT⟩ := id hE
  subst hp
  exact lv_lmul hx hb hd (kk hE H locs ls hP hD hS hl)
theorem q_ldiv {x y : Int64} (pc' : Nat) (hd : decode M.cc pc = .ok (.ldiv, 1)) (hne : ¬ y = 0) (hp : pc + 1 = pc') (kk : WPs l g M d rc rs post px a pc' L (.long (x / y) :: st) ws k n) : WPs l g M d rc rs post px a pc L (.long y :: .long x :: st) ws k n := by
  intro hE H locs ls hP hD hS hl
  obtain ⟨⟨hx, hb, hml, hown, hts⟩, hlk, hret, htb, hnm, hA, hK, hO, hT⟩ := id hE
  subst hp
  exact lv_ldiv hx hb hd hne (kk hE H locs ls hP hD hS hl)
theorem q_ineg {x : Int32} (pc' : Nat) (hd : decode M.cc pc = .ok (.ineg, 1)) (hp : pc + 1 = pc') (kk : WPs l g M d rc rs post px a pc' L (.int (-x) :: st) ws k n) : WPs l g M d rc rs post px a pc L (.int x :: st) ws k n := by
  intro hE H locs ls hP hD hS hl
  obtain ⟨⟨hx, hb, hml, hown, hts⟩, hlk, hret, htb, hnm, hA, hK, hO, hT⟩ := id hE
  subst hp
  exact lv_ineg hx hb hd (kk hE H locs ls hP hD hS hl)
theorem q_iushr {x y : Int32} (pc' : Nat) (hd : decode M.cc pc = .ok (.iushr, 1)) (hp : pc + 1 = pc') (kk : WPs l g M d rc rs post px a pc' L (.int ((x.toUInt32 >>> (y.toUInt32 &&& Int32.toUInt32 31)).toInt32) :: st) ws k n) : WPs l g M d rc rs post px a pc L (.int y :: .int x :: st) ws k n := by
  intro hE H locs ls hP hD hS hl
  obtain ⟨⟨hx, hb, hml, hown, hts⟩, hlk, hret, htb, hnm, hA, hK, hO, hT⟩ := id hE
  subst hp
  exact lv_iushr hx hb hd rfl (kk hE H locs ls hP hD hS hl)
theorem q_i2l {x : Int32} (pc' : Nat) (hd : decode M.cc pc = .ok (.i2l, 1)) (hp : pc + 1 = pc') (kk : WPs l g M d rc rs post px a pc' L (.long x.toInt64 :: st) ws k n) : WPs l g M d rc rs post px a pc L (.int x :: st) ws k n := by
  intro hE H locs ls hP hD hS hl
  obtain ⟨⟨hx, hb, hml, hown, hts⟩, hlk, hret, htb, hnm, hA, hK, hO, hT⟩ := id hE
  subst hp
  exact lv_i2l hx hb hd rfl (kk hE H locs ls hP hD hS hl)
theorem q_l2i {x : Int64} (pc' : Nat) (hd : decode M.cc pc = .ok (.l2i, 1)) (hp : pc + 1 = pc') (kk : WPs l g M d rc rs post px a pc' L (.int x.toInt32 :: st) ws k n) : WPs l g M d rc rs post px a pc L (.long x :: st) ws k n := by
  intro hE H locs ls hP hD hS hl
  obtain ⟨⟨hx, hb, hml, hown, hts⟩, hlk, hret, htb, hnm, hA, hK, hO, hT⟩ := id hE
  subst hp
  exact lv_l2i hx hb hd rfl (kk hE H locs ls hP hD hS hl)
theorem q_i2b {x : Int32} (pc' : Nat) (hd : decode M.cc pc = .ok (.i2b, 1)) (hp : pc + 1 = pc') (kk : WPs l g M d rc rs post px a pc' L (.int x.toInt8.toInt32 :: st) ws k n) : WPs l g M d rc rs post px a pc L (.int x :: st) ws k n := by
  intro hE H locs ls hP hD hS hl
  obtain ⟨⟨hx, hb, hml, hown, hts⟩, hlk, hret, htb, hnm, hA, hK, hO, hT⟩ := id hE
  subst hp
  exact lv_i2b hx hb hd rfl (kk hE H locs ls hP hD hS hl)
theorem q_i2c {x v : Int32} (pc' : Nat) (hd : decode M.cc pc = .ok (.i2c, 1)) (hv : (x.toUInt32 % 65536).toInt32 = v) (hp : pc + 1 = pc') (kk : WPs l g M d rc rs post px a pc' L (.int v :: st) ws k n) : WPs l g M d rc rs post px a pc L (.int x :: st) ws k n := by
  intro hE H locs ls hP hD hS hl
  obtain ⟨⟨hx, hb, hml, hown, hts⟩, hlk, hret, htb, hnm, hA, hK, hO, hT⟩ := id hE
  subst hp
  exact lv_i2c hx hb hd hv (kk hE H locs ls hP hD hS hl)
theorem q_lcmp {x y : Int64} (pc' : Nat) (hd : decode M.cc pc = .ok (.lcmp, 1)) (hp : pc + 1 = pc') (kk : WPs l g M d rc rs post px a pc' L (.int (lg_cmp x y) :: st) ws k n) : WPs l g M d rc rs post px a pc L (.long y :: .long x :: st) ws k n := by
  intro hE H locs ls hP hD hS hl
  obtain ⟨⟨hx, hb, hml, hown, hts⟩, hlk, hret, htb, hnm, hA, hK, hO, hT⟩ := id hE
  subst hp
  exact W.lcmp hx hb hd (kk hE H locs ls hP hD hS hl)
theorem q_dup {v : Value} (pc' : Nat) (hd : decode M.cc pc = .ok (.dup, 1)) (h1 : v.category = 1) (hp : pc + 1 = pc') (kk : WPs l g M d rc rs post px a pc' L (v :: v :: st) ws k n) : WPs l g M d rc rs post px a pc L (v :: st) ws k n := by
  intro hE H locs ls hP hD hS hl
  obtain ⟨⟨hx, hb, hml, hown, hts⟩, hlk, hret, htb, hnm, hA, hK, hO, hT⟩ := id hE
  subst hp
  exact lv_dup hx hb hd h1 (kk hE H locs ls hP hD hS hl)
theorem q_pop {v : Value} (pc' : Nat) (hd : decode M.cc pc = .ok (.pop, 1)) (h1 : v.category = 1) (hp : pc + 1 = pc') (kk : WPs l g M d rc rs post px a pc' L st ws k n) : WPs l g M d rc rs post px a pc L (v :: st) ws k n := by
  intro hE H locs ls hP hD hS hl
  obtain ⟨⟨hx, hb, hml, hown, hts⟩, hlk, hret, htb, hnm, hA, hK, hO, hT⟩ := id hE
  subst hp
  exact lv_pop hx hb hd h1 (kk hE H locs ls hP hD hS hl)
theorem q_dup_x1 {v w : Value} (pc' : Nat) (hd : decode M.cc pc = .ok (.dup_x1, 1)) (h1 : v.category = 1) (h2 : w.category = 1) (hp : pc + 1 = pc') (kk : WPs l g M d rc rs post px a pc' L (v :: w :: v :: st) ws k n) : WPs l g M d rc rs post px a pc L (v :: w :: st) ws k n := by
  intro hE H locs ls hP hD hS hl
  obtain ⟨⟨hx, hb, hml, hown, hts⟩, hlk, hret, htb, hnm, hA, hK, hO, hT⟩ := id hE
  subst hp
  exact lv_dup_x1 hx hb hd h1 h2 (kk hE H locs ls hP hD hS hl)
theorem q_dup2 {v w : Value} (pc' : Nat) (hd : decode M.cc pc = .ok (.dup2, 1)) (h1 : v.category = 1) (h2 : w.category = 1) (hp : pc + 1 = pc') (kk : WPs l g M d rc rs post px a pc' L (v :: w :: v :: w :: st) ws k n) : WPs l g M d rc rs post px a pc L (v :: w :: st) ws k n := by
  intro hE H locs ls hP hD hS hl
  obtain ⟨⟨hx, hb, hml, hown, hts⟩, hlk, hret, htb, hnm, hA, hK, hO, hT⟩ := id hE
  subst hp
  exact lv_dup2_11 hx hb hd h1 h2 (kk hE H locs ls hP hD hS hl)
theorem q_if_eq {x : Int32} {off : Int} (tgt pc' : Nat) (hd : decode M.cc pc = .ok (.ifCond .eq off, 3)) (ht : (pc : Int) + off = (tgt : Int)) (hp : pc + 3 = pc') (kt : x = 0 → WPs l g M d rc rs post px a tgt L st ws k n) (kf : ¬ x = 0 → WPs l g M d rc rs post px a pc' L st ws k n) : WPs l g M d rc rs post px a pc L (.int x :: st) ws k n := by
  intro hE H locs ls hP hD hS hl
  obtain ⟨⟨hx, hb, hml, hown, hts⟩, hlk, hret, htb, hnm, hA, hK, hO, hT⟩ := id hE
  subst hp
  exact lv_if_eq hx hb hd ht (fun h => kt h hE H locs ls hP hD hS hl) (fun h => kf h hE H locs ls hP hD hS hl)
theorem q_icmp_eq {x y : Int32} {off : Int} (tgt pc' : Nat) (hd : decode M.cc pc = .ok (.if_icmp .eq off, 3)) (ht : (pc : Int) + off = (tgt : Int)) (hp : pc + 3 = pc') (kt : x = y → WPs l g M d rc rs post px a tgt L st ws k n) (kf : ¬ x = y → WPs l g M d rc rs post px a pc' L st ws k n) : WPs l g M d rc rs post px a pc L (.int y :: .int x :: st) ws k n := by
  intro hE H locs ls hP hD hS hl
  obtain ⟨⟨hx, hb, hml, hown, hts⟩, hlk, hret, htb, hnm, hA, hK, hO, hT⟩ := id hE
  subst hp
  exact lv_icmp_eq hx hb hd ht (fun h => kt h hE H locs ls hP hD hS hl) (fun h => kf h hE H locs ls hP hD hS hl)
theorem q_if_ne {x : Int32} {off : Int} (tgt pc' : Nat) (hd : decode M.cc pc = .ok (.ifCond .ne off, 3)) (ht : (pc : Int) + off = (tgt : Int)) (hp : pc + 3 = pc') (kt : ¬ x = 0 → WPs l g M d rc rs post px a tgt L st ws k n) (kf : x = 0 → WPs l g M d rc rs post px a pc' L st ws k n) : WPs l g M d rc rs post px a pc L (.int x :: st) ws k n := by
  intro hE H locs ls hP hD hS hl
  obtain ⟨⟨hx, hb, hml, hown, hts⟩, hlk, hret, htb, hnm, hA, hK, hO, hT⟩ := id hE
  subst hp
  exact lv_if_ne hx hb hd ht (fun h => kt h hE H locs ls hP hD hS hl) (fun h => kf h hE H locs ls hP hD hS hl)
theorem q_icmp_ne {x y : Int32} {off : Int} (tgt pc' : Nat) (hd : decode M.cc pc = .ok (.if_icmp .ne off, 3)) (ht : (pc : Int) + off = (tgt : Int)) (hp : pc + 3 = pc') (kt : ¬ x = y → WPs l g M d rc rs post px a tgt L st ws k n) (kf : x = y → WPs l g M d rc rs post px a pc' L st ws k n) : WPs l g M d rc rs post px a pc L (.int y :: .int x :: st) ws k n := by
  intro hE H locs ls hP hD hS hl
  obtain ⟨⟨hx, hb, hml, hown, hts⟩, hlk, hret, htb, hnm, hA, hK, hO, hT⟩ := id hE
  subst hp
  exact lv_icmp_ne hx hb hd ht (fun h => kt h hE H locs ls hP hD hS hl) (fun h => kf h hE H locs ls hP hD hS hl)
theorem q_if_lt {x : Int32} {off : Int} (tgt pc' : Nat) (hd : decode M.cc pc = .ok (.ifCond .lt off, 3)) (ht : (pc : Int) + off = (tgt : Int)) (hp : pc + 3 = pc') (kt : x < 0 → WPs l g M d rc rs post px a tgt L st ws k n) (kf : ¬ x < 0 → WPs l g M d rc rs post px a pc' L st ws k n) : WPs l g M d rc rs post px a pc L (.int x :: st) ws k n := by
  intro hE H locs ls hP hD hS hl
  obtain ⟨⟨hx, hb, hml, hown, hts⟩, hlk, hret, htb, hnm, hA, hK, hO, hT⟩ := id hE
  subst hp
  exact lv_if_lt hx hb hd ht (fun h => kt h hE H locs ls hP hD hS hl) (fun h => kf h hE H locs ls hP hD hS hl)
theorem q_icmp_lt {x y : Int32} {off : Int} (tgt pc' : Nat) (hd : decode M.cc pc = .ok (.if_icmp .lt off, 3)) (ht : (pc : Int) + off = (tgt : Int)) (hp : pc + 3 = pc') (kt : x < y → WPs l g M d rc rs post px a tgt L st ws k n) (kf : ¬ x < y → WPs l g M d rc rs post px a pc' L st ws k n) : WPs l g M d rc rs post px a pc L (.int y :: .int x :: st) ws k n := by
  intro hE H locs ls hP hD hS hl
  obtain ⟨⟨hx, hb, hml, hown, hts⟩, hlk, hret, htb, hnm, hA, hK, hO, hT⟩ := id hE
  subst hp
  exact lv_icmp_lt hx hb hd ht (fun h => kt h hE H locs ls hP hD hS hl) (fun h => kf h hE H locs ls hP hD hS hl)
theorem q_if_ge {x : Int32} {off : Int} (tgt pc' : Nat) (hd : decode M.cc pc = .ok (.ifCond .ge off, 3)) (ht : (pc : Int) + off = (tgt : Int)) (hp : pc + 3 = pc') (kt : 0 ≤ x → WPs l g M d rc rs post px a tgt L st ws k n) (kf : ¬ 0 ≤ x → WPs l g M d rc rs post px a pc' L st ws k n) : WPs l g M d rc rs post px a pc L (.int x :: st) ws k n := by
  intro hE H locs ls hP hD hS hl
  obtain ⟨⟨hx, hb, hml, hown, hts⟩, hlk, hret, htb, hnm, hA, hK, hO, hT⟩ := id hE
  subst hp
  exact lv_if_ge hx hb hd ht (fun h => kt h hE H locs ls hP hD hS hl) (fun h => kf h hE H locs ls hP hD hS hl)
theorem q_icmp_ge {x y : Int32} {off : Int} (tgt pc' : Nat) (hd : decode M.cc pc = .ok (.if_icmp .ge off, 3)) (ht : (pc : Int) + off = (tgt : Int)) (hp : pc + 3 = pc') (kt : y ≤ x → WPs l g M d rc rs post px a tgt L st ws k n) (kf : ¬ y ≤ x → WPs l g M d rc rs post px a pc' L st ws k n) : WPs l g M d rc rs post px a pc L (.int y :: .int x :: st) ws k n := by
  intro hE H locs ls hP hD hS hl
  obtain ⟨⟨hx, hb, hml, hown, hts⟩, hlk, hret, htb, hnm, hA, hK, hO, hT⟩ := id hE
  subst hp
  exact lv_icmp_ge hx hb hd ht (fun h => kt h hE H locs ls hP hD hS hl) (fun h => kf h hE H locs ls hP hD hS hl)
theorem q_if_gt {x : Int32} {off : Int} (tgt pc' : Nat) (hd : decode M.cc pc = .ok (.ifCond .gt off, 3)) (ht : (pc : Int) + off = (tgt : Int)) (hp : pc + 3 = pc') (kt : 0 < x → WPs l g M d rc rs post px a tgt L st ws k n) (kf : ¬ 0 < x → WPs l g M d rc rs post px a pc' L st ws k n) : WPs l g M d rc rs post px a pc L (.int x :: st) ws k n := by
  intro hE H locs ls hP hD hS hl
  obtain ⟨⟨hx, hb, hml, hown, hts⟩, hlk, hret, htb, hnm, hA, hK, hO, hT⟩ := id hE
  subst hp
  exact lv_if_gt hx hb hd ht (fun h => kt h hE H locs ls hP hD hS hl) (fun h => kf h hE H locs ls hP hD hS hl)
theorem q_icmp_gt {x y : Int32} {off : Int} (tgt pc' : Nat) (hd : decode M.cc pc = .ok (.if_icmp .gt off, 3)) (ht : (pc : Int) + off = (tgt : Int)) (hp : pc + 3 = pc') (kt : y < x → WPs l g M d rc rs post px a tgt L st ws k n) (kf : ¬ y < x → WPs l g M d rc rs post px a pc' L st ws k n) : WPs l g M d rc rs post px a pc L (.int y :: .int x :: st) ws k n := by
  intro hE H locs ls hP hD hS hl
  obtain ⟨⟨hx, hb, hml, hown, hts⟩, hlk, hret, htb, hnm, hA, hK, hO, hT⟩ := id hE
  subst hp
  exact lv_icmp_gt hx hb hd ht (fun h => kt h hE H locs ls hP hD hS hl) (fun h => kf h hE H locs ls hP hD hS hl)
theorem q_if_le {x : Int32} {off : Int} (tgt pc' : Nat) (hd : decode M.cc pc = .ok (.ifCond .le off, 3)) (ht : (pc : Int) + off = (tgt : Int)) (hp : pc + 3 = pc') (kt : x ≤ 0 → WPs l g M d rc rs post px a tgt L st ws k n) (kf : ¬ x ≤ 0 → WPs l g M d rc rs post px a pc' L st ws k n) : WPs l g M d rc rs post px a pc L (.int x :: st) ws k n := by
  intro hE H locs ls hP hD hS hl
  obtain ⟨⟨hx, hb, hml, hown, hts⟩, hlk, hret, htb, hnm, hA, hK, hO, hT⟩ := id hE
  subst hp
  exact lv_if_le hx hb hd ht (fun h => kt h hE H locs ls hP hD hS hl) (fun h => kf h hE H locs ls hP hD hS hl)
theorem q_icmp_le {x y : Int32} {off : Int} (tgt pc' : Nat) (hd : decode M.cc pc = .ok (.if_icmp .le off, 3)) (ht : (pc : Int) + off = (tgt : Int)) (hp : pc + 3 = pc') (kt : x ≤ y → WPs l g M d rc rs post px a tgt L st ws k n) (kf : ¬ x ≤ y → WPs l g M d rc rs post px a pc' L st ws k n) : WPs l g M d rc rs post px a pc L (.int y :: .int x :: st) ws k n := by
  intro hE H locs ls hP hD hS hl
  obtain ⟨⟨hx, hb, hml, hown, hts⟩, hlk, hret, htb, hnm, hA, hK, hO, hT⟩ := id hE
  subst hp
  exact lv_icmp_le hx hb hd ht (fun h => kt h hE H locs ls hP hD hS hl) (fun h => kf h hE H locs ls hP hD hS hl)
theorem q_goto {off : Int} (tgt : Nat) (hd : decode M.cc pc = .ok (.goto off, 3)) (ht : (pc : Int) + off = (tgt : Int)) (kk : WPs l g M d rc rs post px a tgt L st ws k n) : WPs l g M d rc rs post px a pc L st ws k n := by
  intro hE H locs ls hP hD hS hl
  obtain ⟨⟨hx, hb, hml, hown, hts⟩, hlk, hret, htb, hnm, hA, hK, hO, hT⟩ := id hE
  exact lv_goto hx hb hd ht (kk hE H locs ls hP hD hS hl)
theorem q_ifnonnull {x : Nat} {off : Int} (tgt : Nat) (hd : decode M.cc pc = .ok (.ifnonnull off, 3)) (ht : (pc : Int) + off = (tgt : Int)) (kk : WPs l g M d rc rs post px a tgt L st ws k n) : WPs l g M d rc rs post px a pc L (.ref x :: st) ws k n := by
  intro hE H locs ls hP hD hS hl
  obtain ⟨⟨hx, hb, hml, hown, hts⟩, hlk, hret, htb, hnm, hA, hK, hO, hT⟩ := id hE
  exact lv_ifnonnull hx hb hd ht (kk hE H locs ls hP hD hS hl)
theorem q_ifnonnullN {off : Int} (pc' : Nat) (hd : decode M.cc pc = .ok (.ifnonnull off, 3)) (hp : pc + 3 = pc') (kk : WPs l g M d rc rs post px a pc' L st ws k n) : WPs l g M d rc rs post px a pc L (.null :: st) ws k n := by
  intro hE H locs ls hP hD hS hl
  obtain ⟨⟨hx, hb, hml, hown, hts⟩, hlk, hret, htb, hnm, hA, hK, hO, hT⟩ := id hE
  subst hp
  exact lv_ifnonnullN hx hb hd (kk hE H locs ls hP hD hS hl)
theorem q_tableIn {df lo hi : Int} {offs : Array Int} {len : Nat} {x : Int32} {off : Int} (tgt : Nat) (hd : decode M.cc pc = .ok (.tableswitch df lo hi offs, len)) (h1 : ¬ x.toInt < lo) (h2 : ¬ hi < x.toInt) (ho : offs[(x.toInt - lo).toNat]? = some off) (ht : (pc : Int) + off = (tgt : Int)) (kk : WPs l g M d rc rs post px a tgt L st ws k n) : WPs l g M d rc rs post px a pc L (.int x :: st) ws k n := by
  intro hE H locs ls hP hD hS hl
  obtain ⟨⟨hx, hb, hml, hown, hts⟩, hlk, hret, htb, hnm, hA, hK, hO, hT⟩ := id hE
  exact lv_tableIn hx hb hd h1 h2 ho ht (kk hE H locs ls hP hD hS hl)
theorem q_tableOut {df lo hi : Int} {offs : Array Int} {len : Nat} {x : Int32} (tgt : Nat) (hd : decode M.cc pc = .ok (.tableswitch df lo hi offs, len)) (h : x.toInt < lo ∨ hi < x.toInt) (ht : (pc : Int) + df = (tgt : Int)) (kk : WPs l g M d rc rs post px a tgt L st ws k n) : WPs l g M d rc rs post px a pc L (.int x :: st) ws k n := by
  intro hE H locs ls hP hD hS hl
  obtain ⟨⟨hx, hb, hml, hown, hts⟩, hlk, hret, htb, hnm, hA, hK, hO, hT⟩ := id hE
  exact lv_tableOut hx hb hd h ht (kk hE H locs ls hP hD hS hl)
theorem q_lookup {df : Int} {ps : Array (Int × Int)} {len : Nat} {x : Int32} {off : Int} (tgt : Nat) (hd : decode M.cc pc = .ok (.lookupswitch df ps, len)) (hps : (ps.toList.zip (ps.toList.drop 1)).all (fun (a, next) => a.1 < next.1) = true) (ho : Op.lookupswitch.offset ps.toList df x.toInt = off) (ht : (pc : Int) + off = (tgt : Int)) (kk : WPs l g M d rc rs post px a tgt L st ws k n) : WPs l g M d rc rs post px a pc L (.int x :: st) ws k n := by
  intro hE H locs ls hP hD hS hl
  obtain ⟨⟨hx, hb, hml, hown, hts⟩, hlk, hret, htb, hnm, hA, hK, hO, hT⟩ := id hE
  exact lv_lookup hx hb hd hps ho ht (kk hE H locs ls hP hD hS hl)
/-- a field of the pool: the owner's entry i is field f of class ci -/
def FK (own : String) (i ci f : Nat) : Prop := ∃ (C : String) (T : u_T) (N : Nat) (ty : Nat → FieldType), vwCl[ci]? = some (C, T, N) ∧ f < N ∧ (∀ w ∈ u_ws C T N, w ∈ TT) ∧ Cond.fieldLink own i (T f).1 (T f).2.1 (T f).2.2.1 ∈ TT ∧ (∀ k, k < N → parseFieldDescriptor (T k).2.2.1 = some (ty k)) ∧ (∀ a, a < N → ∀ b, b < N → a ≠ b → (T a).2.1 ≠ (T b).2.1)
/-- a field's type, and whether it is final -/
def FT (ci f : Nat) (ty : FieldType) (fin : Bool) : Prop := ∃ (C : String) (T : u_T) (N : Nat), vwCl[ci]? = some (C, T, N) ∧ parseFieldDescriptor (T f).2.2.1 = some ty ∧ (T f).2.2.2 = fin
theorem q_getI {i ci f b : Nat} {ii : Nat → Int32} {rr : List (Option Nat)} {jj : Nat → Int64} (q0 pc' : Nat) (hF : FK M.own i ci f) (hd : decode M.cc pc = .ok (.getfield i, 3)) (hq : ws[q0]? = some (b, obj ci ii rr jj)) (hk : (kd ci)[f]? = some 0) (hp : pc + 3 = pc') (kk : WPs l g M d rc rs post px a pc' L (.int (ii f) :: st) ws k n) : WPs l g M d rc rs post px a pc L (.ref b :: st) ws k n := by
  intro hE H locs ls hP hD hS hl
  obtain ⟨⟨hx, hb, hml, hown, hts⟩, hlk, hret, htb, hnm, hA, hK, hO, hT⟩ := id hE
  subst hp
  obtain ⟨C, T, N, ty, f1, f2, f3, f4, f5, f6⟩ := hF
  refine va_get (D := g.1) (cl := vwCl) (tys := tysG g) hx hb hts f3 hown hK hP q0 hq f1 f f2 (hts _ f4) (fun _ h9 => h9) (v := .int (ii f)) ?_ hd (kk hE H locs ls hP hD hS hl)
  have h9 := fl_i (kd ci) 0 f ii rr jj hk
  rw [Nat.zero_add] at h9
  exact h9
theorem q_getJ {i ci f b : Nat} {ii : Nat → Int32} {rr : List (Option Nat)} {jj : Nat → Int64} (q0 pc' : Nat) (hF : FK M.own i ci f) (hd : decode M.cc pc = .ok (.getfield i, 3)) (hq : ws[q0]? = some (b, obj ci ii rr jj)) (hk : (kd ci)[f]? = some 2) (hp : pc + 3 = pc') (kk : WPs l g M d rc rs post px a pc' L (.long (jj f) :: st) ws k n) : WPs l g M d rc rs post px a pc L (.ref b :: st) ws k n := by
  intro hE H locs ls hP hD hS hl
  obtain ⟨⟨hx, hb, hml, hown, hts⟩, hlk, hret, htb, hnm, hA, hK, hO, hT⟩ := id hE
  subst hp
  obtain ⟨C, T, N, ty, f1, f2, f3, f4, f5, f6⟩ := hF
  refine va_get (D := g.1) (cl := vwCl) (tys := tysG g) hx hb hts f3 hown hK hP q0 hq f1 f f2 (hts _ f4) (fun _ h9 => h9) (v := .long (jj f)) ?_ hd (kk hE H locs ls hP hD hS hl)
  have h9 := fl_j (kd ci) 0 f ii rr jj hk
  rw [Nat.zero_add] at h9
  exact h9
theorem q_getR {i ci f b : Nat} {ii : Nat → Int32} {rr : List (Option Nat)} {jj : Nat → Int64} {x : Nat} (q0 pc' : Nat) (hF : FK M.own i ci f) (hd : decode M.cc pc = .ok (.getfield i, 3)) (hq : ws[q0]? = some (b, obj ci ii rr jj)) (hk : (kd ci)[f]? = some 1) (hr : rr[f]? = some (some x)) (hp : pc + 3 = pc') (kk : WPs l g M d rc rs post px a pc' L (.ref x :: st) ws k n) : WPs l g M d rc rs post px a pc L (.ref b :: st) ws k n := by
  intro hE H locs ls hP hD hS hl
  obtain ⟨⟨hx, hb, hml, hown, hts⟩, hlk, hret, htb, hnm, hA, hK, hO, hT⟩ := id hE
  subst hp
  obtain ⟨C, T, N, ty, f1, f2, f3, f4, f5, f6⟩ := hF
  refine va_get (D := g.1) (cl := vwCl) (tys := tysG g) hx hb hts f3 hown hK hP q0 hq f1 f f2 (hts _ f4) (fun _ h9 => h9) (v := .ref x) ?_ hd (kk hE H locs ls hP hD hS hl)
  have h9 := fl_r (kd ci) 0 f ii rr jj hk
  rw [Nat.zero_add, List.getD, hr] at h9
  exact h9
theorem q_getN {i ci f b : Nat} {ii : Nat → Int32} {rr : List (Option Nat)} {jj : Nat → Int64} (q0 pc' : Nat) (hF : FK M.own i ci f) (hd : decode M.cc pc = .ok (.getfield i, 3)) (hq : ws[q0]? = some (b, obj ci ii rr jj)) (hk : (kd ci)[f]? = some 1) (hr : rr[f]? = some none) (hp : pc + 3 = pc') (kk : WPs l g M d rc rs post px a pc' L (.null :: st) ws k n) : WPs l g M d rc rs post px a pc L (.ref b :: st) ws k n := by
  intro hE H locs ls hP hD hS hl
  obtain ⟨⟨hx, hb, hml, hown, hts⟩, hlk, hret, htb, hnm, hA, hK, hO, hT⟩ := id hE
  subst hp
  obtain ⟨C, T, N, ty, f1, f2, f3, f4, f5, f6⟩ := hF
  refine va_get (D := g.1) (cl := vwCl) (tys := tysG g) hx hb hts f3 hown hK hP q0 hq f1 f f2 (hts _ f4) (fun _ h9 => h9) (v := .null) ?_ hd (kk hE H locs ls hP hD hS hl)
  have h9 := fl_r (kd ci) 0 f ii rr jj hk
  rw [Nat.zero_add, List.getD, hr] at h9
  exact h9
theorem q_putG {i ci f b : Nat} {e e' : va_E} {fs : List Value} {v : Value} {ty : FieldType} (q0 : Nat) (hF : FK M.own i ci f) (hTy : FT ci f ty false) (hd : decode M.cc pc = .ok (.putfield i, 3)) (hq : ws[q0]? = some (b, e)) (he : e = .inr (ci, fs)) (hl0 : f < fs.length) (hn : narrow ty v = v) (hfit : fits ty v = true) (he' : (.inr (ci, fs.set f v) : va_E) = e') (kk : WPs l g M d rc rs post px a (pc + 3) L st (ws.set q0 (b, e')) k n) : WPs l g M d rc rs post px a pc L (v :: .ref b :: st) ws k n := by
  intro hE H locs ls hP hD hS hl
  obtain ⟨⟨hx, hb, hml, hown, hts⟩, hlk, hret, htb, hnm, hA, hK, hO, hT⟩ := id hE
  subst he; subst he'
  obtain ⟨C, T, N, ty0, f1, f2, f3, f4, f5, f6⟩ := hF
  obtain ⟨C', T', N', t1, t2, t3⟩ := hTy
  cases Option.some.inj (f1.symm.trans t1)
  exact va_put (D := g.1) (cl := vwCl) (tys := tysG g) hx hb hts f3 ty0 f5 f6 hown hK hP hD hS q0 hq f1 f f2 (hts _ f4) (fun _ h9 => h9) t3 t2 hn hfit hl0 hd (fun H1 locs1 hP1 hD1 hS1 => kk hE H1 locs1 ls hP1 hD1 hS1 hl)
theorem q_putFG {i ci f b : Nat} {e e' : va_E} {fs : List Value} {v : Value} {ty : FieldType} (q0 : Nat) (hF : FK M.own i ci f) (hTy : FT ci f ty true) (hi : M.nm = "<init>") (hO1 : vwCl[ci]?.map (fun q => (q.2.1 f).1) = some M.own) (hd : decode M.cc pc = .ok (.putfield i, 3)) (hq : ws[q0]? = some (b, e)) (he : e = .inr (ci, fs)) (hl0 : f < fs.length) (hn : narrow ty v = v) (hfit : fits ty v = true) (he' : (.inr (ci, fs.set f v) : va_E) = e') (kk : WPs l g M d rc rs post px a (pc + 3) L st (ws.set q0 (b, e')) k n) : WPs l g M d rc rs post px a pc L (v :: .ref b :: st) ws k n := by
  intro hE H locs ls hP hD hS hl
  obtain ⟨⟨hx, hb, hml, hown, hts⟩, hlk, hret, htb, hnm, hA, hK, hO, hT⟩ := id hE
  subst he; subst he'
  obtain ⟨C, T, N, ty0, f1, f2, f3, f4, f5, f6⟩ := hF
  obtain ⟨C', T', N', t1, t2, t3⟩ := hTy
  cases Option.some.inj (f1.symm.trans t1)
  rw [f1] at hO1
  have hO2 : (T f).1 = M.own := Option.some.inj hO1
  exact va_putF (D := g.1) (cl := vwCl) (tys := tysG g) hx hb hts f3 ty0 f5 f6 hown hK hP hD hS q0 hq f1 f f2 (hts _ f4) (fun _ h9 => h9) t3 (hnm.trans hi) hO2 t2 hn hfit hl0 hd (fun H1 locs1 hP1 hD1 hS1 => kk hE H1 locs1 ls hP1 hD1 hS1 hl)
end Rules
