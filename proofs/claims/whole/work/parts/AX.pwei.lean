/-! ===== weights of outcomes, and their sums ===== -/
theorem ix4 {o c o' c' : Nat} (hc : c < 4) (hc' : c' < 4) : o * 4 + c = o' * 4 + c' ↔ o = o' ∧ c = c' := by omega
theorem fwP_at (cf : Sc) (fi c : Nat) (hc : c < 4) (w : Sc) : ∀ n o, o < n → fwP cf fi c n w (o * 4 + c) = cf (fi + o)
  | 0, _, h => absurd h (Nat.not_lt_zero _)
  | n + 1, o, h => by
    rw [fwP, upd_at]
    by_cases e : o = n
    · rw [if_pos (by rw [e]), e]
    · rw [if_neg (fun g => e ((ix4 hc hc).mp g).1)]
      exact fwP_at cf fi c hc w n o (by omega)
theorem fwP_ne (cf : Sc) (fi c : Nat) (hc : c < 4) (w : Sc) {c' : Nat} (hc' : c' < 4) (hne : c' ≠ c) (o : Nat) : ∀ n, fwP cf fi c n w (o * 4 + c') = w (o * 4 + c')
  | 0 => rfl
  | n + 1 => by
    rw [fwP, upd_at, if_neg (fun g => hne ((ix4 hc' hc).mp g).2)]
    exact fwP_ne cf fi c hc w hc' hne o n
/-- the weight of a point's giving, by lines -/
def wOf (li : Sc) (ln : Int32) (cf : Sc) (fi i : Nat) : Nat → Int32
  | 0 => if i = 0 then 0 else if i = 1 then cf fi else cf (fi + 1)
  | k + 1 => if lBN li (iCmp (nI k) ln) = i then wOf li ln cf fi i k + cf (fi + 2 + k) else wOf li ln cf fi i k
theorem foX_at (li : Sc) (ln : Int32) (cf : Sc) (fi c : Nat) (hc : c < 4) (w : Sc) {i : Nat} (hi : i ≤ 2) : ∀ k, foX li ln cf fi c k w (i * 4 + c) = wOf li ln cf fi i k
  | 0 => by
    unfold foX wOf
    simp only [upd_at]
    obtain rfl | rfl | rfl : i = 0 ∨ i = 1 ∨ i = 2 := by omega
    · rw [if_neg (by omega), if_neg (by omega), if_pos (by omega), if_pos rfl]
    · rw [if_neg (by omega), if_pos (by omega), if_neg (by decide), if_pos rfl]
    · rw [if_pos (by omega), if_neg (by decide), if_neg (by decide)]
  | k + 1 => by
    rw [foX, upd_at, wOf]
    by_cases e : lBN li (iCmp (nI k) ln) = i
    · rw [if_pos e, if_pos (by rw [e]), e, foX_at li ln cf fi c hc w hi k]
    · rw [if_neg e, if_neg (fun g => e ((ix4 hc hc).mp g).1.symm)]
      exact foX_at li ln cf fi c hc w hi k
theorem foX_ne (li : Sc) (ln : Int32) (cf : Sc) (fi c : Nat) (hc : c < 4) (w : Sc) {c' : Nat} (hc' : c' < 4) (hne : c' ≠ c) (o : Nat) : ∀ k, foX li ln cf fi c k w (o * 4 + c') = w (o * 4 + c')
  | 0 => by
    unfold foX
    simp only [upd_at]
    rw [if_neg (by omega), if_neg (by omega), if_neg (by omega)]
  | k + 1 => by
    rw [foX, upd_at, if_neg (fun g => hne ((ix4 hc' hc).mp g).2)]
    exact foX_ne li ln cf fi c hc w hc' hne o k
/-- the weight of outcome o by choice c -/
def wgt (off : Int32) (li : Sc) (ln : Int32) (cf : Sc) (fi o : Nat) : Int32 := if off = 0 then cf (fi + o) else wOf li ln cf fi o 10
theorem fwL_at (off : Int32) (li : Sc) (ln : Int32) (cf : Sc) (pB st : Nat) (w : Sc) {c o : Nat} (ho : if off = 0 then o < 12 else o ≤ 2) : ∀ ch, c < ch → ch ≤ 4 → fwL off li ln cf pB st ch w (o * 4 + c) = wgt off li ln cf ((pB + c * st) * 12) o
  | 0, h, _ => absurd h (Nat.not_lt_zero _)
  | ch + 1, h, h4 => by
    rw [fwL]
    unfold fwC wgt
    by_cases e : c = ch
    · subst e
      by_cases hof : off = 0
      · rw [if_pos hof] at ho
        rw [if_pos hof, if_pos hof]
        exact fwP_at cf _ c (by omega) _ 12 o ho
      · rw [if_neg hof] at ho
        rw [if_neg hof, if_neg hof]
        exact foX_at li ln cf _ c (by omega) _ ho 10
    · have ih := fwL_at off li ln cf pB st w (c := c) ho ch (by omega) (by omega)
      unfold wgt at ih
      by_cases hof : off = 0
      · rw [if_pos hof, fwP_ne cf _ ch (by omega) _ (c' := c) (by omega) e o 12]
        exact ih
      · rw [if_neg hof, foX_ne li ln cf _ ch (by omega) _ (c' := c) (by omega) e o 10]
        exact ih
def sm9 (f : Nat → Int64) : Nat → Int64
  | 0 => 0
  | n + 1 => sm9 f n + f n
theorem sm9_congr {f g : Nat → Int64} : ∀ n, (∀ o, o < n → f o = g o) → sm9 f n = sm9 g n
  | 0, _ => rfl
  | n + 1, h => by rw [sm9, sm9, sm9_congr n (fun o ho => h o (by omega)), h n (by omega)]
theorem wSm_app (c : Nat) (vf : Sc) (e : Nat × Sc) : ∀ (A : List (Nat × Sc)) (a : Int64), wSm c vf (A ++ [e]) a = wSm c vf A a + (e.2 c).toInt64 * (vf e.1).toInt64
  | [], _ => rfl
  | x :: A, a => wSm_app c vf e A _
theorem mcV_0 {w : Sc} {o : Nat} : ∀ (f c : Nat), ¬ mcV w o f c = 1 → ∀ c', c ≤ c' → c' < c + f → w (o * 4 + c') ≤ 0
  | 0, c, _, c', h1, h2 => by omega
  | f + 1, c, h, c', h1, h2 => by
    rw [mcV] at h
    by_cases e : w (o * 4 + c) ≤ 0
    · rw [if_pos e] at h
      by_cases ec : c' = c
      · rw [ec]; exact e
      · exact mcV_0 f (c + 1) h c' (by omega) (by omega)
    · rw [if_neg e] at h; exact absurd rfl h
theorem wSm_os {c ch : Nat} (hc : c < ch) {vf w sf li : Sc} {K : List Int32} : ∀ n, (∀ o, o < n → 0 ≤ w (o * 4 + c)) → wSm c vf ((osL w ch n).map (enE K sf li w)) 0 = sm9 (fun o => (w (o * 4 + c)).toInt64 * (vf (plc K (tgt sf (bhS sf li o)))).toInt64) n
  | 0, _ => rfl
  | n + 1, h => by
    have ih := wSm_os hc (vf := vf) (sf := sf) (li := li) (K := K) n (fun o ho => h o (by omega))
    rw [osL_s, sm9, ← ih]
    by_cases e : mcV w n ch 0 = 1
    · rw [if_pos e, List.map_append, List.map_singleton, wSm_app]
      rfl
    · rw [if_neg e]
      have h0 : w (n * 4 + c) = 0 := by
        have h1 := mcV_0 ch 0 e c (Nat.zero_le _) (by omega)
        have h2 := h n (by omega)
        exact Int32.le_antisymm h1 h2
      show _ = _ + (w (n * 4 + c)).toInt64 * _
      rw [h0, show (0 : Int32).toInt64 = 0 by decide, Int64.zero_mul, Int64.add_zero]

