/-! ===== the law, call by call ===== -/
theorem lc_feed {l : Launch} {g : Gh} {tb : List ExceptionTableEntry} {nm : String} {rc rs : Nat} {post : Pst} {px : Pxc} {a : Act} {ad A : Nat → Nat} {q o b L9 : Nat} {xs : Nat → Int32} {of : Nat → Int64} {i m kp tp : Sc} {f : Nat → Sc} {h : Nat → Nat → Int64} {e : Nat} {T : va_W} {K N j k n : Nat} {z5 z6 z7 : Option Value} (hX : va_X b L9 xs a.s a.s.heap) (hbl : b < a.s.heap.size) (hbA : ¬ a.A b) (hj : 6 * j + 5 < L9) (hL : L9 ≤ 384) (hR : Rel g ad m kp tp (i 3) e (i 10) T K N) (h6 : i 6 = nI e) (hf : f01 i) (hrc : k + (KM9 - K + 32) ≤ rc) (hrs : n + (NM9 - N + 2000) ≤ rs) (kk : lwK l g tb nm rc rs post px a ad A q o b j K N k n) : WPs l g (mtL_law tb nm) 2048 rc rs post px a 164 [some (.ref b), some (.ref (ad 0)), some (.ref q), some (.ref o), some (.int (nI (6 * j))), z5, z6, z7] [] (((o, aJ g 1 of) :: mW g q A i m kp tp f h) ++ T) k n := by
  refine q_aload_n 1 165 dL_law_164 rfl rfl rfl ?_
  refine q_aload_n 0 166 dL_law_165 rfl rfl rfl ?_
  refine q_iload 4 168 dL_law_166 rfl rfl ?_
  refine q_iconst 1 169 dL_law_168 ic_1 rfl ?_
  refine q_iadd 170 dL_law_169 rfl ?_
  refine q_sld (6 * j + 1) 171 hX hbl hbA dL_law_170 (sx_ 1 (by decide) (by decide) hj hL) rfl ?_
  refine q_aload_n 0 172 dL_law_171 rfl rfl rfl ?_
  refine q_iload 4 174 dL_law_172 rfl rfl ?_
  refine q_iconst 2 175 dL_law_174 ic_2 rfl ?_
  refine q_iadd 176 dL_law_175 rfl ?_
  refine q_sld (6 * j + 2) 177 hX hbl hbA dL_law_176 (sx_ 2 (by decide) (by decide) hj hL) rfl ?_
  refine q_aload_n 0 178 dL_law_177 rfl rfl rfl ?_
  refine q_iload 4 180 dL_law_178 rfl rfl ?_
  refine q_iconst 3 181 dL_law_180 ic_3 rfl ?_
  refine q_iadd 182 dL_law_181 rfl ?_
  refine q_sld (6 * j + 3) 183 hX hbl hbA dL_law_182 (sx_ 3 (by decide) (by decide) hj hL) rfl ?_
  refine q_aload_n 0 184 dL_law_183 rfl rfl rfl ?_
  refine q_iload 4 186 dL_law_184 rfl rfl ?_
  refine q_iconst 4 187 dL_law_186 ic_4 rfl ?_
  refine q_iadd 188 dL_law_187 rfl ?_
  refine q_sld (6 * j + 4) 189 hX hbl hbA dL_law_188 (sx_ 4 (by decide) (by decide) hj hL) rfl ?_
  refine q_aload_n 0 190 dL_law_189 rfl rfl rfl ?_
  refine q_iload 4 192 dL_law_190 rfl rfl ?_
  refine q_iconst 5 193 dL_law_192 ic_5 rfl ?_
  refine q_iadd 194 dL_law_193 rfl ?_
  refine q_sld (6 * j + 5) 195 hX hbl hbA dL_law_194 (sx_ 5 (by decide) (by decide) hj hL) rfl ?_
  obtain ⟨ic9, r9, hq9⟩ := hR.head
  refine q_lv (RX := _) 198 (cw_feed (l := l) hR (x1 := (xs (6 * j + 1))) (x2 := (xs (6 * j + 2))) (x3 := (xs (6 * j + 3))) (x4 := (xs (6 * j + 4))) (x5 := (xs (6 * j + 5)))) m_L_96 dL_law_195 rfl rfl hq9 rfl rfl (Nat.le_of_ble_eq_true rfl) (by decide) hrc hrs rfl (fun v T1 k1 n1 hC hP1 => ?_)
  obtain ⟨K1, N1, hR1, hk1, hn1⟩ := hP1
  have hl1 := hR1.le
  have hl0 := hR.le
  subst hC
  refine q_aload_n 2 199 dL_law_198 rfl rfl rfl ?_
  refine q_aload_n 0 200 dL_law_199 rfl rfl rfl ?_
  refine q_iload 4 202 dL_law_200 rfl rfl ?_
  refine q_iconst 1 203 dL_law_202 ic_1 rfl ?_
  refine q_iadd 204 dL_law_203 rfl ?_
  refine q_sld (6 * j + 1) 205 hX hbl hbA dL_law_204 (sx_ 1 (by decide) (by decide) hj hL) rfl ?_
  refine q_aload_n 0 206 dL_law_205 rfl rfl rfl ?_
  refine q_iload 4 208 dL_law_206 rfl rfl ?_
  refine q_iconst 2 209 dL_law_208 ic_2 rfl ?_
  refine q_iadd 210 dL_law_209 rfl ?_
  refine q_sld (6 * j + 2) 211 hX hbl hbA dL_law_210 (sx_ 2 (by decide) (by decide) hj hL) rfl ?_
  refine q_aload_n 0 212 dL_law_211 rfl rfl rfl ?_
  refine q_iload 4 214 dL_law_212 rfl rfl ?_
  refine q_iconst 3 215 dL_law_214 ic_3 rfl ?_
  refine q_iadd 216 dL_law_215 rfl ?_
  refine q_sld (6 * j + 3) 217 hX hbl hbA dL_law_216 (sx_ 3 (by decide) (by decide) hj hL) rfl ?_
  refine q_aload_n 0 218 dL_law_217 rfl rfl rfl ?_
  refine q_iload 4 220 dL_law_218 rfl rfl ?_
  refine q_iconst 4 221 dL_law_220 ic_4 rfl ?_
  refine q_iadd 222 dL_law_221 rfl ?_
  refine q_sld (6 * j + 4) 223 hX hbl hbA dL_law_222 (sx_ 4 (by decide) (by decide) hj hL) rfl ?_
  refine q_aload_n 0 224 dL_law_223 rfl rfl rfl ?_
  refine q_iload 4 226 dL_law_224 rfl rfl ?_
  refine q_iconst 5 227 dL_law_226 ic_5 rfl ?_
  refine q_iadd 228 dL_law_227 rfl ?_
  refine q_sld (6 * j + 5) 229 hX hbl hbA dL_law_228 (sx_ 5 (by decide) (by decide) hj hL) rfl ?_
  refine q_lm 232 (mm_feed (l := l) (q := q) (A := A) hR h6 hf (x1 := (xs (6 * j + 1))) (x2 := (xs (6 * j + 2))) (x3 := (xs (6 * j + 3))) (x4 := (xs (6 * j + 4))) (x5 := (xs (6 * j + 5)))) m_L_100 dL_law_229 rfl rfl rfl rfl rfl (Nat.le_of_ble_eq_true rfl) (by decide) (by omega) (by omega) rfl (fun z hz9 => ?_)
  obtain ⟨ans1, i1, f1, h1⟩ := z
  obtain ⟨g1, g2, g3, g4, g5, g6⟩ := hz9
  dsimp only at g1 g2 g3 g4 g5 g6 ⊢
  refine q_icmp_eq 1766 235 dL_law_232 (by decide) rfl (fun _ => ?_) (fun h9 => absurd (g1 rfl).symm h9)
  exact kk of i1 _ _ _ f1 h1 _ T1 K1 N1 _ _ _ _ _ (by rw [g3, g5]; exact hR1) g4 g6 (by omega) (by omega)
theorem lc_end {l : Launch} {g : Gh} {tb : List ExceptionTableEntry} {nm : String} {rc rs : Nat} {post : Pst} {px : Pxc} {a : Act} {ad A : Nat → Nat} {q o b L9 : Nat} {xs : Nat → Int32} {of : Nat → Int64} {i m kp tp : Sc} {f : Nat → Sc} {h : Nat → Nat → Int64} {e : Nat} {T : va_W} {K N j k n : Nat} {z5 z6 z7 : Option Value} (hX : va_X b L9 xs a.s a.s.heap) (hbl : b < a.s.heap.size) (hbA : ¬ a.A b) (hj : 6 * j + 5 < L9) (hL : L9 ≤ 384) (hR : Rel g ad m kp tp (i 3) e (i 10) T K N) (h6 : i 6 = nI e) (hf : f01 i) (hrc : k + (KM9 - K + 32) ≤ rc) (hrs : n + (NM9 - N + 2000) ≤ rs) (kk : lwK l g tb nm rc rs post px a ad A q o b j K N k n) : WPs l g (mtL_law tb nm) 2048 rc rs post px a 237 [some (.ref b), some (.ref (ad 0)), some (.ref q), some (.ref o), some (.int (nI (6 * j))), z5, z6, z7] [] (((o, aJ g 1 of) :: mW g q A i m kp tp f h) ++ T) k n := by
  refine q_aload_n 1 238 dL_law_237 rfl rfl rfl ?_
  refine q_aload_n 0 239 dL_law_238 rfl rfl rfl ?_
  refine q_iload 4 241 dL_law_239 rfl rfl ?_
  refine q_iconst 1 242 dL_law_241 ic_1 rfl ?_
  refine q_iadd 243 dL_law_242 rfl ?_
  refine q_sld (6 * j + 1) 244 hX hbl hbA dL_law_243 (sx_ 1 (by decide) (by decide) hj hL) rfl ?_
  obtain ⟨ic9, r9, hq9⟩ := hR.head
  refine q_lv (RX := _) 247 (cw_end (l := l) hR (n9 := (xs (6 * j + 1)))) m_L_101 dL_law_244 rfl rfl hq9 rfl rfl (Nat.le_of_ble_eq_true rfl) (by decide) hrc hrs rfl (fun v T1 k1 n1 hC hP1 => ?_)
  obtain ⟨K1, N1, hR1, hk1, hn1⟩ := hP1
  have hl1 := hR1.le
  have hl0 := hR.le
  subst hC
  refine q_aload_n 2 248 dL_law_247 rfl rfl rfl ?_
  refine q_aload_n 0 249 dL_law_248 rfl rfl rfl ?_
  refine q_iload 4 251 dL_law_249 rfl rfl ?_
  refine q_iconst 1 252 dL_law_251 ic_1 rfl ?_
  refine q_iadd 253 dL_law_252 rfl ?_
  refine q_sld (6 * j + 1) 254 hX hbl hbA dL_law_253 (sx_ 1 (by decide) (by decide) hj hL) rfl ?_
  refine q_lm 257 (mm_end (l := l) (q := q) (A := A) hR h6 hf (n9 := (xs (6 * j + 1)))) m_L_104 dL_law_254 rfl rfl rfl rfl rfl (Nat.le_of_ble_eq_true rfl) (by decide) (by omega) (by omega) rfl (fun z hz9 => ?_)
  obtain ⟨ans1, i1, f1, h1⟩ := z
  obtain ⟨g1, g2, g3, g4, g5, g6⟩ := hz9
  dsimp only at g1 g2 g3 g4 g5 g6 ⊢
  refine q_icmp_eq 1766 260 dL_law_257 (by decide) rfl (fun _ => ?_) (fun h9 => absurd (g1 rfl).symm h9)
  exact kk of i1 _ _ _ f1 h1 _ T1 K1 N1 _ _ _ _ _ (by rw [g3, g5]; exact hR1) g4 g6 (by omega) (by omega)
theorem lc_court {l : Launch} {g : Gh} {tb : List ExceptionTableEntry} {nm : String} {rc rs : Nat} {post : Pst} {px : Pxc} {a : Act} {ad A : Nat → Nat} {q o b L9 : Nat} {xs : Nat → Int32} {of : Nat → Int64} {i m kp tp : Sc} {f : Nat → Sc} {h : Nat → Nat → Int64} {e : Nat} {T : va_W} {K N j k n : Nat} {z5 z6 z7 : Option Value} (hX : va_X b L9 xs a.s a.s.heap) (hbl : b < a.s.heap.size) (hbA : ¬ a.A b) (hj : 6 * j + 5 < L9) (hL : L9 ≤ 384) (hR : Rel g ad m kp tp (i 3) e (i 10) T K N) (h6 : i 6 = nI e) (hf : f01 i) (hrc : k + (KM9 - K + 32) ≤ rc) (hrs : n + (NM9 - N + 2000) ≤ rs) (kk : lwK l g tb nm rc rs post px a ad A q o b j K N k n) : WPs l g (mtL_law tb nm) 2048 rc rs post px a 262 [some (.ref b), some (.ref (ad 0)), some (.ref q), some (.ref o), some (.int (nI (6 * j))), z5, z6, z7] [] (((o, aJ g 1 of) :: mW g q A i m kp tp f h) ++ T) k n := by
  refine q_aload_n 1 263 dL_law_262 rfl rfl rfl ?_
  refine q_aload_n 3 264 dL_law_263 rfl rfl rfl ?_
  refine q_lc 267 (cl_court (l := l) hR (o := o) (of := of)) m_L_105 dL_law_264 rfl rfl (Nat.le_of_ble_eq_true rfl) (by decide) hrc hrs rfl (fun of1 T1 k1 n1 ha1 hP1 => ?_)
  obtain ⟨K1, N1, hR1, hk1, hn1⟩ := hP1
  have hl1 := hR1.le
  have hl0 := hR.le
  refine q_istore 5 269 (L' := [_, _, _, _, _, _, _, _]) dL_law_267 (Nat.le_of_ble_eq_true rfl) rfl rfl ?_
  refine q_aload_n 2 270 dL_law_269 rfl rfl rfl ?_
  refine q_lm 273 (mm_court (l := l) (q := q) (A := A) hR h6 hf) m_L_110 dL_law_270 rfl rfl rfl rfl rfl (Nat.le_of_ble_eq_true rfl) (by decide) (by omega) (by omega) rfl (fun z hz9 => ?_)
  obtain ⟨ans1, i1, f1, h1⟩ := z
  obtain ⟨g1, g2, g3, g4, g5, g6⟩ := hz9
  dsimp only at g1 g2 g3 g4 g5 g6 ⊢
  refine q_istore 6 275 (L' := [_, _, _, _, _, _, _, _]) dL_law_273 (Nat.le_of_ble_eq_true rfl) rfl rfl ?_
  refine q_aload_n 2 276 dL_law_275 rfl rfl rfl ?_
  refine q_lm 279 mm_thrown m_L_111 dL_law_276 rfl rfl rfl rfl rfl (Nat.le_of_ble_eq_true rfl) (by decide) (by omega) (by omega) rfl (fun _ _ => ?_)
  refine q_iload 5 281 dL_law_279 rfl rfl ?_
  refine q_icmp_eq 286 284 dL_law_281 (by decide) rfl (fun _ => ?_) (fun h9 => absurd g2 h9)
  refine q_iload 5 288 dL_law_286 rfl rfl ?_
  refine q_if_ne 303 291 dL_law_288 (by decide) rfl (fun h0 => ?_) (fun h0 => ?_)
  · skip
    refine q_goto 1766 dL_law_303 (by decide) ?_
    exact kk of1 i1 _ _ _ f1 h1 _ T1 K1 N1 _ _ _ _ _ (by rw [g3, g5]; exact hR1) g4 g6 (by omega) (by omega)
  · skip
    have ea := ha1 h0
    have eb := g1 h0
    have hc9 : lg_cmp (of1 0) ans1.toInt64 = 0 := by rw [ea, eb]; exact lg_rf _
    refine q_aload_n 3 292 dL_law_291 rfl rfl rfl ?_
    refine q_iconst 0 293 dL_law_292 ic_0 rfl ?_
    refine q_lald 0 0 294 dL_law_293 rfl ⟨by decide, by decide, by decide⟩ rfl ?_
    refine q_iload 6 296 dL_law_294 rfl rfl ?_
    refine q_i2l 297 dL_law_296 rfl ?_
    refine q_lcmp 298 dL_law_297 rfl ?_
    refine q_if_eq 303 301 dL_law_298 (by decide) rfl (fun _ => ?_) (fun h9 => absurd hc9 h9)
    refine q_goto 1766 dL_law_303 (by decide) ?_
    exact kk of1 i1 _ _ _ f1 h1 _ T1 K1 N1 _ _ _ _ _ (by rw [g3, g5]; exact hR1) g4 g6 (by omega) (by omega)
theorem lc_rule {l : Launch} {g : Gh} {tb : List ExceptionTableEntry} {nm : String} {rc rs : Nat} {post : Pst} {px : Pxc} {a : Act} {ad A : Nat → Nat} {q o b L9 : Nat} {xs : Nat → Int32} {of : Nat → Int64} {i m kp tp : Sc} {f : Nat → Sc} {h : Nat → Nat → Int64} {e : Nat} {T : va_W} {K N j k n : Nat} {z5 z6 z7 : Option Value} (hX : va_X b L9 xs a.s a.s.heap) (hbl : b < a.s.heap.size) (hbA : ¬ a.A b) (hj : 6 * j + 5 < L9) (hL : L9 ≤ 384) (hR : Rel g ad m kp tp (i 3) e (i 10) T K N) (h6 : i 6 = nI e) (hf : f01 i) (hrc : k + (KM9 - K + 32) ≤ rc) (hrs : n + (NM9 - N + 2000) ≤ rs) (kk : lwK l g tb nm rc rs post px a ad A q o b j K N k n) : WPs l g (mtL_law tb nm) 2048 rc rs post px a 306 [some (.ref b), some (.ref (ad 0)), some (.ref q), some (.ref o), some (.int (nI (6 * j))), z5, z6, z7] [] (((o, aJ g 1 of) :: mW g q A i m kp tp f h) ++ T) k n := by
  refine q_aload_n 1 307 dL_law_306 rfl rfl rfl ?_
  refine q_aload_n 3 308 dL_law_307 rfl rfl rfl ?_
  refine q_lc 311 (cl_rule (l := l) hR (f 1) hf.1 hf.2 (o := o) (of := of)) m_L_114 dL_law_308 rfl rfl (Nat.le_of_ble_eq_true rfl) (by decide) hrc hrs rfl (fun of1 T1 k1 n1 ha1 hP1 => ?_)
  obtain ⟨K1, N1, hR1, hk1, hn1⟩ := hP1
  have hl1 := hR1.le
  have hl0 := hR.le
  refine q_istore 5 313 (L' := [_, _, _, _, _, _, _, _]) dL_law_311 (Nat.le_of_ble_eq_true rfl) rfl rfl ?_
  refine q_aload_n 2 314 dL_law_313 rfl rfl rfl ?_
  refine q_lm 317 (mm_rule (l := l) (q := q) (A := A) hR h6 hf) m_L_116 dL_law_314 rfl rfl rfl rfl rfl (Nat.le_of_ble_eq_true rfl) (by decide) (by omega) (by omega) rfl (fun z hz9 => ?_)
  obtain ⟨ans1, i1, f1, h1⟩ := z
  obtain ⟨g1, g2, g3, g4, g5, g6⟩ := hz9
  dsimp only at g1 g2 g3 g4 g5 g6 ⊢
  refine q_istore 6 319 (L' := [_, _, _, _, _, _, _, _]) dL_law_317 (Nat.le_of_ble_eq_true rfl) rfl rfl ?_
  refine q_aload_n 2 320 dL_law_319 rfl rfl rfl ?_
  refine q_lm 323 mm_thrown m_L_111 dL_law_320 rfl rfl rfl rfl rfl (Nat.le_of_ble_eq_true rfl) (by decide) (by omega) (by omega) rfl (fun _ _ => ?_)
  refine q_iload 5 325 dL_law_323 rfl rfl ?_
  refine q_icmp_eq 330 328 dL_law_325 (by decide) rfl (fun _ => ?_) (fun h9 => absurd g2 h9)
  refine q_iload 5 332 dL_law_330 rfl rfl ?_
  refine q_if_ne 347 335 dL_law_332 (by decide) rfl (fun h0 => ?_) (fun h0 => ?_)
  · skip
    refine q_goto 1766 dL_law_347 (by decide) ?_
    exact kk of1 i1 _ _ _ f1 h1 _ T1 K1 N1 _ _ _ _ _ (by rw [g3, g5]; exact hR1) g4 g6 (by omega) (by omega)
  · skip
    have ea := ha1 h0
    have eb := g1 h0
    have hc9 : lg_cmp (of1 0) ans1.toInt64 = 0 := by rw [ea, eb]; exact lg_rf _
    refine q_aload_n 3 336 dL_law_335 rfl rfl rfl ?_
    refine q_iconst 0 337 dL_law_336 ic_0 rfl ?_
    refine q_lald 0 0 338 dL_law_337 rfl ⟨by decide, by decide, by decide⟩ rfl ?_
    refine q_iload 6 340 dL_law_338 rfl rfl ?_
    refine q_i2l 341 dL_law_340 rfl ?_
    refine q_lcmp 342 dL_law_341 rfl ?_
    refine q_if_eq 347 345 dL_law_342 (by decide) rfl (fun _ => ?_) (fun h9 => absurd hc9 h9)
    refine q_goto 1766 dL_law_347 (by decide) ?_
    exact kk of1 i1 _ _ _ f1 h1 _ T1 K1 N1 _ _ _ _ _ (by rw [g3, g5]; exact hR1) g4 g6 (by omega) (by omega)
theorem lc_fault {l : Launch} {g : Gh} {tb : List ExceptionTableEntry} {nm : String} {rc rs : Nat} {post : Pst} {px : Pxc} {a : Act} {ad A : Nat → Nat} {q o b L9 : Nat} {xs : Nat → Int32} {of : Nat → Int64} {i m kp tp : Sc} {f : Nat → Sc} {h : Nat → Nat → Int64} {e : Nat} {T : va_W} {K N j k n : Nat} {z5 z6 z7 : Option Value} (hX : va_X b L9 xs a.s a.s.heap) (hbl : b < a.s.heap.size) (hbA : ¬ a.A b) (hj : 6 * j + 5 < L9) (hL : L9 ≤ 384) (hR : Rel g ad m kp tp (i 3) e (i 10) T K N) (h6 : i 6 = nI e) (hf : f01 i) (hrc : k + (KM9 - K + 32) ≤ rc) (hrs : n + (NM9 - N + 2000) ≤ rs) (kk : lwK l g tb nm rc rs post px a ad A q o b j K N k n) : WPs l g (mtL_law tb nm) 2048 rc rs post px a 350 [some (.ref b), some (.ref (ad 0)), some (.ref q), some (.ref o), some (.int (nI (6 * j))), z5, z6, z7] [] (((o, aJ g 1 of) :: mW g q A i m kp tp f h) ++ T) k n := by
  refine q_aload_n 1 351 dL_law_350 rfl rfl rfl ?_
  obtain ⟨ic9, r9, hq9⟩ := hR.head
  refine q_lv (RX := _) 354 (cw_fault (l := l) hR) m_L_117 dL_law_351 rfl rfl hq9 rfl rfl (Nat.le_of_ble_eq_true rfl) (by decide) hrc hrs rfl (fun v T1 k1 n1 hC hP1 => ?_)
  obtain ⟨K1, N1, hR1, hk1, hn1⟩ := hP1
  have hl1 := hR1.le
  have hl0 := hR.le
  subst hC
  refine q_aload_n 2 355 dL_law_354 rfl rfl rfl ?_
  refine q_lm 358 (mm_fault (l := l) (q := q) (A := A) hR h6 hf) m_L_120 dL_law_355 rfl rfl rfl rfl rfl (Nat.le_of_ble_eq_true rfl) (by decide) (by omega) (by omega) rfl (fun z hz9 => ?_)
  obtain ⟨ans1, i1, f1, h1⟩ := z
  obtain ⟨g1, g2, g3, g4, g5, g6⟩ := hz9
  dsimp only at g1 g2 g3 g4 g5 g6 ⊢
  refine q_icmp_eq 1766 361 dL_law_358 (by decide) rfl (fun _ => ?_) (fun h9 => absurd (g1 rfl).symm h9)
  exact kk of i1 _ _ _ f1 h1 _ T1 K1 N1 _ _ _ _ _ (by rw [g3, g5]; exact hR1) g4 g6 (by omega) (by omega)
theorem lc_look {l : Launch} {g : Gh} {tb : List ExceptionTableEntry} {nm : String} {rc rs : Nat} {post : Pst} {px : Pxc} {a : Act} {ad A : Nat → Nat} {q o b L9 : Nat} {xs : Nat → Int32} {of : Nat → Int64} {i m kp tp : Sc} {f : Nat → Sc} {h : Nat → Nat → Int64} {e : Nat} {T : va_W} {K N j k n : Nat} {z5 z6 z7 : Option Value} (hX : va_X b L9 xs a.s a.s.heap) (hbl : b < a.s.heap.size) (hbA : ¬ a.A b) (hj : 6 * j + 5 < L9) (hL : L9 ≤ 384) (hR : Rel g ad m kp tp (i 3) e (i 10) T K N) (h6 : i 6 = nI e) (hf : f01 i) (hrc : k + (KM9 - K + 32) ≤ rc) (hrs : n + (NM9 - N + 2000) ≤ rs) (kk : lwK l g tb nm rc rs post px a ad A q o b j K N k n) : WPs l g (mtL_law tb nm) 2048 rc rs post px a 363 [some (.ref b), some (.ref (ad 0)), some (.ref q), some (.ref o), some (.int (nI (6 * j))), z5, z6, z7] [] (((o, aJ g 1 of) :: mW g q A i m kp tp f h) ++ T) k n := by
  refine q_aload_n 1 364 dL_law_363 rfl rfl rfl ?_
  refine q_aload_n 0 365 dL_law_364 rfl rfl rfl ?_
  refine q_iload 4 367 dL_law_365 rfl rfl ?_
  refine q_iconst 1 368 dL_law_367 ic_1 rfl ?_
  refine q_iadd 369 dL_law_368 rfl ?_
  refine q_sld (6 * j + 1) 370 hX hbl hbA dL_law_369 (sx_ 1 (by decide) (by decide) hj hL) rfl ?_
  refine q_aload_n 0 371 dL_law_370 rfl rfl rfl ?_
  refine q_iload 4 373 dL_law_371 rfl rfl ?_
  refine q_iconst 2 374 dL_law_373 ic_2 rfl ?_
  refine q_iadd 375 dL_law_374 rfl ?_
  refine q_sld (6 * j + 2) 376 hX hbl hbA dL_law_375 (sx_ 2 (by decide) (by decide) hj hL) rfl ?_
  refine q_aload_n 0 377 dL_law_376 rfl rfl rfl ?_
  refine q_iload 4 379 dL_law_377 rfl rfl ?_
  refine q_iconst 3 380 dL_law_379 ic_3 rfl ?_
  refine q_iadd 381 dL_law_380 rfl ?_
  refine q_sld (6 * j + 3) 382 hX hbl hbA dL_law_381 (sx_ 3 (by decide) (by decide) hj hL) rfl ?_
  refine q_aload_n 3 383 dL_law_382 rfl rfl rfl ?_
  refine q_lc 386 (cl_look (l := l) hR (p0 := (xs (6 * j + 1))) (p1 := (xs (6 * j + 2))) (p2 := (xs (6 * j + 3))) (o := o) (of := of)) m_L_121 dL_law_383 rfl rfl (Nat.le_of_ble_eq_true rfl) (by decide) hrc hrs rfl (fun of1 T1 k1 n1 ha1 hP1 => ?_)
  obtain ⟨K1, N1, hR1, hk1, hn1⟩ := hP1
  have hl1 := hR1.le
  have hl0 := hR.le
  refine q_istore 5 388 (L' := [_, _, _, _, _, _, _, _]) dL_law_386 (Nat.le_of_ble_eq_true rfl) rfl rfl ?_
  refine q_aload_n 2 389 dL_law_388 rfl rfl rfl ?_
  refine q_aload_n 0 390 dL_law_389 rfl rfl rfl ?_
  refine q_iload 4 392 dL_law_390 rfl rfl ?_
  refine q_iconst 1 393 dL_law_392 ic_1 rfl ?_
  refine q_iadd 394 dL_law_393 rfl ?_
  refine q_sld (6 * j + 1) 395 hX hbl hbA dL_law_394 (sx_ 1 (by decide) (by decide) hj hL) rfl ?_
  refine q_aload_n 0 396 dL_law_395 rfl rfl rfl ?_
  refine q_iload 4 398 dL_law_396 rfl rfl ?_
  refine q_iconst 2 399 dL_law_398 ic_2 rfl ?_
  refine q_iadd 400 dL_law_399 rfl ?_
  refine q_sld (6 * j + 2) 401 hX hbl hbA dL_law_400 (sx_ 2 (by decide) (by decide) hj hL) rfl ?_
  refine q_aload_n 0 402 dL_law_401 rfl rfl rfl ?_
  refine q_iload 4 404 dL_law_402 rfl rfl ?_
  refine q_iconst 3 405 dL_law_404 ic_3 rfl ?_
  refine q_iadd 406 dL_law_405 rfl ?_
  refine q_sld (6 * j + 3) 407 hX hbl hbA dL_law_406 (sx_ 3 (by decide) (by decide) hj hL) rfl ?_
  refine q_lm 410 (mm_look (l := l) (q := q) (A := A) hR h6 hf (p0 := (xs (6 * j + 1))) (p1 := (xs (6 * j + 2))) (p2 := (xs (6 * j + 3)))) m_L_124 dL_law_407 rfl rfl rfl rfl rfl (Nat.le_of_ble_eq_true rfl) (by decide) (by omega) (by omega) rfl (fun z hz9 => ?_)
  obtain ⟨ans1, i1, f1, h1⟩ := z
  obtain ⟨g1, g2, g3, g4, g5, g6⟩ := hz9
  dsimp only at g1 g2 g3 g4 g5 g6 ⊢
  refine q_istore 6 412 (L' := [_, _, _, _, _, _, _, _]) dL_law_410 (Nat.le_of_ble_eq_true rfl) rfl rfl ?_
  refine q_aload_n 2 413 dL_law_412 rfl rfl rfl ?_
  refine q_lm 416 mm_thrown m_L_111 dL_law_413 rfl rfl rfl rfl rfl (Nat.le_of_ble_eq_true rfl) (by decide) (by omega) (by omega) rfl (fun _ _ => ?_)
  refine q_iload 5 418 dL_law_416 rfl rfl ?_
  refine q_icmp_eq 423 421 dL_law_418 (by decide) rfl (fun _ => ?_) (fun h9 => absurd g2 h9)
  refine q_iload 5 425 dL_law_423 rfl rfl ?_
  refine q_if_ne 440 428 dL_law_425 (by decide) rfl (fun h0 => ?_) (fun h0 => ?_)
  · skip
    refine q_goto 1766 dL_law_440 (by decide) ?_
    exact kk of1 i1 _ _ _ f1 h1 _ T1 K1 N1 _ _ _ _ _ (by rw [g3, g5]; exact hR1) g4 g6 (by omega) (by omega)
  · skip
    have ea := ha1 h0
    have eb := g1 h0
    have hc9 : lg_cmp (of1 0) ans1.toInt64 = 0 := by rw [ea, eb]; exact lg_rf _
    refine q_aload_n 3 429 dL_law_428 rfl rfl rfl ?_
    refine q_iconst 0 430 dL_law_429 ic_0 rfl ?_
    refine q_lald 0 0 431 dL_law_430 rfl ⟨by decide, by decide, by decide⟩ rfl ?_
    refine q_iload 6 433 dL_law_431 rfl rfl ?_
    refine q_i2l 434 dL_law_433 rfl ?_
    refine q_lcmp 435 dL_law_434 rfl ?_
    refine q_if_eq 440 438 dL_law_435 (by decide) rfl (fun _ => ?_) (fun h9 => absurd hc9 h9)
    refine q_goto 1766 dL_law_440 (by decide) ?_
    exact kk of1 i1 _ _ _ f1 h1 _ T1 K1 N1 _ _ _ _ _ (by rw [g3, g5]; exact hR1) g4 g6 (by omega) (by omega)
theorem lc_plays {l : Launch} {g : Gh} {tb : List ExceptionTableEntry} {nm : String} {rc rs : Nat} {post : Pst} {px : Pxc} {a : Act} {ad A : Nat → Nat} {q o b L9 : Nat} {xs : Nat → Int32} {of : Nat → Int64} {i m kp tp : Sc} {f : Nat → Sc} {h : Nat → Nat → Int64} {e : Nat} {T : va_W} {K N j k n : Nat} {z5 z6 z7 : Option Value} (hX : va_X b L9 xs a.s a.s.heap) (hbl : b < a.s.heap.size) (hbA : ¬ a.A b) (hj : 6 * j + 5 < L9) (hL : L9 ≤ 384) (hR : Rel g ad m kp tp (i 3) e (i 10) T K N) (h6 : i 6 = nI e) (hf : f01 i) (hrc : k + (KM9 - K + 32) ≤ rc) (hrs : n + (NM9 - N + 2000) ≤ rs) (kk : lwK l g tb nm rc rs post px a ad A q o b j K N k n) : WPs l g (mtL_law tb nm) 2048 rc rs post px a 443 [some (.ref b), some (.ref (ad 0)), some (.ref q), some (.ref o), some (.int (nI (6 * j))), z5, z6, z7] [] (((o, aJ g 1 of) :: mW g q A i m kp tp f h) ++ T) k n := by
  refine q_aload_n 1 444 dL_law_443 rfl rfl rfl ?_
  refine q_aload_n 0 445 dL_law_444 rfl rfl rfl ?_
  refine q_iload 4 447 dL_law_445 rfl rfl ?_
  refine q_iconst 1 448 dL_law_447 ic_1 rfl ?_
  refine q_iadd 449 dL_law_448 rfl ?_
  refine q_sld (6 * j + 1) 450 hX hbl hbA dL_law_449 (sx_ 1 (by decide) (by decide) hj hL) rfl ?_
  refine q_aload_n 0 451 dL_law_450 rfl rfl rfl ?_
  refine q_iload 4 453 dL_law_451 rfl rfl ?_
  refine q_iconst 2 454 dL_law_453 ic_2 rfl ?_
  refine q_iadd 455 dL_law_454 rfl ?_
  refine q_sld (6 * j + 2) 456 hX hbl hbA dL_law_455 (sx_ 2 (by decide) (by decide) hj hL) rfl ?_
  refine q_aload_n 3 457 dL_law_456 rfl rfl rfl ?_
  refine q_lc 460 (cl_plays (l := l) hR (p0 := (xs (6 * j + 1))) (p1 := (xs (6 * j + 2))) (o := o) (of := of)) m_L_125 dL_law_457 rfl rfl (Nat.le_of_ble_eq_true rfl) (by decide) hrc hrs rfl (fun of1 T1 k1 n1 ha1 hP1 => ?_)
  obtain ⟨K1, N1, hR1, hk1, hn1⟩ := hP1
  have hl1 := hR1.le
  have hl0 := hR.le
  refine q_istore 5 462 (L' := [_, _, _, _, _, _, _, _]) dL_law_460 (Nat.le_of_ble_eq_true rfl) rfl rfl ?_
  refine q_aload_n 2 463 dL_law_462 rfl rfl rfl ?_
  refine q_aload_n 0 464 dL_law_463 rfl rfl rfl ?_
  refine q_iload 4 466 dL_law_464 rfl rfl ?_
  refine q_iconst 1 467 dL_law_466 ic_1 rfl ?_
  refine q_iadd 468 dL_law_467 rfl ?_
  refine q_sld (6 * j + 1) 469 hX hbl hbA dL_law_468 (sx_ 1 (by decide) (by decide) hj hL) rfl ?_
  refine q_aload_n 0 470 dL_law_469 rfl rfl rfl ?_
  refine q_iload 4 472 dL_law_470 rfl rfl ?_
  refine q_iconst 2 473 dL_law_472 ic_2 rfl ?_
  refine q_iadd 474 dL_law_473 rfl ?_
  refine q_sld (6 * j + 2) 475 hX hbl hbA dL_law_474 (sx_ 2 (by decide) (by decide) hj hL) rfl ?_
  refine q_lm 478 (mm_plays (l := l) (q := q) (A := A) hR h6 hf (p0 := (xs (6 * j + 1))) (p1 := (xs (6 * j + 2)))) m_L_128 dL_law_475 rfl rfl rfl rfl rfl (Nat.le_of_ble_eq_true rfl) (by decide) (by omega) (by omega) rfl (fun z hz9 => ?_)
  obtain ⟨ans1, i1, f1, h1⟩ := z
  obtain ⟨g1, g2, g3, g4, g5, g6⟩ := hz9
  dsimp only at g1 g2 g3 g4 g5 g6 ⊢
  refine q_istore 6 480 (L' := [_, _, _, _, _, _, _, _]) dL_law_478 (Nat.le_of_ble_eq_true rfl) rfl rfl ?_
  refine q_aload_n 2 481 dL_law_480 rfl rfl rfl ?_
  refine q_lm 484 mm_thrown m_L_111 dL_law_481 rfl rfl rfl rfl rfl (Nat.le_of_ble_eq_true rfl) (by decide) (by omega) (by omega) rfl (fun _ _ => ?_)
  refine q_iload 5 486 dL_law_484 rfl rfl ?_
  refine q_icmp_eq 491 489 dL_law_486 (by decide) rfl (fun _ => ?_) (fun h9 => absurd g2 h9)
  refine q_iload 5 493 dL_law_491 rfl rfl ?_
  refine q_if_ne 508 496 dL_law_493 (by decide) rfl (fun h0 => ?_) (fun h0 => ?_)
  · skip
    refine q_goto 1766 dL_law_508 (by decide) ?_
    exact kk of1 i1 _ _ _ f1 h1 _ T1 K1 N1 _ _ _ _ _ (by rw [g3, g5]; exact hR1) g4 g6 (by omega) (by omega)
  · skip
    have ea := ha1 h0
    have eb := g1 h0
    have hc9 : lg_cmp (of1 0) ans1.toInt64 = 0 := by rw [ea, eb]; exact lg_rf _
    refine q_aload_n 3 497 dL_law_496 rfl rfl rfl ?_
    refine q_iconst 0 498 dL_law_497 ic_0 rfl ?_
    refine q_lald 0 0 499 dL_law_498 rfl ⟨by decide, by decide, by decide⟩ rfl ?_
    refine q_iload 6 501 dL_law_499 rfl rfl ?_
    refine q_i2l 502 dL_law_501 rfl ?_
    refine q_lcmp 503 dL_law_502 rfl ?_
    refine q_if_eq 508 506 dL_law_503 (by decide) rfl (fun _ => ?_) (fun h9 => absurd hc9 h9)
    refine q_goto 1766 dL_law_508 (by decide) ?_
    exact kk of1 i1 _ _ _ f1 h1 _ T1 K1 N1 _ _ _ _ _ (by rw [g3, g5]; exact hR1) g4 g6 (by omega) (by omega)
theorem lc_style {l : Launch} {g : Gh} {tb : List ExceptionTableEntry} {nm : String} {rc rs : Nat} {post : Pst} {px : Pxc} {a : Act} {ad A : Nat → Nat} {q o b L9 : Nat} {xs : Nat → Int32} {of : Nat → Int64} {i m kp tp : Sc} {f : Nat → Sc} {h : Nat → Nat → Int64} {e : Nat} {T : va_W} {K N j k n : Nat} {z5 z6 z7 : Option Value} (hX : va_X b L9 xs a.s a.s.heap) (hbl : b < a.s.heap.size) (hbA : ¬ a.A b) (hj : 6 * j + 5 < L9) (hL : L9 ≤ 384) (hR : Rel g ad m kp tp (i 3) e (i 10) T K N) (h6 : i 6 = nI e) (hf : f01 i) (hrc : k + (KM9 - K + 32) ≤ rc) (hrs : n + (NM9 - N + 2000) ≤ rs) (kk : lwK l g tb nm rc rs post px a ad A q o b j K N k n) : WPs l g (mtL_law tb nm) 2048 rc rs post px a 511 [some (.ref b), some (.ref (ad 0)), some (.ref q), some (.ref o), some (.int (nI (6 * j))), z5, z6, z7] [] (((o, aJ g 1 of) :: mW g q A i m kp tp f h) ++ T) k n := by
  refine q_aload_n 1 512 dL_law_511 rfl rfl rfl ?_
  refine q_aload_n 0 513 dL_law_512 rfl rfl rfl ?_
  refine q_iload 4 515 dL_law_513 rfl rfl ?_
  refine q_iconst 1 516 dL_law_515 ic_1 rfl ?_
  refine q_iadd 517 dL_law_516 rfl ?_
  refine q_sld (6 * j + 1) 518 hX hbl hbA dL_law_517 (sx_ 1 (by decide) (by decide) hj hL) rfl ?_
  refine q_aload_n 3 519 dL_law_518 rfl rfl rfl ?_
  refine q_lc 522 (cl_style (l := l) hR (p0 := (xs (6 * j + 1))) (f 1) (f 2) (o := o) (of := of)) m_L_129 dL_law_519 rfl rfl (Nat.le_of_ble_eq_true rfl) (by decide) hrc hrs rfl (fun of1 T1 k1 n1 ha1 hP1 => ?_)
  obtain ⟨K1, N1, hR1, hk1, hn1⟩ := hP1
  have hl1 := hR1.le
  have hl0 := hR.le
  refine q_istore 5 524 (L' := [_, _, _, _, _, _, _, _]) dL_law_522 (Nat.le_of_ble_eq_true rfl) rfl rfl ?_
  refine q_aload_n 2 525 dL_law_524 rfl rfl rfl ?_
  refine q_aload_n 0 526 dL_law_525 rfl rfl rfl ?_
  refine q_iload 4 528 dL_law_526 rfl rfl ?_
  refine q_iconst 1 529 dL_law_528 ic_1 rfl ?_
  refine q_iadd 530 dL_law_529 rfl ?_
  refine q_sld (6 * j + 1) 531 hX hbl hbA dL_law_530 (sx_ 1 (by decide) (by decide) hj hL) rfl ?_
  refine q_lm 534 (mm_style (l := l) (q := q) (A := A) hR h6 hf (p0 := (xs (6 * j + 1)))) m_L_132 dL_law_531 rfl rfl rfl rfl rfl (Nat.le_of_ble_eq_true rfl) (by decide) (by omega) (by omega) rfl (fun z hz9 => ?_)
  obtain ⟨ans1, i1, f1, h1⟩ := z
  obtain ⟨g1, g2, g3, g4, g5, g6⟩ := hz9
  dsimp only at g1 g2 g3 g4 g5 g6 ⊢
  refine q_istore 6 536 (L' := [_, _, _, _, _, _, _, _]) dL_law_534 (Nat.le_of_ble_eq_true rfl) rfl rfl ?_
  refine q_aload_n 2 537 dL_law_536 rfl rfl rfl ?_
  refine q_lm 540 mm_thrown m_L_111 dL_law_537 rfl rfl rfl rfl rfl (Nat.le_of_ble_eq_true rfl) (by decide) (by omega) (by omega) rfl (fun _ _ => ?_)
  refine q_iload 5 542 dL_law_540 rfl rfl ?_
  refine q_icmp_eq 547 545 dL_law_542 (by decide) rfl (fun _ => ?_) (fun h9 => absurd g2 h9)
  refine q_iload 5 549 dL_law_547 rfl rfl ?_
  refine q_if_ne 564 552 dL_law_549 (by decide) rfl (fun h0 => ?_) (fun h0 => ?_)
  · skip
    refine q_goto 1766 dL_law_564 (by decide) ?_
    exact kk of1 i1 _ _ _ f1 h1 _ T1 K1 N1 _ _ _ _ _ (by rw [g3, g5]; exact hR1) g4 g6 (by omega) (by omega)
  · skip
    have ea := ha1 h0
    have eb := g1 h0
    have hc9 : lg_cmp (of1 0) ans1.toInt64 = 0 := by rw [ea, eb]; exact lg_rf _
    refine q_aload_n 3 553 dL_law_552 rfl rfl rfl ?_
    refine q_iconst 0 554 dL_law_553 ic_0 rfl ?_
    refine q_lald 0 0 555 dL_law_554 rfl ⟨by decide, by decide, by decide⟩ rfl ?_
    refine q_iload 6 557 dL_law_555 rfl rfl ?_
    refine q_i2l 558 dL_law_557 rfl ?_
    refine q_lcmp 559 dL_law_558 rfl ?_
    refine q_if_eq 564 562 dL_law_559 (by decide) rfl (fun _ => ?_) (fun h9 => absurd hc9 h9)
    refine q_goto 1766 dL_law_564 (by decide) ?_
    exact kk of1 i1 _ _ _ f1 h1 _ T1 K1 N1 _ _ _ _ _ (by rw [g3, g5]; exact hR1) g4 g6 (by omega) (by omega)
theorem lc_score {l : Launch} {g : Gh} {tb : List ExceptionTableEntry} {nm : String} {rc rs : Nat} {post : Pst} {px : Pxc} {a : Act} {ad A : Nat → Nat} {q o b L9 : Nat} {xs : Nat → Int32} {of : Nat → Int64} {i m kp tp : Sc} {f : Nat → Sc} {h : Nat → Nat → Int64} {e : Nat} {T : va_W} {K N j k n : Nat} {z5 z6 z7 : Option Value} (hX : va_X b L9 xs a.s a.s.heap) (hbl : b < a.s.heap.size) (hbA : ¬ a.A b) (hj : 6 * j + 5 < L9) (hL : L9 ≤ 384) (hR : Rel g ad m kp tp (i 3) e (i 10) T K N) (h6 : i 6 = nI e) (hf : f01 i) (hrc : k + (KM9 - K + 32) ≤ rc) (hrs : n + (NM9 - N + 2000) ≤ rs) (kk : lwK l g tb nm rc rs post px a ad A q o b j K N k n) : WPs l g (mtL_law tb nm) 2048 rc rs post px a 567 [some (.ref b), some (.ref (ad 0)), some (.ref q), some (.ref o), some (.int (nI (6 * j))), z5, z6, z7] [] (((o, aJ g 1 of) :: mW g q A i m kp tp f h) ++ T) k n := by
  refine q_aload_n 1 568 dL_law_567 rfl rfl rfl ?_
  refine q_aload_n 0 569 dL_law_568 rfl rfl rfl ?_
  refine q_iload 4 571 dL_law_569 rfl rfl ?_
  refine q_iconst 1 572 dL_law_571 ic_1 rfl ?_
  refine q_iadd 573 dL_law_572 rfl ?_
  refine q_sld (6 * j + 1) 574 hX hbl hbA dL_law_573 (sx_ 1 (by decide) (by decide) hj hL) rfl ?_
  refine q_aload_n 0 575 dL_law_574 rfl rfl rfl ?_
  refine q_iload 4 577 dL_law_575 rfl rfl ?_
  refine q_iconst 2 578 dL_law_577 ic_2 rfl ?_
  refine q_iadd 579 dL_law_578 rfl ?_
  refine q_sld (6 * j + 2) 580 hX hbl hbA dL_law_579 (sx_ 2 (by decide) (by decide) hj hL) rfl ?_
  refine q_aload_n 0 581 dL_law_580 rfl rfl rfl ?_
  refine q_iload 4 583 dL_law_581 rfl rfl ?_
  refine q_iconst 3 584 dL_law_583 ic_3 rfl ?_
  refine q_iadd 585 dL_law_584 rfl ?_
  refine q_sld (6 * j + 3) 586 hX hbl hbA dL_law_585 (sx_ 3 (by decide) (by decide) hj hL) rfl ?_
  refine q_lc 589 (cl_score (l := l) hR (p0 := (xs (6 * j + 1))) (p1 := (xs (6 * j + 2))) (p2 := (xs (6 * j + 3))) (o := o) (of := of)) m_L_133 dL_law_586 rfl rfl (Nat.le_of_ble_eq_true rfl) (by decide) hrc hrs rfl (fun of1 T1 k1 n1 ha1 hP1 => ?_)
  obtain ⟨K1, N1, hR1, hk1, hn1⟩ := hP1
  have hl1 := hR1.le
  have hl0 := hR.le
  refine q_istore 5 591 (L' := [_, _, _, _, _, _, _, _]) dL_law_589 (Nat.le_of_ble_eq_true rfl) rfl rfl ?_
  refine q_aload_n 2 592 dL_law_591 rfl rfl rfl ?_
  refine q_aload_n 0 593 dL_law_592 rfl rfl rfl ?_
  refine q_iload 4 595 dL_law_593 rfl rfl ?_
  refine q_iconst 1 596 dL_law_595 ic_1 rfl ?_
  refine q_iadd 597 dL_law_596 rfl ?_
  refine q_sld (6 * j + 1) 598 hX hbl hbA dL_law_597 (sx_ 1 (by decide) (by decide) hj hL) rfl ?_
  refine q_aload_n 0 599 dL_law_598 rfl rfl rfl ?_
  refine q_iload 4 601 dL_law_599 rfl rfl ?_
  refine q_iconst 2 602 dL_law_601 ic_2 rfl ?_
  refine q_iadd 603 dL_law_602 rfl ?_
  refine q_sld (6 * j + 2) 604 hX hbl hbA dL_law_603 (sx_ 2 (by decide) (by decide) hj hL) rfl ?_
  refine q_aload_n 0 605 dL_law_604 rfl rfl rfl ?_
  refine q_iload 4 607 dL_law_605 rfl rfl ?_
  refine q_iconst 3 608 dL_law_607 ic_3 rfl ?_
  refine q_iadd 609 dL_law_608 rfl ?_
  refine q_sld (6 * j + 3) 610 hX hbl hbA dL_law_609 (sx_ 3 (by decide) (by decide) hj hL) rfl ?_
  refine q_lm 613 (mm_score (l := l) (q := q) (A := A) hR h6 hf (p0 := (xs (6 * j + 1))) (p1 := (xs (6 * j + 2))) (p2 := (xs (6 * j + 3)))) m_L_136 dL_law_610 rfl rfl rfl rfl rfl (Nat.le_of_ble_eq_true rfl) (by decide) (by omega) (by omega) rfl (fun z hz9 => ?_)
  obtain ⟨ans1, i1, f1, h1⟩ := z
  obtain ⟨g1, g2, g3, g4, g5, g6⟩ := hz9
  dsimp only at g1 g2 g3 g4 g5 g6 ⊢
  refine q_aload_n 2 614 dL_law_613 rfl rfl rfl ?_
  refine q_lm 617 mm_thrown m_L_111 dL_law_614 rfl rfl rfl rfl rfl (Nat.le_of_ble_eq_true rfl) (by decide) (by omega) (by omega) rfl (fun _ _ => ?_)
  refine q_iload 5 619 dL_law_617 rfl rfl ?_
  refine q_icmp_eq 624 622 dL_law_619 (by decide) rfl (fun _ => ?_) (fun h9 => absurd g2 h9)
  refine q_goto 1766 dL_law_624 (by decide) ?_
  exact kk of1 i1 _ _ _ f1 h1 _ T1 K1 N1 _ _ _ _ _ (by rw [g3, g5]; exact hR1) g4 g6 (by omega) (by omega)
theorem lc_games {l : Launch} {g : Gh} {tb : List ExceptionTableEntry} {nm : String} {rc rs : Nat} {post : Pst} {px : Pxc} {a : Act} {ad A : Nat → Nat} {q o b L9 : Nat} {xs : Nat → Int32} {of : Nat → Int64} {i m kp tp : Sc} {f : Nat → Sc} {h : Nat → Nat → Int64} {e : Nat} {T : va_W} {K N j k n : Nat} {z5 z6 z7 : Option Value} (hX : va_X b L9 xs a.s a.s.heap) (hbl : b < a.s.heap.size) (hbA : ¬ a.A b) (hj : 6 * j + 5 < L9) (hL : L9 ≤ 384) (hR : Rel g ad m kp tp (i 3) e (i 10) T K N) (h6 : i 6 = nI e) (hf : f01 i) (hrc : k + (KM9 - K + 32) ≤ rc) (hrs : n + (NM9 - N + 2000) ≤ rs) (kk : lwK l g tb nm rc rs post px a ad A q o b j K N k n) : WPs l g (mtL_law tb nm) 2048 rc rs post px a 627 [some (.ref b), some (.ref (ad 0)), some (.ref q), some (.ref o), some (.int (nI (6 * j))), z5, z6, z7] [] (((o, aJ g 1 of) :: mW g q A i m kp tp f h) ++ T) k n := by
  refine q_aload_n 1 628 dL_law_627 rfl rfl rfl ?_
  refine q_aload_n 0 629 dL_law_628 rfl rfl rfl ?_
  refine q_iload 4 631 dL_law_629 rfl rfl ?_
  refine q_iconst 1 632 dL_law_631 ic_1 rfl ?_
  refine q_iadd 633 dL_law_632 rfl ?_
  refine q_sld (6 * j + 1) 634 hX hbl hbA dL_law_633 (sx_ 1 (by decide) (by decide) hj hL) rfl ?_
  refine q_aload_n 0 635 dL_law_634 rfl rfl rfl ?_
  refine q_iload 4 637 dL_law_635 rfl rfl ?_
  refine q_iconst 2 638 dL_law_637 ic_2 rfl ?_
  refine q_iadd 639 dL_law_638 rfl ?_
  refine q_sld (6 * j + 2) 640 hX hbl hbA dL_law_639 (sx_ 2 (by decide) (by decide) hj hL) rfl ?_
  refine q_lc 643 (cl_games (l := l) hR (p0 := (xs (6 * j + 1))) (p1 := (xs (6 * j + 2))) (o := o) (of := of)) m_L_137 dL_law_640 rfl rfl (Nat.le_of_ble_eq_true rfl) (by decide) hrc hrs rfl (fun of1 T1 k1 n1 ha1 hP1 => ?_)
  obtain ⟨K1, N1, hR1, hk1, hn1⟩ := hP1
  have hl1 := hR1.le
  have hl0 := hR.le
  refine q_istore 5 645 (L' := [_, _, _, _, _, _, _, _]) dL_law_643 (Nat.le_of_ble_eq_true rfl) rfl rfl ?_
  refine q_aload_n 2 646 dL_law_645 rfl rfl rfl ?_
  refine q_aload_n 0 647 dL_law_646 rfl rfl rfl ?_
  refine q_iload 4 649 dL_law_647 rfl rfl ?_
  refine q_iconst 1 650 dL_law_649 ic_1 rfl ?_
  refine q_iadd 651 dL_law_650 rfl ?_
  refine q_sld (6 * j + 1) 652 hX hbl hbA dL_law_651 (sx_ 1 (by decide) (by decide) hj hL) rfl ?_
  refine q_aload_n 0 653 dL_law_652 rfl rfl rfl ?_
  refine q_iload 4 655 dL_law_653 rfl rfl ?_
  refine q_iconst 2 656 dL_law_655 ic_2 rfl ?_
  refine q_iadd 657 dL_law_656 rfl ?_
  refine q_sld (6 * j + 2) 658 hX hbl hbA dL_law_657 (sx_ 2 (by decide) (by decide) hj hL) rfl ?_
  refine q_lm 661 (mm_games (l := l) (q := q) (A := A) hR h6 hf (p0 := (xs (6 * j + 1))) (p1 := (xs (6 * j + 2)))) m_L_140 dL_law_658 rfl rfl rfl rfl rfl (Nat.le_of_ble_eq_true rfl) (by decide) (by omega) (by omega) rfl (fun z hz9 => ?_)
  obtain ⟨ans1, i1, f1, h1⟩ := z
  obtain ⟨g1, g2, g3, g4, g5, g6⟩ := hz9
  dsimp only at g1 g2 g3 g4 g5 g6 ⊢
  refine q_aload_n 2 662 dL_law_661 rfl rfl rfl ?_
  refine q_lm 665 mm_thrown m_L_111 dL_law_662 rfl rfl rfl rfl rfl (Nat.le_of_ble_eq_true rfl) (by decide) (by omega) (by omega) rfl (fun _ _ => ?_)
  refine q_iload 5 667 dL_law_665 rfl rfl ?_
  refine q_icmp_eq 672 670 dL_law_667 (by decide) rfl (fun _ => ?_) (fun h9 => absurd g2 h9)
  refine q_goto 1766 dL_law_672 (by decide) ?_
  exact kk of1 i1 _ _ _ f1 h1 _ T1 K1 N1 _ _ _ _ _ (by rw [g3, g5]; exact hR1) g4 g6 (by omega) (by omega)
theorem lc_begin {l : Launch} {g : Gh} {tb : List ExceptionTableEntry} {nm : String} {rc rs : Nat} {post : Pst} {px : Pxc} {a : Act} {ad A : Nat → Nat} {q o b L9 : Nat} {xs : Nat → Int32} {of : Nat → Int64} {i m kp tp : Sc} {f : Nat → Sc} {h : Nat → Nat → Int64} {e : Nat} {T : va_W} {K N j k n : Nat} {z5 z6 z7 : Option Value} (hX : va_X b L9 xs a.s a.s.heap) (hbl : b < a.s.heap.size) (hbA : ¬ a.A b) (hj : 6 * j + 5 < L9) (hL : L9 ≤ 384) (hR : Rel g ad m kp tp (i 3) e (i 10) T K N) (h6 : i 6 = nI e) (hf : f01 i) (hrc : k + (KM9 - K + 32) ≤ rc) (hrs : n + (NM9 - N + 2000) ≤ rs) (kk : lwK l g tb nm rc rs post px a ad A q o b j K N k n) : WPs l g (mtL_law tb nm) 2048 rc rs post px a 675 [some (.ref b), some (.ref (ad 0)), some (.ref q), some (.ref o), some (.int (nI (6 * j))), z5, z6, z7] [] (((o, aJ g 1 of) :: mW g q A i m kp tp f h) ++ T) k n := by
  refine q_aload_n 1 676 dL_law_675 rfl rfl rfl ?_
  refine q_aload_n 0 677 dL_law_676 rfl rfl rfl ?_
  refine q_iload 4 679 dL_law_677 rfl rfl ?_
  refine q_iconst 1 680 dL_law_679 ic_1 rfl ?_
  refine q_iadd 681 dL_law_680 rfl ?_
  refine q_sld (6 * j + 1) 682 hX hbl hbA dL_law_681 (sx_ 1 (by decide) (by decide) hj hL) rfl ?_
  refine q_aload_n 0 683 dL_law_682 rfl rfl rfl ?_
  refine q_iload 4 685 dL_law_683 rfl rfl ?_
  refine q_iconst 2 686 dL_law_685 ic_2 rfl ?_
  refine q_iadd 687 dL_law_686 rfl ?_
  refine q_sld (6 * j + 2) 688 hX hbl hbA dL_law_687 (sx_ 2 (by decide) (by decide) hj hL) rfl ?_
  refine q_lc 691 (cl_begin (l := l) hR (p0 := (xs (6 * j + 1))) (p1 := (xs (6 * j + 2))) (o := o) (of := of)) m_L_141 dL_law_688 rfl rfl (Nat.le_of_ble_eq_true rfl) (by decide) hrc hrs rfl (fun of1 T1 k1 n1 ha1 hP1 => ?_)
  obtain ⟨K1, N1, hR1, hk1, hn1⟩ := hP1
  have hl1 := hR1.le
  have hl0 := hR.le
  refine q_istore 5 693 (L' := [_, _, _, _, _, _, _, _]) dL_law_691 (Nat.le_of_ble_eq_true rfl) rfl rfl ?_
  refine q_aload_n 2 694 dL_law_693 rfl rfl rfl ?_
  refine q_aload_n 0 695 dL_law_694 rfl rfl rfl ?_
  refine q_iload 4 697 dL_law_695 rfl rfl ?_
  refine q_iconst 1 698 dL_law_697 ic_1 rfl ?_
  refine q_iadd 699 dL_law_698 rfl ?_
  refine q_sld (6 * j + 1) 700 hX hbl hbA dL_law_699 (sx_ 1 (by decide) (by decide) hj hL) rfl ?_
  refine q_aload_n 0 701 dL_law_700 rfl rfl rfl ?_
  refine q_iload 4 703 dL_law_701 rfl rfl ?_
  refine q_iconst 2 704 dL_law_703 ic_2 rfl ?_
  refine q_iadd 705 dL_law_704 rfl ?_
  refine q_sld (6 * j + 2) 706 hX hbl hbA dL_law_705 (sx_ 2 (by decide) (by decide) hj hL) rfl ?_
  refine q_lm 709 (mm_begin (l := l) (q := q) (A := A) hR h6 hf (p0 := (xs (6 * j + 1))) (p1 := (xs (6 * j + 2)))) m_L_143 dL_law_706 rfl rfl rfl rfl rfl (Nat.le_of_ble_eq_true rfl) (by decide) (by omega) (by omega) rfl (fun z hz9 => ?_)
  obtain ⟨ans1, i1, f1, h1⟩ := z
  obtain ⟨g1, g2, g3, g4, g5, g6⟩ := hz9
  dsimp only at g1 g2 g3 g4 g5 g6 ⊢
  refine q_aload_n 2 710 dL_law_709 rfl rfl rfl ?_
  refine q_lm 713 mm_thrown m_L_111 dL_law_710 rfl rfl rfl rfl rfl (Nat.le_of_ble_eq_true rfl) (by decide) (by omega) (by omega) rfl (fun _ _ => ?_)
  refine q_iload 5 715 dL_law_713 rfl rfl ?_
  refine q_icmp_eq 720 718 dL_law_715 (by decide) rfl (fun _ => ?_) (fun h9 => absurd g2 h9)
  refine q_goto 1766 dL_law_720 (by decide) ?_
  exact kk of1 i1 _ _ _ f1 h1 _ T1 K1 N1 _ _ _ _ _ (by rw [g3, g5]; exact hR1) g4 g6 (by omega) (by omega)
theorem lc_stands {l : Launch} {g : Gh} {tb : List ExceptionTableEntry} {nm : String} {rc rs : Nat} {post : Pst} {px : Pxc} {a : Act} {ad A : Nat → Nat} {q o b L9 : Nat} {xs : Nat → Int32} {of : Nat → Int64} {i m kp tp : Sc} {f : Nat → Sc} {h : Nat → Nat → Int64} {e : Nat} {T : va_W} {K N j k n : Nat} {z5 z6 z7 : Option Value} (hX : va_X b L9 xs a.s a.s.heap) (hbl : b < a.s.heap.size) (hbA : ¬ a.A b) (hj : 6 * j + 5 < L9) (hL : L9 ≤ 384) (hR : Rel g ad m kp tp (i 3) e (i 10) T K N) (h6 : i 6 = nI e) (hf : f01 i) (hrc : k + (KM9 - K + 32) ≤ rc) (hrs : n + (NM9 - N + 2000) ≤ rs) (kk : lwK l g tb nm rc rs post px a ad A q o b j K N k n) : WPs l g (mtL_law tb nm) 2048 rc rs post px a 723 [some (.ref b), some (.ref (ad 0)), some (.ref q), some (.ref o), some (.int (nI (6 * j))), z5, z6, z7] [] (((o, aJ g 1 of) :: mW g q A i m kp tp f h) ++ T) k n := by
  refine q_aload_n 1 724 dL_law_723 rfl rfl rfl ?_
  refine q_aload_n 0 725 dL_law_724 rfl rfl rfl ?_
  refine q_iload 4 727 dL_law_725 rfl rfl ?_
  refine q_iconst 1 728 dL_law_727 ic_1 rfl ?_
  refine q_iadd 729 dL_law_728 rfl ?_
  refine q_sld (6 * j + 1) 730 hX hbl hbA dL_law_729 (sx_ 1 (by decide) (by decide) hj hL) rfl ?_
  refine q_aload_n 3 731 dL_law_730 rfl rfl rfl ?_
  refine q_lc 734 (cl_stands (l := l) hR (p0 := (xs (6 * j + 1))) (f 2) (o := o) (of := of)) m_L_144 dL_law_731 rfl rfl (Nat.le_of_ble_eq_true rfl) (by decide) hrc hrs rfl (fun of1 T1 k1 n1 ha1 hP1 => ?_)
  obtain ⟨K1, N1, hR1, hk1, hn1⟩ := hP1
  have hl1 := hR1.le
  have hl0 := hR.le
  refine q_istore 5 736 (L' := [_, _, _, _, _, _, _, _]) dL_law_734 (Nat.le_of_ble_eq_true rfl) rfl rfl ?_
  refine q_aload_n 2 737 dL_law_736 rfl rfl rfl ?_
  refine q_aload_n 0 738 dL_law_737 rfl rfl rfl ?_
  refine q_iload 4 740 dL_law_738 rfl rfl ?_
  refine q_iconst 1 741 dL_law_740 ic_1 rfl ?_
  refine q_iadd 742 dL_law_741 rfl ?_
  refine q_sld (6 * j + 1) 743 hX hbl hbA dL_law_742 (sx_ 1 (by decide) (by decide) hj hL) rfl ?_
  refine q_lm 746 (mm_stands (l := l) (q := q) (A := A) hR h6 hf (p0 := (xs (6 * j + 1)))) m_L_146 dL_law_743 rfl rfl rfl rfl rfl (Nat.le_of_ble_eq_true rfl) (by decide) (by omega) (by omega) rfl (fun z hz9 => ?_)
  obtain ⟨ans1, i1, f1, h1⟩ := z
  obtain ⟨g1, g2, g3, g4, g5, g6⟩ := hz9
  dsimp only at g1 g2 g3 g4 g5 g6 ⊢
  refine q_istore 6 748 (L' := [_, _, _, _, _, _, _, _]) dL_law_746 (Nat.le_of_ble_eq_true rfl) rfl rfl ?_
  refine q_aload_n 2 749 dL_law_748 rfl rfl rfl ?_
  refine q_lm 752 mm_thrown m_L_111 dL_law_749 rfl rfl rfl rfl rfl (Nat.le_of_ble_eq_true rfl) (by decide) (by omega) (by omega) rfl (fun _ _ => ?_)
  refine q_iload 5 754 dL_law_752 rfl rfl ?_
  refine q_icmp_eq 759 757 dL_law_754 (by decide) rfl (fun _ => ?_) (fun h9 => absurd g2 h9)
  refine q_iload 5 761 dL_law_759 rfl rfl ?_
  refine q_if_ne 776 764 dL_law_761 (by decide) rfl (fun h0 => ?_) (fun h0 => ?_)
  · skip
    refine q_goto 1766 dL_law_776 (by decide) ?_
    exact kk of1 i1 _ _ _ f1 h1 _ T1 K1 N1 _ _ _ _ _ (by rw [g3, g5]; exact hR1) g4 g6 (by omega) (by omega)
  · skip
    have ea := ha1 h0
    have eb := g1 h0
    have hc9 : lg_cmp (of1 0) ans1.toInt64 = 0 := by rw [ea, eb]; exact lg_rf _
    refine q_aload_n 3 765 dL_law_764 rfl rfl rfl ?_
    refine q_iconst 0 766 dL_law_765 ic_0 rfl ?_
    refine q_lald 0 0 767 dL_law_766 rfl ⟨by decide, by decide, by decide⟩ rfl ?_
    refine q_iload 6 769 dL_law_767 rfl rfl ?_
    refine q_i2l 770 dL_law_769 rfl ?_
    refine q_lcmp 771 dL_law_770 rfl ?_
    refine q_if_eq 776 774 dL_law_771 (by decide) rfl (fun _ => ?_) (fun h9 => absurd hc9 h9)
    refine q_goto 1766 dL_law_776 (by decide) ?_
    exact kk of1 i1 _ _ _ f1 h1 _ T1 K1 N1 _ _ _ _ _ (by rw [g3, g5]; exact hR1) g4 g6 (by omega) (by omega)
theorem lc_rally {l : Launch} {g : Gh} {tb : List ExceptionTableEntry} {nm : String} {rc rs : Nat} {post : Pst} {px : Pxc} {a : Act} {ad A : Nat → Nat} {q o b L9 : Nat} {xs : Nat → Int32} {of : Nat → Int64} {i m kp tp : Sc} {f : Nat → Sc} {h : Nat → Nat → Int64} {e : Nat} {T : va_W} {K N j k n : Nat} {z5 z6 z7 : Option Value} (hX : va_X b L9 xs a.s a.s.heap) (hbl : b < a.s.heap.size) (hbA : ¬ a.A b) (hj : 6 * j + 5 < L9) (hL : L9 ≤ 384) (hR : Rel g ad m kp tp (i 3) e (i 10) T K N) (h6 : i 6 = nI e) (hf : f01 i) (hrc : k + (KM9 - K + 32) ≤ rc) (hrs : n + (NM9 - N + 2000) ≤ rs) (kk : lwK l g tb nm rc rs post px a ad A q o b j K N k n) : WPs l g (mtL_law tb nm) 2048 rc rs post px a 779 [some (.ref b), some (.ref (ad 0)), some (.ref q), some (.ref o), some (.int (nI (6 * j))), z5, z6, z7] [] (((o, aJ g 1 of) :: mW g q A i m kp tp f h) ++ T) k n := by
  refine q_aload_n 1 780 dL_law_779 rfl rfl rfl ?_
  refine q_aload_n 0 781 dL_law_780 rfl rfl rfl ?_
  refine q_iload 4 783 dL_law_781 rfl rfl ?_
  refine q_iconst 1 784 dL_law_783 ic_1 rfl ?_
  refine q_iadd 785 dL_law_784 rfl ?_
  refine q_sld (6 * j + 1) 786 hX hbl hbA dL_law_785 (sx_ 1 (by decide) (by decide) hj hL) rfl ?_
  refine q_aload_n 0 787 dL_law_786 rfl rfl rfl ?_
  refine q_iload 4 789 dL_law_787 rfl rfl ?_
  refine q_iconst 2 790 dL_law_789 ic_2 rfl ?_
  refine q_iadd 791 dL_law_790 rfl ?_
  refine q_sld (6 * j + 2) 792 hX hbl hbA dL_law_791 (sx_ 2 (by decide) (by decide) hj hL) rfl ?_
  refine q_aload_n 3 793 dL_law_792 rfl rfl rfl ?_
  refine q_lc 796 (cl_rally (l := l) hR (p0 := (xs (6 * j + 1))) (p1 := (xs (6 * j + 2))) (f 2) (o := o) (of := of)) m_L_147 dL_law_793 rfl rfl (Nat.le_of_ble_eq_true rfl) (by decide) hrc hrs rfl (fun of1 T1 k1 n1 ha1 hP1 => ?_)
  obtain ⟨K1, N1, hR1, hk1, hn1⟩ := hP1
  have hl1 := hR1.le
  have hl0 := hR.le
  refine q_istore 5 798 (L' := [_, _, _, _, _, _, _, _]) dL_law_796 (Nat.le_of_ble_eq_true rfl) rfl rfl ?_
  refine q_aload_n 2 799 dL_law_798 rfl rfl rfl ?_
  refine q_aload_n 0 800 dL_law_799 rfl rfl rfl ?_
  refine q_iload 4 802 dL_law_800 rfl rfl ?_
  refine q_iconst 1 803 dL_law_802 ic_1 rfl ?_
  refine q_iadd 804 dL_law_803 rfl ?_
  refine q_sld (6 * j + 1) 805 hX hbl hbA dL_law_804 (sx_ 1 (by decide) (by decide) hj hL) rfl ?_
  refine q_aload_n 0 806 dL_law_805 rfl rfl rfl ?_
  refine q_iload 4 808 dL_law_806 rfl rfl ?_
  refine q_iconst 2 809 dL_law_808 ic_2 rfl ?_
  refine q_iadd 810 dL_law_809 rfl ?_
  refine q_sld (6 * j + 2) 811 hX hbl hbA dL_law_810 (sx_ 2 (by decide) (by decide) hj hL) rfl ?_
  refine q_lm 814 (mm_rally (l := l) (q := q) (A := A) hR h6 hf (p0 := (xs (6 * j + 1))) (p1 := (xs (6 * j + 2)))) m_L_149 dL_law_811 rfl rfl rfl rfl rfl (Nat.le_of_ble_eq_true rfl) (by decide) (by omega) (by omega) rfl (fun z hz9 => ?_)
  obtain ⟨ans1, i1, f1, h1⟩ := z
  obtain ⟨g1, g2, g3, g4, g5, g6⟩ := hz9
  dsimp only at g1 g2 g3 g4 g5 g6 ⊢
  refine q_istore 6 816 (L' := [_, _, _, _, _, _, _, _]) dL_law_814 (Nat.le_of_ble_eq_true rfl) rfl rfl ?_
  refine q_aload_n 2 817 dL_law_816 rfl rfl rfl ?_
  refine q_lm 820 mm_thrown m_L_111 dL_law_817 rfl rfl rfl rfl rfl (Nat.le_of_ble_eq_true rfl) (by decide) (by omega) (by omega) rfl (fun _ _ => ?_)
  refine q_iload 5 822 dL_law_820 rfl rfl ?_
  refine q_icmp_eq 827 825 dL_law_822 (by decide) rfl (fun _ => ?_) (fun h9 => absurd g2 h9)
  refine q_iload 5 829 dL_law_827 rfl rfl ?_
  refine q_if_ne 844 832 dL_law_829 (by decide) rfl (fun h0 => ?_) (fun h0 => ?_)
  · skip
    refine q_goto 1766 dL_law_844 (by decide) ?_
    exact kk of1 i1 _ _ _ f1 h1 _ T1 K1 N1 _ _ _ _ _ (by rw [g3, g5]; exact hR1) g4 g6 (by omega) (by omega)
  · skip
    have ea := ha1 h0
    have eb := g1 h0
    have hc9 : lg_cmp (of1 0) ans1.toInt64 = 0 := by rw [ea, eb]; exact lg_rf _
    refine q_aload_n 3 833 dL_law_832 rfl rfl rfl ?_
    refine q_iconst 0 834 dL_law_833 ic_0 rfl ?_
    refine q_lald 0 0 835 dL_law_834 rfl ⟨by decide, by decide, by decide⟩ rfl ?_
    refine q_iload 6 837 dL_law_835 rfl rfl ?_
    refine q_i2l 838 dL_law_837 rfl ?_
    refine q_lcmp 839 dL_law_838 rfl ?_
    refine q_if_eq 844 842 dL_law_839 (by decide) rfl (fun _ => ?_) (fun h9 => absurd hc9 h9)
    refine q_goto 1766 dL_law_844 (by decide) ?_
    exact kk of1 i1 _ _ _ f1 h1 _ T1 K1 N1 _ _ _ _ _ (by rw [g3, g5]; exact hR1) g4 g6 (by omega) (by omega)
theorem lc_bisque {l : Launch} {g : Gh} {tb : List ExceptionTableEntry} {nm : String} {rc rs : Nat} {post : Pst} {px : Pxc} {a : Act} {ad A : Nat → Nat} {q o b L9 : Nat} {xs : Nat → Int32} {of : Nat → Int64} {i m kp tp : Sc} {f : Nat → Sc} {h : Nat → Nat → Int64} {e : Nat} {T : va_W} {K N j k n : Nat} {z5 z6 z7 : Option Value} (hX : va_X b L9 xs a.s a.s.heap) (hbl : b < a.s.heap.size) (hbA : ¬ a.A b) (hj : 6 * j + 5 < L9) (hL : L9 ≤ 384) (hR : Rel g ad m kp tp (i 3) e (i 10) T K N) (h6 : i 6 = nI e) (hf : f01 i) (hrc : k + (KM9 - K + 32) ≤ rc) (hrs : n + (NM9 - N + 2000) ≤ rs) (kk : lwK l g tb nm rc rs post px a ad A q o b j K N k n) : WPs l g (mtL_law tb nm) 2048 rc rs post px a 847 [some (.ref b), some (.ref (ad 0)), some (.ref q), some (.ref o), some (.int (nI (6 * j))), z5, z6, z7] [] (((o, aJ g 1 of) :: mW g q A i m kp tp f h) ++ T) k n := by
  refine q_aload_n 1 848 dL_law_847 rfl rfl rfl ?_
  refine q_aload_n 0 849 dL_law_848 rfl rfl rfl ?_
  refine q_iload 4 851 dL_law_849 rfl rfl ?_
  refine q_iconst 1 852 dL_law_851 ic_1 rfl ?_
  refine q_iadd 853 dL_law_852 rfl ?_
  refine q_sld (6 * j + 1) 854 hX hbl hbA dL_law_853 (sx_ 1 (by decide) (by decide) hj hL) rfl ?_
  refine q_aload_n 3 855 dL_law_854 rfl rfl rfl ?_
  refine q_lc 858 (cl_bisque (l := l) hR (p0 := (xs (6 * j + 1))) (f 2) (o := o) (of := of)) m_L_150 dL_law_855 rfl rfl (Nat.le_of_ble_eq_true rfl) (by decide) hrc hrs rfl (fun of1 T1 k1 n1 ha1 hP1 => ?_)
  obtain ⟨K1, N1, hR1, hk1, hn1⟩ := hP1
  have hl1 := hR1.le
  have hl0 := hR.le
  refine q_istore 5 860 (L' := [_, _, _, _, _, _, _, _]) dL_law_858 (Nat.le_of_ble_eq_true rfl) rfl rfl ?_
  refine q_aload_n 2 861 dL_law_860 rfl rfl rfl ?_
  refine q_aload_n 0 862 dL_law_861 rfl rfl rfl ?_
  refine q_iload 4 864 dL_law_862 rfl rfl ?_
  refine q_iconst 1 865 dL_law_864 ic_1 rfl ?_
  refine q_iadd 866 dL_law_865 rfl ?_
  refine q_sld (6 * j + 1) 867 hX hbl hbA dL_law_866 (sx_ 1 (by decide) (by decide) hj hL) rfl ?_
  refine q_lm 870 (mm_bisque (l := l) (q := q) (A := A) hR h6 hf (p0 := (xs (6 * j + 1)))) m_L_152 dL_law_867 rfl rfl rfl rfl rfl (Nat.le_of_ble_eq_true rfl) (by decide) (by omega) (by omega) rfl (fun z hz9 => ?_)
  obtain ⟨ans1, i1, f1, h1⟩ := z
  obtain ⟨g1, g2, g3, g4, g5, g6⟩ := hz9
  dsimp only at g1 g2 g3 g4 g5 g6 ⊢
  refine q_istore 6 872 (L' := [_, _, _, _, _, _, _, _]) dL_law_870 (Nat.le_of_ble_eq_true rfl) rfl rfl ?_
  refine q_aload_n 2 873 dL_law_872 rfl rfl rfl ?_
  refine q_lm 876 mm_thrown m_L_111 dL_law_873 rfl rfl rfl rfl rfl (Nat.le_of_ble_eq_true rfl) (by decide) (by omega) (by omega) rfl (fun _ _ => ?_)
  refine q_iload 5 878 dL_law_876 rfl rfl ?_
  refine q_icmp_eq 883 881 dL_law_878 (by decide) rfl (fun _ => ?_) (fun h9 => absurd g2 h9)
  refine q_iload 5 885 dL_law_883 rfl rfl ?_
  refine q_if_ne 907 888 dL_law_885 (by decide) rfl (fun h0 => ?_) (fun h0 => ?_)
  · skip
    refine q_goto 1766 dL_law_907 (by decide) ?_
    exact kk of1 i1 _ _ _ f1 h1 _ T1 K1 N1 _ _ _ _ _ (by rw [g3, g5]; exact hR1) g4 g6 (by omega) (by omega)
  · skip
    have ea := ha1 h0
    have eb := g1 h0
    by_cases hw0 : ans1 = 0
    · have hc9 : lg_cmp (of1 0) 0 = 0 := by rw [ea, ← eb, if_pos hw0]; exact lg_rf _
      refine q_aload_n 3 889 dL_law_888 rfl rfl rfl ?_
      refine q_iconst 0 890 dL_law_889 ic_0 rfl ?_
      refine q_lald 0 0 891 dL_law_890 rfl ⟨by decide, by decide, by decide⟩ rfl ?_
      refine q_iload 6 893 dL_law_891 rfl rfl ?_
      refine q_if_eq 900 896 dL_law_893 (by decide) rfl (fun _ => ?_) (fun h9 => absurd hw0 h9)
      refine q_lconst 0 901 dL_law_900 (by decide) rfl ?_
      refine q_lcmp 902 dL_law_901 rfl ?_
      refine q_if_eq 907 905 dL_law_902 (by decide) rfl (fun _ => ?_) (fun h9 => absurd hc9 h9)
      refine q_goto 1766 dL_law_907 (by decide) ?_
      exact kk of1 i1 _ _ _ f1 h1 _ T1 K1 N1 _ _ _ _ _ (by rw [g3, g5]; exact hR1) g4 g6 (by omega) (by omega)
    · have hc9 : lg_cmp (of1 0) 1 = 0 := by rw [ea, ← eb, if_neg hw0]; exact lg_rf _
      refine q_aload_n 3 889 dL_law_888 rfl rfl rfl ?_
      refine q_iconst 0 890 dL_law_889 ic_0 rfl ?_
      refine q_lald 0 0 891 dL_law_890 rfl ⟨by decide, by decide, by decide⟩ rfl ?_
      refine q_iload 6 893 dL_law_891 rfl rfl ?_
      refine q_if_eq 900 896 dL_law_893 (by decide) rfl (fun h9 => absurd h9 hw0) (fun _ => ?_)
      refine q_lconst 1 897 dL_law_896 (by decide) rfl ?_
      refine q_goto 901 dL_law_897 (by decide) ?_
      refine q_lcmp 902 dL_law_901 rfl ?_
      refine q_if_eq 907 905 dL_law_902 (by decide) rfl (fun _ => ?_) (fun h9 => absurd hc9 h9)
      refine q_goto 1766 dL_law_907 (by decide) ?_
      exact kk of1 i1 _ _ _ f1 h1 _ T1 K1 N1 _ _ _ _ _ (by rw [g3, g5]; exact hR1) g4 g6 (by omega) (by omega)
theorem lc_chance {l : Launch} {g : Gh} {tb : List ExceptionTableEntry} {nm : String} {rc rs : Nat} {post : Pst} {px : Pxc} {a : Act} {ad A : Nat → Nat} {q o b L9 : Nat} {xs : Nat → Int32} {of : Nat → Int64} {i m kp tp : Sc} {f : Nat → Sc} {h : Nat → Nat → Int64} {e : Nat} {T : va_W} {K N j k n : Nat} {z5 z6 z7 : Option Value} (hX : va_X b L9 xs a.s a.s.heap) (hbl : b < a.s.heap.size) (hbA : ¬ a.A b) (hj : 6 * j + 5 < L9) (hL : L9 ≤ 384) (hR : Rel g ad m kp tp (i 3) e (i 10) T K N) (h6 : i 6 = nI e) (hf : f01 i) (hrc : k + (KM9 - K + 32) ≤ rc) (hrs : n + (NM9 - N + 2000) ≤ rs) (kk : lwK l g tb nm rc rs post px a ad A q o b j K N k n) : WPs l g (mtL_law tb nm) 2048 rc rs post px a 910 [some (.ref b), some (.ref (ad 0)), some (.ref q), some (.ref o), some (.int (nI (6 * j))), z5, z6, z7] [] (((o, aJ g 1 of) :: mW g q A i m kp tp f h) ++ T) k n := by
  refine q_aload_n 1 911 dL_law_910 rfl rfl rfl ?_
  refine q_aload_n 0 912 dL_law_911 rfl rfl rfl ?_
  refine q_iload 4 914 dL_law_912 rfl rfl ?_
  refine q_iconst 1 915 dL_law_914 ic_1 rfl ?_
  refine q_iadd 916 dL_law_915 rfl ?_
  refine q_sld (6 * j + 1) 917 hX hbl hbA dL_law_916 (sx_ 1 (by decide) (by decide) hj hL) rfl ?_
  refine q_aload_n 0 918 dL_law_917 rfl rfl rfl ?_
  refine q_iload 4 920 dL_law_918 rfl rfl ?_
  refine q_iconst 2 921 dL_law_920 ic_2 rfl ?_
  refine q_iadd 922 dL_law_921 rfl ?_
  refine q_sld (6 * j + 2) 923 hX hbl hbA dL_law_922 (sx_ 2 (by decide) (by decide) hj hL) rfl ?_
  refine q_aload_n 3 924 dL_law_923 rfl rfl rfl ?_
  refine q_lc 927 (cl_chance (l := l) hR (p0 := (xs (6 * j + 1))) (p1 := (xs (6 * j + 2))) (o := o) (of := of)) m_L_153 dL_law_924 rfl rfl (Nat.le_of_ble_eq_true rfl) (by decide) hrc hrs rfl (fun of1 T1 k1 n1 ha1 hP1 => ?_)
  obtain ⟨K1, N1, hR1, hk1, hn1⟩ := hP1
  have hl1 := hR1.le
  have hl0 := hR.le
  refine q_istore 5 929 (L' := [_, _, _, _, _, _, _, _]) dL_law_927 (Nat.le_of_ble_eq_true rfl) rfl rfl ?_
  refine q_aload_n 2 930 dL_law_929 rfl rfl rfl ?_
  refine q_aload_n 0 931 dL_law_930 rfl rfl rfl ?_
  refine q_iload 4 933 dL_law_931 rfl rfl ?_
  refine q_iconst 1 934 dL_law_933 ic_1 rfl ?_
  refine q_iadd 935 dL_law_934 rfl ?_
  refine q_sld (6 * j + 1) 936 hX hbl hbA dL_law_935 (sx_ 1 (by decide) (by decide) hj hL) rfl ?_
  refine q_aload_n 0 937 dL_law_936 rfl rfl rfl ?_
  refine q_iload 4 939 dL_law_937 rfl rfl ?_
  refine q_iconst 2 940 dL_law_939 ic_2 rfl ?_
  refine q_iadd 941 dL_law_940 rfl ?_
  refine q_sld (6 * j + 2) 942 hX hbl hbA dL_law_941 (sx_ 2 (by decide) (by decide) hj hL) rfl ?_
  refine q_lm 945 (mm_chance (l := l) (q := q) (A := A) hR h6 hf (p0 := (xs (6 * j + 1))) (p1 := (xs (6 * j + 2)))) m_L_155 dL_law_942 rfl rfl rfl rfl rfl (Nat.le_of_ble_eq_true rfl) (by decide) (by omega) (by omega) rfl (fun z hz9 => ?_)
  obtain ⟨ans1, i1, f1, h1⟩ := z
  obtain ⟨g1, g2, g3, g4, g5, g6⟩ := hz9
  dsimp only at g1 g2 g3 g4 g5 g6 ⊢
  refine q_istore 6 947 (L' := [_, _, _, _, _, _, _, _]) dL_law_945 (Nat.le_of_ble_eq_true rfl) rfl rfl ?_
  refine q_aload_n 2 948 dL_law_947 rfl rfl rfl ?_
  refine q_lm 951 mm_thrown m_L_111 dL_law_948 rfl rfl rfl rfl rfl (Nat.le_of_ble_eq_true rfl) (by decide) (by omega) (by omega) rfl (fun _ _ => ?_)
  refine q_iload 5 953 dL_law_951 rfl rfl ?_
  refine q_icmp_eq 958 956 dL_law_953 (by decide) rfl (fun _ => ?_) (fun h9 => absurd g2 h9)
  refine q_iload 5 960 dL_law_958 rfl rfl ?_
  refine q_if_ne 975 963 dL_law_960 (by decide) rfl (fun h0 => ?_) (fun h0 => ?_)
  · skip
    refine q_goto 1766 dL_law_975 (by decide) ?_
    exact kk of1 i1 _ _ _ f1 h1 _ T1 K1 N1 _ _ _ _ _ (by rw [g3, g5]; exact hR1) g4 g6 (by omega) (by omega)
  · skip
    have ea := ha1 h0
    have eb := g1 h0
    have hc9 : lg_cmp (of1 0) ans1.toInt64 = 0 := by rw [ea, eb]; exact lg_rf _
    refine q_aload_n 3 964 dL_law_963 rfl rfl rfl ?_
    refine q_iconst 0 965 dL_law_964 ic_0 rfl ?_
    refine q_lald 0 0 966 dL_law_965 rfl ⟨by decide, by decide, by decide⟩ rfl ?_
    refine q_iload 6 968 dL_law_966 rfl rfl ?_
    refine q_i2l 969 dL_law_968 rfl ?_
    refine q_lcmp 970 dL_law_969 rfl ?_
    refine q_if_eq 975 973 dL_law_970 (by decide) rfl (fun _ => ?_) (fun h9 => absurd hc9 h9)
    refine q_goto 1766 dL_law_975 (by decide) ?_
    exact kk of1 i1 _ _ _ f1 h1 _ T1 K1 N1 _ _ _ _ _ (by rw [g3, g5]; exact hR1) g4 g6 (by omega) (by omega)
theorem lc_best {l : Launch} {g : Gh} {tb : List ExceptionTableEntry} {nm : String} {rc rs : Nat} {post : Pst} {px : Pxc} {a : Act} {ad A : Nat → Nat} {q o b L9 : Nat} {xs : Nat → Int32} {of : Nat → Int64} {i m kp tp : Sc} {f : Nat → Sc} {h : Nat → Nat → Int64} {e : Nat} {T : va_W} {K N j k n : Nat} {z5 z6 z7 : Option Value} (hX : va_X b L9 xs a.s a.s.heap) (hbl : b < a.s.heap.size) (hbA : ¬ a.A b) (hj : 6 * j + 5 < L9) (hL : L9 ≤ 384) (hR : Rel g ad m kp tp (i 3) e (i 10) T K N) (h6 : i 6 = nI e) (hf : f01 i) (hrc : k + (KM9 - K + 32) ≤ rc) (hrs : n + (NM9 - N + 2000) ≤ rs) (kk : lwK l g tb nm rc rs post px a ad A q o b j K N k n) : WPs l g (mtL_law tb nm) 2048 rc rs post px a 978 [some (.ref b), some (.ref (ad 0)), some (.ref q), some (.ref o), some (.int (nI (6 * j))), z5, z6, z7] [] (((o, aJ g 1 of) :: mW g q A i m kp tp f h) ++ T) k n := by
  by_cases hz : (xs (6 * j + 3)) = 0
  · refine q_aload_n 1 979 dL_law_978 rfl rfl rfl ?_
    refine q_aload_n 0 980 dL_law_979 rfl rfl rfl ?_
    refine q_iload 4 982 dL_law_980 rfl rfl ?_
    refine q_iconst 1 983 dL_law_982 ic_1 rfl ?_
    refine q_iadd 984 dL_law_983 rfl ?_
    refine q_sld (6 * j + 1) 985 hX hbl hbA dL_law_984 (sx_ 1 (by decide) (by decide) hj hL) rfl ?_
    refine q_aload_n 0 986 dL_law_985 rfl rfl rfl ?_
    refine q_iload 4 988 dL_law_986 rfl rfl ?_
    refine q_iconst 2 989 dL_law_988 ic_2 rfl ?_
    refine q_iadd 990 dL_law_989 rfl ?_
    refine q_sld (6 * j + 2) 991 hX hbl hbA dL_law_990 (sx_ 2 (by decide) (by decide) hj hL) rfl ?_
    refine q_aload_n 0 992 dL_law_991 rfl rfl rfl ?_
    refine q_iload 4 994 dL_law_992 rfl rfl ?_
    refine q_iconst 3 995 dL_law_994 ic_3 rfl ?_
    refine q_iadd 996 dL_law_995 rfl ?_
    refine q_sld (6 * j + 3) 997 hX hbl hbA dL_law_996 (sx_ 3 (by decide) (by decide) hj hL) rfl ?_
    refine q_if_eq 1004 1000 dL_law_997 (by decide) rfl (fun _ => ?_) (fun h9 => absurd hz h9)
    refine q_iconst 0 1005 dL_law_1004 ic_0 rfl ?_
    refine q_aload_n 3 1006 dL_law_1005 rfl rfl rfl ?_
    refine q_lc 1009 (cl_best (l := l) hR (p0 := (xs (6 * j + 1))) (p1 := (xs (6 * j + 2))) (p2 := 0) (o := o) (of := of)) m_L_156 dL_law_1006 rfl rfl (Nat.le_of_ble_eq_true rfl) (by decide) hrc hrs rfl (fun of1 T1 k1 n1 ha1 hP1 => ?_)
    obtain ⟨K1, N1, hR1, hk1, hn1⟩ := hP1
    have hl1 := hR1.le
    have hl0 := hR.le
    refine q_istore 5 1011 (L' := [_, _, _, _, _, _, _, _]) dL_law_1009 (Nat.le_of_ble_eq_true rfl) rfl rfl ?_
    refine q_aload_n 2 1012 dL_law_1011 rfl rfl rfl ?_
    refine q_aload_n 0 1013 dL_law_1012 rfl rfl rfl ?_
    refine q_iload 4 1015 dL_law_1013 rfl rfl ?_
    refine q_iconst 1 1016 dL_law_1015 ic_1 rfl ?_
    refine q_iadd 1017 dL_law_1016 rfl ?_
    refine q_sld (6 * j + 1) 1018 hX hbl hbA dL_law_1017 (sx_ 1 (by decide) (by decide) hj hL) rfl ?_
    refine q_aload_n 0 1019 dL_law_1018 rfl rfl rfl ?_
    refine q_iload 4 1021 dL_law_1019 rfl rfl ?_
    refine q_iconst 2 1022 dL_law_1021 ic_2 rfl ?_
    refine q_iadd 1023 dL_law_1022 rfl ?_
    refine q_sld (6 * j + 2) 1024 hX hbl hbA dL_law_1023 (sx_ 2 (by decide) (by decide) hj hL) rfl ?_
    refine q_aload_n 0 1025 dL_law_1024 rfl rfl rfl ?_
    refine q_iload 4 1027 dL_law_1025 rfl rfl ?_
    refine q_iconst 3 1028 dL_law_1027 ic_3 rfl ?_
    refine q_iadd 1029 dL_law_1028 rfl ?_
    refine q_sld (6 * j + 3) 1030 hX hbl hbA dL_law_1029 (sx_ 3 (by decide) (by decide) hj hL) rfl ?_
    refine q_if_eq 1037 1033 dL_law_1030 (by decide) rfl (fun _ => ?_) (fun h9 => absurd hz h9)
    refine q_iconst 0 1038 dL_law_1037 ic_0 rfl ?_
    refine q_lm 1041 (mm_best (l := l) (q := q) (A := A) hR h6 hf (p0 := (xs (6 * j + 1))) (p1 := (xs (6 * j + 2))) (p2 := 0)) m_L_159 dL_law_1038 rfl rfl rfl rfl rfl (Nat.le_of_ble_eq_true rfl) (by decide) (by omega) (by omega) rfl (fun z hz9 => ?_)
    obtain ⟨ans1, i1, f1, h1⟩ := z
    obtain ⟨g1, g2, g3, g4, g5, g6⟩ := hz9
    dsimp only at g1 g2 g3 g4 g5 g6 ⊢
    refine q_istore 6 1043 (L' := [_, _, _, _, _, _, _, _]) dL_law_1041 (Nat.le_of_ble_eq_true rfl) rfl rfl ?_
    refine q_aload_n 2 1044 dL_law_1043 rfl rfl rfl ?_
    refine q_lm 1047 mm_thrown m_L_111 dL_law_1044 rfl rfl rfl rfl rfl (Nat.le_of_ble_eq_true rfl) (by decide) (by omega) (by omega) rfl (fun _ _ => ?_)
    refine q_iload 5 1049 dL_law_1047 rfl rfl ?_
    refine q_icmp_eq 1054 1052 dL_law_1049 (by decide) rfl (fun _ => ?_) (fun h9 => absurd g2 h9)
    refine q_iload 5 1056 dL_law_1054 rfl rfl ?_
    refine q_if_ne 1071 1059 dL_law_1056 (by decide) rfl (fun h0 => ?_) (fun h0 => ?_)
    · skip
      refine q_goto 1766 dL_law_1071 (by decide) ?_
      exact kk of1 i1 _ _ _ f1 h1 _ T1 K1 N1 _ _ _ _ _ (by rw [g3, g5]; exact hR1) g4 g6 (by omega) (by omega)
    · skip
      have ea := ha1 h0
      have eb := g1 h0
      have hc9 : lg_cmp (of1 0) ans1.toInt64 = 0 := by rw [ea, eb]; exact lg_rf _
      refine q_aload_n 3 1060 dL_law_1059 rfl rfl rfl ?_
      refine q_iconst 0 1061 dL_law_1060 ic_0 rfl ?_
      refine q_lald 0 0 1062 dL_law_1061 rfl ⟨by decide, by decide, by decide⟩ rfl ?_
      refine q_iload 6 1064 dL_law_1062 rfl rfl ?_
      refine q_i2l 1065 dL_law_1064 rfl ?_
      refine q_lcmp 1066 dL_law_1065 rfl ?_
      refine q_if_eq 1071 1069 dL_law_1066 (by decide) rfl (fun _ => ?_) (fun h9 => absurd hc9 h9)
      refine q_goto 1766 dL_law_1071 (by decide) ?_
      exact kk of1 i1 _ _ _ f1 h1 _ T1 K1 N1 _ _ _ _ _ (by rw [g3, g5]; exact hR1) g4 g6 (by omega) (by omega)
  · refine q_aload_n 1 979 dL_law_978 rfl rfl rfl ?_
    refine q_aload_n 0 980 dL_law_979 rfl rfl rfl ?_
    refine q_iload 4 982 dL_law_980 rfl rfl ?_
    refine q_iconst 1 983 dL_law_982 ic_1 rfl ?_
    refine q_iadd 984 dL_law_983 rfl ?_
    refine q_sld (6 * j + 1) 985 hX hbl hbA dL_law_984 (sx_ 1 (by decide) (by decide) hj hL) rfl ?_
    refine q_aload_n 0 986 dL_law_985 rfl rfl rfl ?_
    refine q_iload 4 988 dL_law_986 rfl rfl ?_
    refine q_iconst 2 989 dL_law_988 ic_2 rfl ?_
    refine q_iadd 990 dL_law_989 rfl ?_
    refine q_sld (6 * j + 2) 991 hX hbl hbA dL_law_990 (sx_ 2 (by decide) (by decide) hj hL) rfl ?_
    refine q_aload_n 0 992 dL_law_991 rfl rfl rfl ?_
    refine q_iload 4 994 dL_law_992 rfl rfl ?_
    refine q_iconst 3 995 dL_law_994 ic_3 rfl ?_
    refine q_iadd 996 dL_law_995 rfl ?_
    refine q_sld (6 * j + 3) 997 hX hbl hbA dL_law_996 (sx_ 3 (by decide) (by decide) hj hL) rfl ?_
    refine q_if_eq 1004 1000 dL_law_997 (by decide) rfl (fun h9 => absurd h9 hz) (fun _ => ?_)
    refine q_iconst 1 1001 dL_law_1000 ic_1 rfl ?_
    refine q_goto 1005 dL_law_1001 (by decide) ?_
    refine q_aload_n 3 1006 dL_law_1005 rfl rfl rfl ?_
    refine q_lc 1009 (cl_best (l := l) hR (p0 := (xs (6 * j + 1))) (p1 := (xs (6 * j + 2))) (p2 := 1) (o := o) (of := of)) m_L_156 dL_law_1006 rfl rfl (Nat.le_of_ble_eq_true rfl) (by decide) hrc hrs rfl (fun of1 T1 k1 n1 ha1 hP1 => ?_)
    obtain ⟨K1, N1, hR1, hk1, hn1⟩ := hP1
    have hl1 := hR1.le
    have hl0 := hR.le
    refine q_istore 5 1011 (L' := [_, _, _, _, _, _, _, _]) dL_law_1009 (Nat.le_of_ble_eq_true rfl) rfl rfl ?_
    refine q_aload_n 2 1012 dL_law_1011 rfl rfl rfl ?_
    refine q_aload_n 0 1013 dL_law_1012 rfl rfl rfl ?_
    refine q_iload 4 1015 dL_law_1013 rfl rfl ?_
    refine q_iconst 1 1016 dL_law_1015 ic_1 rfl ?_
    refine q_iadd 1017 dL_law_1016 rfl ?_
    refine q_sld (6 * j + 1) 1018 hX hbl hbA dL_law_1017 (sx_ 1 (by decide) (by decide) hj hL) rfl ?_
    refine q_aload_n 0 1019 dL_law_1018 rfl rfl rfl ?_
    refine q_iload 4 1021 dL_law_1019 rfl rfl ?_
    refine q_iconst 2 1022 dL_law_1021 ic_2 rfl ?_
    refine q_iadd 1023 dL_law_1022 rfl ?_
    refine q_sld (6 * j + 2) 1024 hX hbl hbA dL_law_1023 (sx_ 2 (by decide) (by decide) hj hL) rfl ?_
    refine q_aload_n 0 1025 dL_law_1024 rfl rfl rfl ?_
    refine q_iload 4 1027 dL_law_1025 rfl rfl ?_
    refine q_iconst 3 1028 dL_law_1027 ic_3 rfl ?_
    refine q_iadd 1029 dL_law_1028 rfl ?_
    refine q_sld (6 * j + 3) 1030 hX hbl hbA dL_law_1029 (sx_ 3 (by decide) (by decide) hj hL) rfl ?_
    refine q_if_eq 1037 1033 dL_law_1030 (by decide) rfl (fun h9 => absurd h9 hz) (fun _ => ?_)
    refine q_iconst 1 1034 dL_law_1033 ic_1 rfl ?_
    refine q_goto 1038 dL_law_1034 (by decide) ?_
    refine q_lm 1041 (mm_best (l := l) (q := q) (A := A) hR h6 hf (p0 := (xs (6 * j + 1))) (p1 := (xs (6 * j + 2))) (p2 := 1)) m_L_159 dL_law_1038 rfl rfl rfl rfl rfl (Nat.le_of_ble_eq_true rfl) (by decide) (by omega) (by omega) rfl (fun z hz9 => ?_)
    obtain ⟨ans1, i1, f1, h1⟩ := z
    obtain ⟨g1, g2, g3, g4, g5, g6⟩ := hz9
    dsimp only at g1 g2 g3 g4 g5 g6 ⊢
    refine q_istore 6 1043 (L' := [_, _, _, _, _, _, _, _]) dL_law_1041 (Nat.le_of_ble_eq_true rfl) rfl rfl ?_
    refine q_aload_n 2 1044 dL_law_1043 rfl rfl rfl ?_
    refine q_lm 1047 mm_thrown m_L_111 dL_law_1044 rfl rfl rfl rfl rfl (Nat.le_of_ble_eq_true rfl) (by decide) (by omega) (by omega) rfl (fun _ _ => ?_)
    refine q_iload 5 1049 dL_law_1047 rfl rfl ?_
    refine q_icmp_eq 1054 1052 dL_law_1049 (by decide) rfl (fun _ => ?_) (fun h9 => absurd g2 h9)
    refine q_iload 5 1056 dL_law_1054 rfl rfl ?_
    refine q_if_ne 1071 1059 dL_law_1056 (by decide) rfl (fun h0 => ?_) (fun h0 => ?_)
    · skip
      refine q_goto 1766 dL_law_1071 (by decide) ?_
      exact kk of1 i1 _ _ _ f1 h1 _ T1 K1 N1 _ _ _ _ _ (by rw [g3, g5]; exact hR1) g4 g6 (by omega) (by omega)
    · skip
      have ea := ha1 h0
      have eb := g1 h0
      have hc9 : lg_cmp (of1 0) ans1.toInt64 = 0 := by rw [ea, eb]; exact lg_rf _
      refine q_aload_n 3 1060 dL_law_1059 rfl rfl rfl ?_
      refine q_iconst 0 1061 dL_law_1060 ic_0 rfl ?_
      refine q_lald 0 0 1062 dL_law_1061 rfl ⟨by decide, by decide, by decide⟩ rfl ?_
      refine q_iload 6 1064 dL_law_1062 rfl rfl ?_
      refine q_i2l 1065 dL_law_1064 rfl ?_
      refine q_lcmp 1066 dL_law_1065 rfl ?_
      refine q_if_eq 1071 1069 dL_law_1066 (by decide) rfl (fun _ => ?_) (fun h9 => absurd hc9 h9)
      refine q_goto 1766 dL_law_1071 (by decide) ?_
      exact kk of1 i1 _ _ _ f1 h1 _ T1 K1 N1 _ _ _ _ _ (by rw [g3, g5]; exact hR1) g4 g6 (by omega) (by omega)
theorem lc_saves {l : Launch} {g : Gh} {tb : List ExceptionTableEntry} {nm : String} {rc rs : Nat} {post : Pst} {px : Pxc} {a : Act} {ad A : Nat → Nat} {q o b L9 : Nat} {xs : Nat → Int32} {of : Nat → Int64} {i m kp tp : Sc} {f : Nat → Sc} {h : Nat → Nat → Int64} {e : Nat} {T : va_W} {K N j k n : Nat} {z5 z6 z7 : Option Value} (hX : va_X b L9 xs a.s a.s.heap) (hbl : b < a.s.heap.size) (hbA : ¬ a.A b) (hj : 6 * j + 5 < L9) (hL : L9 ≤ 384) (hR : Rel g ad m kp tp (i 3) e (i 10) T K N) (h6 : i 6 = nI e) (hf : f01 i) (hrc : k + (KM9 - K + 32) ≤ rc) (hrs : n + (NM9 - N + 2000) ≤ rs) (kk : lwK l g tb nm rc rs post px a ad A q o b j K N k n) : WPs l g (mtL_law tb nm) 2048 rc rs post px a 1074 [some (.ref b), some (.ref (ad 0)), some (.ref q), some (.ref o), some (.int (nI (6 * j))), z5, z6, z7] [] (((o, aJ g 1 of) :: mW g q A i m kp tp f h) ++ T) k n := by
  refine q_aload_n 1 1075 dL_law_1074 rfl rfl rfl ?_
  refine q_aload_n 0 1076 dL_law_1075 rfl rfl rfl ?_
  refine q_iload 4 1078 dL_law_1076 rfl rfl ?_
  refine q_iconst 1 1079 dL_law_1078 ic_1 rfl ?_
  refine q_iadd 1080 dL_law_1079 rfl ?_
  refine q_sld (6 * j + 1) 1081 hX hbl hbA dL_law_1080 (sx_ 1 (by decide) (by decide) hj hL) rfl ?_
  refine q_aload_n 0 1082 dL_law_1081 rfl rfl rfl ?_
  refine q_iload 4 1084 dL_law_1082 rfl rfl ?_
  refine q_iconst 2 1085 dL_law_1084 ic_2 rfl ?_
  refine q_iadd 1086 dL_law_1085 rfl ?_
  refine q_sld (6 * j + 2) 1087 hX hbl hbA dL_law_1086 (sx_ 2 (by decide) (by decide) hj hL) rfl ?_
  refine q_aload_n 0 1088 dL_law_1087 rfl rfl rfl ?_
  refine q_iload 4 1090 dL_law_1088 rfl rfl ?_
  refine q_iconst 3 1091 dL_law_1090 ic_3 rfl ?_
  refine q_iadd 1092 dL_law_1091 rfl ?_
  refine q_sld (6 * j + 3) 1093 hX hbl hbA dL_law_1092 (sx_ 3 (by decide) (by decide) hj hL) rfl ?_
  refine q_aload_n 3 1094 dL_law_1093 rfl rfl rfl ?_
  refine q_lc 1097 (cl_saves (l := l) hR (p0 := (xs (6 * j + 1))) (p1 := (xs (6 * j + 2))) (p2 := (xs (6 * j + 3))) (o := o) (of := of)) m_L_160 dL_law_1094 rfl rfl (Nat.le_of_ble_eq_true rfl) (by decide) hrc hrs rfl (fun of1 T1 k1 n1 ha1 hP1 => ?_)
  obtain ⟨K1, N1, hR1, hk1, hn1⟩ := hP1
  have hl1 := hR1.le
  have hl0 := hR.le
  refine q_istore 5 1099 (L' := [_, _, _, _, _, _, _, _]) dL_law_1097 (Nat.le_of_ble_eq_true rfl) rfl rfl ?_
  refine q_aload_n 2 1100 dL_law_1099 rfl rfl rfl ?_
  refine q_aload_n 0 1101 dL_law_1100 rfl rfl rfl ?_
  refine q_iload 4 1103 dL_law_1101 rfl rfl ?_
  refine q_iconst 1 1104 dL_law_1103 ic_1 rfl ?_
  refine q_iadd 1105 dL_law_1104 rfl ?_
  refine q_sld (6 * j + 1) 1106 hX hbl hbA dL_law_1105 (sx_ 1 (by decide) (by decide) hj hL) rfl ?_
  refine q_aload_n 0 1107 dL_law_1106 rfl rfl rfl ?_
  refine q_iload 4 1109 dL_law_1107 rfl rfl ?_
  refine q_iconst 2 1110 dL_law_1109 ic_2 rfl ?_
  refine q_iadd 1111 dL_law_1110 rfl ?_
  refine q_sld (6 * j + 2) 1112 hX hbl hbA dL_law_1111 (sx_ 2 (by decide) (by decide) hj hL) rfl ?_
  refine q_aload_n 0 1113 dL_law_1112 rfl rfl rfl ?_
  refine q_iload 4 1115 dL_law_1113 rfl rfl ?_
  refine q_iconst 3 1116 dL_law_1115 ic_3 rfl ?_
  refine q_iadd 1117 dL_law_1116 rfl ?_
  refine q_sld (6 * j + 3) 1118 hX hbl hbA dL_law_1117 (sx_ 3 (by decide) (by decide) hj hL) rfl ?_
  refine q_lm 1121 (mm_saves (l := l) (q := q) (A := A) hR h6 hf (p0 := (xs (6 * j + 1))) (p1 := (xs (6 * j + 2))) (p2 := (xs (6 * j + 3)))) m_L_162 dL_law_1118 rfl rfl rfl rfl rfl (Nat.le_of_ble_eq_true rfl) (by decide) (by omega) (by omega) rfl (fun z hz9 => ?_)
  obtain ⟨ans1, i1, f1, h1⟩ := z
  obtain ⟨g1, g2, g3, g4, g5, g6⟩ := hz9
  dsimp only at g1 g2 g3 g4 g5 g6 ⊢
  refine q_istore 6 1123 (L' := [_, _, _, _, _, _, _, _]) dL_law_1121 (Nat.le_of_ble_eq_true rfl) rfl rfl ?_
  refine q_aload_n 2 1124 dL_law_1123 rfl rfl rfl ?_
  refine q_lm 1127 mm_thrown m_L_111 dL_law_1124 rfl rfl rfl rfl rfl (Nat.le_of_ble_eq_true rfl) (by decide) (by omega) (by omega) rfl (fun _ _ => ?_)
  refine q_iload 5 1129 dL_law_1127 rfl rfl ?_
  refine q_icmp_eq 1134 1132 dL_law_1129 (by decide) rfl (fun _ => ?_) (fun h9 => absurd g2 h9)
  refine q_iload 5 1136 dL_law_1134 rfl rfl ?_
  refine q_if_ne 1151 1139 dL_law_1136 (by decide) rfl (fun h0 => ?_) (fun h0 => ?_)
  · skip
    refine q_goto 1766 dL_law_1151 (by decide) ?_
    exact kk of1 i1 _ _ _ f1 h1 _ T1 K1 N1 _ _ _ _ _ (by rw [g3, g5]; exact hR1) g4 g6 (by omega) (by omega)
  · skip
    have ea := ha1 h0
    have eb := g1 h0
    have hc9 : lg_cmp (of1 0) ans1.toInt64 = 0 := by rw [ea, eb]; exact lg_rf _
    refine q_aload_n 3 1140 dL_law_1139 rfl rfl rfl ?_
    refine q_iconst 0 1141 dL_law_1140 ic_0 rfl ?_
    refine q_lald 0 0 1142 dL_law_1141 rfl ⟨by decide, by decide, by decide⟩ rfl ?_
    refine q_iload 6 1144 dL_law_1142 rfl rfl ?_
    refine q_i2l 1145 dL_law_1144 rfl ?_
    refine q_lcmp 1146 dL_law_1145 rfl ?_
    refine q_if_eq 1151 1149 dL_law_1146 (by decide) rfl (fun _ => ?_) (fun h9 => absurd hc9 h9)
    refine q_goto 1766 dL_law_1151 (by decide) ?_
    exact kk of1 i1 _ _ _ f1 h1 _ T1 K1 N1 _ _ _ _ _ (by rw [g3, g5]; exact hR1) g4 g6 (by omega) (by omega)
theorem lc_worth {l : Launch} {g : Gh} {tb : List ExceptionTableEntry} {nm : String} {rc rs : Nat} {post : Pst} {px : Pxc} {a : Act} {ad A : Nat → Nat} {q o b L9 : Nat} {xs : Nat → Int32} {of : Nat → Int64} {i m kp tp : Sc} {f : Nat → Sc} {h : Nat → Nat → Int64} {e : Nat} {T : va_W} {K N j k n : Nat} {z5 z6 z7 : Option Value} (hX : va_X b L9 xs a.s a.s.heap) (hbl : b < a.s.heap.size) (hbA : ¬ a.A b) (hj : 6 * j + 5 < L9) (hL : L9 ≤ 384) (hR : Rel g ad m kp tp (i 3) e (i 10) T K N) (h6 : i 6 = nI e) (hf : f01 i) (hrc : k + (KM9 - K + 32) ≤ rc) (hrs : n + (NM9 - N + 2000) ≤ rs) (kk : lwK l g tb nm rc rs post px a ad A q o b j K N k n) : WPs l g (mtL_law tb nm) 2048 rc rs post px a 1154 [some (.ref b), some (.ref (ad 0)), some (.ref q), some (.ref o), some (.int (nI (6 * j))), z5, z6, z7] [] (((o, aJ g 1 of) :: mW g q A i m kp tp f h) ++ T) k n := by
  refine q_aload_n 1 1155 dL_law_1154 rfl rfl rfl ?_
  refine q_aload_n 0 1156 dL_law_1155 rfl rfl rfl ?_
  refine q_iload 4 1158 dL_law_1156 rfl rfl ?_
  refine q_iconst 1 1159 dL_law_1158 ic_1 rfl ?_
  refine q_iadd 1160 dL_law_1159 rfl ?_
  refine q_sld (6 * j + 1) 1161 hX hbl hbA dL_law_1160 (sx_ 1 (by decide) (by decide) hj hL) rfl ?_
  refine q_aload_n 0 1162 dL_law_1161 rfl rfl rfl ?_
  refine q_iload 4 1164 dL_law_1162 rfl rfl ?_
  refine q_iconst 2 1165 dL_law_1164 ic_2 rfl ?_
  refine q_iadd 1166 dL_law_1165 rfl ?_
  refine q_sld (6 * j + 2) 1167 hX hbl hbA dL_law_1166 (sx_ 2 (by decide) (by decide) hj hL) rfl ?_
  refine q_aload_n 0 1168 dL_law_1167 rfl rfl rfl ?_
  refine q_iload 4 1170 dL_law_1168 rfl rfl ?_
  refine q_iconst 3 1171 dL_law_1170 ic_3 rfl ?_
  refine q_iadd 1172 dL_law_1171 rfl ?_
  refine q_sld (6 * j + 3) 1173 hX hbl hbA dL_law_1172 (sx_ 3 (by decide) (by decide) hj hL) rfl ?_
  refine q_aload_n 3 1174 dL_law_1173 rfl rfl rfl ?_
  refine q_lc 1177 (cl_worth (l := l) hR (p0 := (xs (6 * j + 1))) (p1 := (xs (6 * j + 2))) (p2 := (xs (6 * j + 3))) (o := o) (of := of)) m_L_163 dL_law_1174 rfl rfl (Nat.le_of_ble_eq_true rfl) (by decide) hrc hrs rfl (fun of1 T1 k1 n1 ha1 hP1 => ?_)
  obtain ⟨K1, N1, hR1, hk1, hn1⟩ := hP1
  have hl1 := hR1.le
  have hl0 := hR.le
  refine q_istore 5 1179 (L' := [_, _, _, _, _, _, _, _]) dL_law_1177 (Nat.le_of_ble_eq_true rfl) rfl rfl ?_
  refine q_aload_n 2 1180 dL_law_1179 rfl rfl rfl ?_
  refine q_aload_n 0 1181 dL_law_1180 rfl rfl rfl ?_
  refine q_iload 4 1183 dL_law_1181 rfl rfl ?_
  refine q_iconst 1 1184 dL_law_1183 ic_1 rfl ?_
  refine q_iadd 1185 dL_law_1184 rfl ?_
  refine q_sld (6 * j + 1) 1186 hX hbl hbA dL_law_1185 (sx_ 1 (by decide) (by decide) hj hL) rfl ?_
  refine q_aload_n 0 1187 dL_law_1186 rfl rfl rfl ?_
  refine q_iload 4 1189 dL_law_1187 rfl rfl ?_
  refine q_iconst 2 1190 dL_law_1189 ic_2 rfl ?_
  refine q_iadd 1191 dL_law_1190 rfl ?_
  refine q_sld (6 * j + 2) 1192 hX hbl hbA dL_law_1191 (sx_ 2 (by decide) (by decide) hj hL) rfl ?_
  refine q_aload_n 0 1193 dL_law_1192 rfl rfl rfl ?_
  refine q_iload 4 1195 dL_law_1193 rfl rfl ?_
  refine q_iconst 3 1196 dL_law_1195 ic_3 rfl ?_
  refine q_iadd 1197 dL_law_1196 rfl ?_
  refine q_sld (6 * j + 3) 1198 hX hbl hbA dL_law_1197 (sx_ 3 (by decide) (by decide) hj hL) rfl ?_
  refine q_lm 1201 (mm_worth (l := l) (q := q) (A := A) hR h6 hf (p0 := (xs (6 * j + 1))) (p1 := (xs (6 * j + 2))) (p2 := (xs (6 * j + 3)))) m_L_165 dL_law_1198 rfl rfl rfl rfl rfl (Nat.le_of_ble_eq_true rfl) (by decide) (by omega) (by omega) rfl (fun z hz9 => ?_)
  obtain ⟨ans1, i1, f1, h1⟩ := z
  obtain ⟨g1, g2, g3, g4, g5, g6⟩ := hz9
  dsimp only at g1 g2 g3 g4 g5 g6 ⊢
  refine q_istore 6 1203 (L' := [_, _, _, _, _, _, _, _]) dL_law_1201 (Nat.le_of_ble_eq_true rfl) rfl rfl ?_
  refine q_aload_n 2 1204 dL_law_1203 rfl rfl rfl ?_
  refine q_lm 1207 mm_thrown m_L_111 dL_law_1204 rfl rfl rfl rfl rfl (Nat.le_of_ble_eq_true rfl) (by decide) (by omega) (by omega) rfl (fun _ _ => ?_)
  refine q_iload 5 1209 dL_law_1207 rfl rfl ?_
  refine q_icmp_eq 1214 1212 dL_law_1209 (by decide) rfl (fun _ => ?_) (fun h9 => absurd g2 h9)
  refine q_iload 5 1216 dL_law_1214 rfl rfl ?_
  refine q_if_ne 1231 1219 dL_law_1216 (by decide) rfl (fun h0 => ?_) (fun h0 => ?_)
  · skip
    refine q_goto 1766 dL_law_1231 (by decide) ?_
    exact kk of1 i1 _ _ _ f1 h1 _ T1 K1 N1 _ _ _ _ _ (by rw [g3, g5]; exact hR1) g4 g6 (by omega) (by omega)
  · skip
    have ea := ha1 h0
    have eb := g1 h0
    have hc9 : lg_cmp (of1 0) ans1.toInt64 = 0 := by rw [ea, eb]; exact lg_rf _
    refine q_aload_n 3 1220 dL_law_1219 rfl rfl rfl ?_
    refine q_iconst 0 1221 dL_law_1220 ic_0 rfl ?_
    refine q_lald 0 0 1222 dL_law_1221 rfl ⟨by decide, by decide, by decide⟩ rfl ?_
    refine q_iload 6 1224 dL_law_1222 rfl rfl ?_
    refine q_i2l 1225 dL_law_1224 rfl ?_
    refine q_lcmp 1226 dL_law_1225 rfl ?_
    refine q_if_eq 1231 1229 dL_law_1226 (by decide) rfl (fun _ => ?_) (fun h9 => absurd hc9 h9)
    refine q_goto 1766 dL_law_1231 (by decide) ?_
    exact kk of1 i1 _ _ _ f1 h1 _ T1 K1 N1 _ _ _ _ _ (by rw [g3, g5]; exact hR1) g4 g6 (by omega) (by omega)
theorem lc_set {l : Launch} {g : Gh} {tb : List ExceptionTableEntry} {nm : String} {rc rs : Nat} {post : Pst} {px : Pxc} {a : Act} {ad A : Nat → Nat} {q o b L9 : Nat} {xs : Nat → Int32} {of : Nat → Int64} {i m kp tp : Sc} {f : Nat → Sc} {h : Nat → Nat → Int64} {e : Nat} {T : va_W} {K N j k n : Nat} {z5 z6 z7 : Option Value} (hX : va_X b L9 xs a.s a.s.heap) (hbl : b < a.s.heap.size) (hbA : ¬ a.A b) (hj : 6 * j + 5 < L9) (hL : L9 ≤ 384) (hR : Rel g ad m kp tp (i 3) e (i 10) T K N) (h6 : i 6 = nI e) (hf : f01 i) (hrc : k + (KM9 - K + 32) ≤ rc) (hrs : n + (NM9 - N + 2000) ≤ rs) (kk : lwK l g tb nm rc rs post px a ad A q o b j K N k n) : WPs l g (mtL_law tb nm) 2048 rc rs post px a 1234 [some (.ref b), some (.ref (ad 0)), some (.ref q), some (.ref o), some (.int (nI (6 * j))), z5, z6, z7] [] (((o, aJ g 1 of) :: mW g q A i m kp tp f h) ++ T) k n := by
  refine q_aload_n 1 1235 dL_law_1234 rfl rfl rfl ?_
  refine q_aload_n 0 1236 dL_law_1235 rfl rfl rfl ?_
  refine q_iload 4 1238 dL_law_1236 rfl rfl ?_
  refine q_iconst 1 1239 dL_law_1238 ic_1 rfl ?_
  refine q_iadd 1240 dL_law_1239 rfl ?_
  refine q_sld (6 * j + 1) 1241 hX hbl hbA dL_law_1240 (sx_ 1 (by decide) (by decide) hj hL) rfl ?_
  refine q_aload_n 0 1242 dL_law_1241 rfl rfl rfl ?_
  refine q_iload 4 1244 dL_law_1242 rfl rfl ?_
  refine q_iconst 2 1245 dL_law_1244 ic_2 rfl ?_
  refine q_iadd 1246 dL_law_1245 rfl ?_
  refine q_sld (6 * j + 2) 1247 hX hbl hbA dL_law_1246 (sx_ 2 (by decide) (by decide) hj hL) rfl ?_
  refine q_aload_n 3 1248 dL_law_1247 rfl rfl rfl ?_
  refine q_lc 1251 (cl_set (l := l) hR (p0 := (xs (6 * j + 1))) (p1 := (xs (6 * j + 2))) (o := o) (of := of)) m_L_166 dL_law_1248 rfl rfl (Nat.le_of_ble_eq_true rfl) (by decide) hrc hrs rfl (fun of1 T1 k1 n1 ha1 hP1 => ?_)
  obtain ⟨K1, N1, hR1, hk1, hn1⟩ := hP1
  have hl1 := hR1.le
  have hl0 := hR.le
  refine q_istore 5 1253 (L' := [_, _, _, _, _, _, _, _]) dL_law_1251 (Nat.le_of_ble_eq_true rfl) rfl rfl ?_
  refine q_aload_n 2 1254 dL_law_1253 rfl rfl rfl ?_
  refine q_aload_n 0 1255 dL_law_1254 rfl rfl rfl ?_
  refine q_iload 4 1257 dL_law_1255 rfl rfl ?_
  refine q_iconst 1 1258 dL_law_1257 ic_1 rfl ?_
  refine q_iadd 1259 dL_law_1258 rfl ?_
  refine q_sld (6 * j + 1) 1260 hX hbl hbA dL_law_1259 (sx_ 1 (by decide) (by decide) hj hL) rfl ?_
  refine q_aload_n 0 1261 dL_law_1260 rfl rfl rfl ?_
  refine q_iload 4 1263 dL_law_1261 rfl rfl ?_
  refine q_iconst 2 1264 dL_law_1263 ic_2 rfl ?_
  refine q_iadd 1265 dL_law_1264 rfl ?_
  refine q_sld (6 * j + 2) 1266 hX hbl hbA dL_law_1265 (sx_ 2 (by decide) (by decide) hj hL) rfl ?_
  refine q_lm 1269 (mm_set (l := l) (q := q) (A := A) hR h6 hf (p0 := (xs (6 * j + 1))) (p1 := (xs (6 * j + 2)))) m_L_168 dL_law_1266 rfl rfl rfl rfl rfl (Nat.le_of_ble_eq_true rfl) (by decide) (by omega) (by omega) rfl (fun z hz9 => ?_)
  obtain ⟨ans1, i1, f1, h1⟩ := z
  obtain ⟨g1, g2, g3, g4, g5, g6⟩ := hz9
  dsimp only at g1 g2 g3 g4 g5 g6 ⊢
  refine q_istore 6 1271 (L' := [_, _, _, _, _, _, _, _]) dL_law_1269 (Nat.le_of_ble_eq_true rfl) rfl rfl ?_
  refine q_aload_n 2 1272 dL_law_1271 rfl rfl rfl ?_
  refine q_lm 1275 mm_thrown m_L_111 dL_law_1272 rfl rfl rfl rfl rfl (Nat.le_of_ble_eq_true rfl) (by decide) (by omega) (by omega) rfl (fun _ _ => ?_)
  refine q_iload 5 1277 dL_law_1275 rfl rfl ?_
  refine q_icmp_eq 1282 1280 dL_law_1277 (by decide) rfl (fun _ => ?_) (fun h9 => absurd g2 h9)
  refine q_iload 5 1284 dL_law_1282 rfl rfl ?_
  refine q_if_ne 1299 1287 dL_law_1284 (by decide) rfl (fun h0 => ?_) (fun h0 => ?_)
  · skip
    refine q_goto 1766 dL_law_1299 (by decide) ?_
    exact kk of1 i1 _ _ _ f1 h1 _ T1 K1 N1 _ _ _ _ _ (by rw [g3, g5]; exact hR1) g4 g6 (by omega) (by omega)
  · skip
    have ea := ha1 h0
    have eb := g1 h0
    have hc9 : lg_cmp (of1 0) ans1.toInt64 = 0 := by rw [ea, eb]; exact lg_rf _
    refine q_aload_n 3 1288 dL_law_1287 rfl rfl rfl ?_
    refine q_iconst 0 1289 dL_law_1288 ic_0 rfl ?_
    refine q_lald 0 0 1290 dL_law_1289 rfl ⟨by decide, by decide, by decide⟩ rfl ?_
    refine q_iload 6 1292 dL_law_1290 rfl rfl ?_
    refine q_i2l 1293 dL_law_1292 rfl ?_
    refine q_lcmp 1294 dL_law_1293 rfl ?_
    refine q_if_eq 1299 1297 dL_law_1294 (by decide) rfl (fun _ => ?_) (fun h9 => absurd hc9 h9)
    refine q_goto 1766 dL_law_1299 (by decide) ?_
    exact kk of1 i1 _ _ _ f1 h1 _ T1 K1 N1 _ _ _ _ _ (by rw [g3, g5]; exact hR1) g4 g6 (by omega) (by omega)
theorem lc_ways {l : Launch} {g : Gh} {tb : List ExceptionTableEntry} {nm : String} {rc rs : Nat} {post : Pst} {px : Pxc} {a : Act} {ad A : Nat → Nat} {q o b L9 : Nat} {xs : Nat → Int32} {of : Nat → Int64} {i m kp tp : Sc} {f : Nat → Sc} {h : Nat → Nat → Int64} {e : Nat} {T : va_W} {K N j k n : Nat} {z5 z6 z7 : Option Value} (hX : va_X b L9 xs a.s a.s.heap) (hbl : b < a.s.heap.size) (hbA : ¬ a.A b) (hj : 6 * j + 5 < L9) (hL : L9 ≤ 384) (hR : Rel g ad m kp tp (i 3) e (i 10) T K N) (h6 : i 6 = nI e) (hf : f01 i) (hrc : k + (KM9 - K + 32) ≤ rc) (hrs : n + (NM9 - N + 2000) ≤ rs) (kk : lwK l g tb nm rc rs post px a ad A q o b j K N k n) : WPs l g (mtL_law tb nm) 2048 rc rs post px a 1302 [some (.ref b), some (.ref (ad 0)), some (.ref q), some (.ref o), some (.int (nI (6 * j))), z5, z6, z7] [] (((o, aJ g 1 of) :: mW g q A i m kp tp f h) ++ T) k n := by
  refine q_aload_n 1 1303 dL_law_1302 rfl rfl rfl ?_
  refine q_aload_n 0 1304 dL_law_1303 rfl rfl rfl ?_
  refine q_iload 4 1306 dL_law_1304 rfl rfl ?_
  refine q_iconst 1 1307 dL_law_1306 ic_1 rfl ?_
  refine q_iadd 1308 dL_law_1307 rfl ?_
  refine q_sld (6 * j + 1) 1309 hX hbl hbA dL_law_1308 (sx_ 1 (by decide) (by decide) hj hL) rfl ?_
  refine q_aload_n 0 1310 dL_law_1309 rfl rfl rfl ?_
  refine q_iload 4 1312 dL_law_1310 rfl rfl ?_
  refine q_iconst 2 1313 dL_law_1312 ic_2 rfl ?_
  refine q_iadd 1314 dL_law_1313 rfl ?_
  refine q_sld (6 * j + 2) 1315 hX hbl hbA dL_law_1314 (sx_ 2 (by decide) (by decide) hj hL) rfl ?_
  refine q_aload_n 0 1316 dL_law_1315 rfl rfl rfl ?_
  refine q_iload 4 1318 dL_law_1316 rfl rfl ?_
  refine q_iconst 3 1319 dL_law_1318 ic_3 rfl ?_
  refine q_iadd 1320 dL_law_1319 rfl ?_
  refine q_sld (6 * j + 3) 1321 hX hbl hbA dL_law_1320 (sx_ 3 (by decide) (by decide) hj hL) rfl ?_
  refine q_aload_n 0 1322 dL_law_1321 rfl rfl rfl ?_
  refine q_iload 4 1324 dL_law_1322 rfl rfl ?_
  refine q_iconst 4 1325 dL_law_1324 ic_4 rfl ?_
  refine q_iadd 1326 dL_law_1325 rfl ?_
  refine q_sld (6 * j + 4) 1327 hX hbl hbA dL_law_1326 (sx_ 4 (by decide) (by decide) hj hL) rfl ?_
  refine q_aload_n 3 1328 dL_law_1327 rfl rfl rfl ?_
  refine q_lc 1331 (cl_ways (l := l) hR (p0 := (xs (6 * j + 1))) (p1 := (xs (6 * j + 2))) (p2 := (xs (6 * j + 3))) (p3 := (xs (6 * j + 4))) (o := o) (of := of)) m_L_169 dL_law_1328 rfl rfl (Nat.le_of_ble_eq_true rfl) (by decide) hrc hrs rfl (fun of1 T1 k1 n1 ha1 hP1 => ?_)
  obtain ⟨K1, N1, hR1, hk1, hn1⟩ := hP1
  have hl1 := hR1.le
  have hl0 := hR.le
  refine q_istore 5 1333 (L' := [_, _, _, _, _, _, _, _]) dL_law_1331 (Nat.le_of_ble_eq_true rfl) rfl rfl ?_
  refine q_aload_n 2 1334 dL_law_1333 rfl rfl rfl ?_
  refine q_aload_n 0 1335 dL_law_1334 rfl rfl rfl ?_
  refine q_iload 4 1337 dL_law_1335 rfl rfl ?_
  refine q_iconst 1 1338 dL_law_1337 ic_1 rfl ?_
  refine q_iadd 1339 dL_law_1338 rfl ?_
  refine q_sld (6 * j + 1) 1340 hX hbl hbA dL_law_1339 (sx_ 1 (by decide) (by decide) hj hL) rfl ?_
  refine q_aload_n 0 1341 dL_law_1340 rfl rfl rfl ?_
  refine q_iload 4 1343 dL_law_1341 rfl rfl ?_
  refine q_iconst 2 1344 dL_law_1343 ic_2 rfl ?_
  refine q_iadd 1345 dL_law_1344 rfl ?_
  refine q_sld (6 * j + 2) 1346 hX hbl hbA dL_law_1345 (sx_ 2 (by decide) (by decide) hj hL) rfl ?_
  refine q_aload_n 0 1347 dL_law_1346 rfl rfl rfl ?_
  refine q_iload 4 1349 dL_law_1347 rfl rfl ?_
  refine q_iconst 3 1350 dL_law_1349 ic_3 rfl ?_
  refine q_iadd 1351 dL_law_1350 rfl ?_
  refine q_sld (6 * j + 3) 1352 hX hbl hbA dL_law_1351 (sx_ 3 (by decide) (by decide) hj hL) rfl ?_
  refine q_aload_n 0 1353 dL_law_1352 rfl rfl rfl ?_
  refine q_iload 4 1355 dL_law_1353 rfl rfl ?_
  refine q_iconst 4 1356 dL_law_1355 ic_4 rfl ?_
  refine q_iadd 1357 dL_law_1356 rfl ?_
  refine q_sld (6 * j + 4) 1358 hX hbl hbA dL_law_1357 (sx_ 4 (by decide) (by decide) hj hL) rfl ?_
  refine q_lm 1361 (mm_ways (l := l) (q := q) (A := A) hR h6 hf (p0 := (xs (6 * j + 1))) (p1 := (xs (6 * j + 2))) (p2 := (xs (6 * j + 3))) (p3 := (xs (6 * j + 4)))) m_L_172 dL_law_1358 rfl rfl rfl rfl rfl (Nat.le_of_ble_eq_true rfl) (by decide) (by omega) (by omega) rfl (fun z hz9 => ?_)
  obtain ⟨ans1, i1, f1, h1⟩ := z
  obtain ⟨g1, g2, g3, g4, g5, g6⟩ := hz9
  dsimp only at g1 g2 g3 g4 g5 g6 ⊢
  refine q_istore 6 1363 (L' := [_, _, _, _, _, _, _, _]) dL_law_1361 (Nat.le_of_ble_eq_true rfl) rfl rfl ?_
  refine q_aload_n 2 1364 dL_law_1363 rfl rfl rfl ?_
  refine q_lm 1367 mm_thrown m_L_111 dL_law_1364 rfl rfl rfl rfl rfl (Nat.le_of_ble_eq_true rfl) (by decide) (by omega) (by omega) rfl (fun _ _ => ?_)
  refine q_iload 5 1369 dL_law_1367 rfl rfl ?_
  refine q_icmp_eq 1374 1372 dL_law_1369 (by decide) rfl (fun _ => ?_) (fun h9 => absurd g2 h9)
  refine q_iload 5 1376 dL_law_1374 rfl rfl ?_
  refine q_if_ne 1391 1379 dL_law_1376 (by decide) rfl (fun h0 => ?_) (fun h0 => ?_)
  · skip
    refine q_goto 1766 dL_law_1391 (by decide) ?_
    exact kk of1 i1 _ _ _ f1 h1 _ T1 K1 N1 _ _ _ _ _ (by rw [g3, g5]; exact hR1) g4 g6 (by omega) (by omega)
  · skip
    have ea := ha1 h0
    have eb := g1 h0
    have hc9 : lg_cmp (of1 0) ans1.toInt64 = 0 := by rw [ea, eb]; exact lg_rf _
    refine q_aload_n 3 1380 dL_law_1379 rfl rfl rfl ?_
    refine q_iconst 0 1381 dL_law_1380 ic_0 rfl ?_
    refine q_lald 0 0 1382 dL_law_1381 rfl ⟨by decide, by decide, by decide⟩ rfl ?_
    refine q_iload 6 1384 dL_law_1382 rfl rfl ?_
    refine q_i2l 1385 dL_law_1384 rfl ?_
    refine q_lcmp 1386 dL_law_1385 rfl ?_
    refine q_if_eq 1391 1389 dL_law_1386 (by decide) rfl (fun _ => ?_) (fun h9 => absurd hc9 h9)
    refine q_goto 1766 dL_law_1391 (by decide) ?_
    exact kk of1 i1 _ _ _ f1 h1 _ T1 K1 N1 _ _ _ _ _ (by rw [g3, g5]; exact hR1) g4 g6 (by omega) (by omega)
theorem lc_even {l : Launch} {g : Gh} {tb : List ExceptionTableEntry} {nm : String} {rc rs : Nat} {post : Pst} {px : Pxc} {a : Act} {ad A : Nat → Nat} {q o b L9 : Nat} {xs : Nat → Int32} {of : Nat → Int64} {i m kp tp : Sc} {f : Nat → Sc} {h : Nat → Nat → Int64} {e : Nat} {T : va_W} {K N j k n : Nat} {z5 z6 z7 : Option Value} (hX : va_X b L9 xs a.s a.s.heap) (hbl : b < a.s.heap.size) (hbA : ¬ a.A b) (hj : 6 * j + 5 < L9) (hL : L9 ≤ 384) (hR : Rel g ad m kp tp (i 3) e (i 10) T K N) (h6 : i 6 = nI e) (hf : f01 i) (hrc : k + (KM9 - K + 32) ≤ rc) (hrs : n + (NM9 - N + 2000) ≤ rs) (kk : lwK l g tb nm rc rs post px a ad A q o b j K N k n) : WPs l g (mtL_law tb nm) 2048 rc rs post px a 1394 [some (.ref b), some (.ref (ad 0)), some (.ref q), some (.ref o), some (.int (nI (6 * j))), z5, z6, z7] [] (((o, aJ g 1 of) :: mW g q A i m kp tp f h) ++ T) k n := by
  refine q_aload_n 1 1395 dL_law_1394 rfl rfl rfl ?_
  refine q_aload_n 0 1396 dL_law_1395 rfl rfl rfl ?_
  refine q_iload 4 1398 dL_law_1396 rfl rfl ?_
  refine q_iconst 1 1399 dL_law_1398 ic_1 rfl ?_
  refine q_iadd 1400 dL_law_1399 rfl ?_
  refine q_sld (6 * j + 1) 1401 hX hbl hbA dL_law_1400 (sx_ 1 (by decide) (by decide) hj hL) rfl ?_
  refine q_aload_n 0 1402 dL_law_1401 rfl rfl rfl ?_
  refine q_iload 4 1404 dL_law_1402 rfl rfl ?_
  refine q_iconst 2 1405 dL_law_1404 ic_2 rfl ?_
  refine q_iadd 1406 dL_law_1405 rfl ?_
  refine q_sld (6 * j + 2) 1407 hX hbl hbA dL_law_1406 (sx_ 2 (by decide) (by decide) hj hL) rfl ?_
  refine q_aload_n 3 1408 dL_law_1407 rfl rfl rfl ?_
  refine q_lc 1411 (cl_even (l := l) hR (p0 := (xs (6 * j + 1))) (p1 := (xs (6 * j + 2))) (o := o) (of := of)) m_L_173 dL_law_1408 rfl rfl (Nat.le_of_ble_eq_true rfl) (by decide) hrc hrs rfl (fun of1 T1 k1 n1 ha1 hP1 => ?_)
  obtain ⟨K1, N1, hR1, hk1, hn1⟩ := hP1
  have hl1 := hR1.le
  have hl0 := hR.le
  refine q_istore 5 1413 (L' := [_, _, _, _, _, _, _, _]) dL_law_1411 (Nat.le_of_ble_eq_true rfl) rfl rfl ?_
  refine q_aload_n 2 1414 dL_law_1413 rfl rfl rfl ?_
  refine q_aload_n 0 1415 dL_law_1414 rfl rfl rfl ?_
  refine q_iload 4 1417 dL_law_1415 rfl rfl ?_
  refine q_iconst 1 1418 dL_law_1417 ic_1 rfl ?_
  refine q_iadd 1419 dL_law_1418 rfl ?_
  refine q_sld (6 * j + 1) 1420 hX hbl hbA dL_law_1419 (sx_ 1 (by decide) (by decide) hj hL) rfl ?_
  refine q_aload_n 0 1421 dL_law_1420 rfl rfl rfl ?_
  refine q_iload 4 1423 dL_law_1421 rfl rfl ?_
  refine q_iconst 2 1424 dL_law_1423 ic_2 rfl ?_
  refine q_iadd 1425 dL_law_1424 rfl ?_
  refine q_sld (6 * j + 2) 1426 hX hbl hbA dL_law_1425 (sx_ 2 (by decide) (by decide) hj hL) rfl ?_
  refine q_lm 1429 (mm_even (l := l) (q := q) (A := A) hR h6 hf (p0 := (xs (6 * j + 1))) (p1 := (xs (6 * j + 2)))) m_L_175 dL_law_1426 rfl rfl rfl rfl rfl (Nat.le_of_ble_eq_true rfl) (by decide) (by omega) (by omega) rfl (fun z hz9 => ?_)
  obtain ⟨ans1, i1, f1, h1⟩ := z
  obtain ⟨g1, g2, g3, g4, g5, g6⟩ := hz9
  dsimp only at g1 g2 g3 g4 g5 g6 ⊢
  refine q_istore 6 1431 (L' := [_, _, _, _, _, _, _, _]) dL_law_1429 (Nat.le_of_ble_eq_true rfl) rfl rfl ?_
  refine q_aload_n 2 1432 dL_law_1431 rfl rfl rfl ?_
  refine q_lm 1435 mm_thrown m_L_111 dL_law_1432 rfl rfl rfl rfl rfl (Nat.le_of_ble_eq_true rfl) (by decide) (by omega) (by omega) rfl (fun _ _ => ?_)
  refine q_iload 5 1437 dL_law_1435 rfl rfl ?_
  refine q_icmp_eq 1442 1440 dL_law_1437 (by decide) rfl (fun _ => ?_) (fun h9 => absurd g2 h9)
  refine q_iload 5 1444 dL_law_1442 rfl rfl ?_
  refine q_if_ne 1459 1447 dL_law_1444 (by decide) rfl (fun h0 => ?_) (fun h0 => ?_)
  · skip
    refine q_goto 1766 dL_law_1459 (by decide) ?_
    exact kk of1 i1 _ _ _ f1 h1 _ T1 K1 N1 _ _ _ _ _ (by rw [g3, g5]; exact hR1) g4 g6 (by omega) (by omega)
  · skip
    have ea := ha1 h0
    have eb := g1 h0
    have hc9 : lg_cmp (of1 0) ans1.toInt64 = 0 := by rw [ea, eb]; exact lg_rf _
    refine q_aload_n 3 1448 dL_law_1447 rfl rfl rfl ?_
    refine q_iconst 0 1449 dL_law_1448 ic_0 rfl ?_
    refine q_lald 0 0 1450 dL_law_1449 rfl ⟨by decide, by decide, by decide⟩ rfl ?_
    refine q_iload 6 1452 dL_law_1450 rfl rfl ?_
    refine q_i2l 1453 dL_law_1452 rfl ?_
    refine q_lcmp 1454 dL_law_1453 rfl ?_
    refine q_if_eq 1459 1457 dL_law_1454 (by decide) rfl (fun _ => ?_) (fun h9 => absurd hc9 h9)
    refine q_goto 1766 dL_law_1459 (by decide) ?_
    exact kk of1 i1 _ _ _ f1 h1 _ T1 K1 N1 _ _ _ _ _ (by rw [g3, g5]; exact hR1) g4 g6 (by omega) (by omega)
theorem lc_log {l : Launch} {g : Gh} {tb : List ExceptionTableEntry} {nm : String} {rc rs : Nat} {post : Pst} {px : Pxc} {a : Act} {ad A : Nat → Nat} {q o b L9 : Nat} {xs : Nat → Int32} {of : Nat → Int64} {i m kp tp : Sc} {f : Nat → Sc} {h : Nat → Nat → Int64} {e : Nat} {T : va_W} {K N j k n : Nat} {z5 z6 z7 : Option Value} (hX : va_X b L9 xs a.s a.s.heap) (hbl : b < a.s.heap.size) (hbA : ¬ a.A b) (hj : 6 * j + 5 < L9) (hL : L9 ≤ 384) (hR : Rel g ad m kp tp (i 3) e (i 10) T K N) (h6 : i 6 = nI e) (hf : f01 i) (hrc : k + (KM9 - K + 32) ≤ rc) (hrs : n + (NM9 - N + 2000) ≤ rs) (kk : lwK l g tb nm rc rs post px a ad A q o b j K N k n) : WPs l g (mtL_law tb nm) 2048 rc rs post px a 1462 [some (.ref b), some (.ref (ad 0)), some (.ref q), some (.ref o), some (.int (nI (6 * j))), z5, z6, z7] [] (((o, aJ g 1 of) :: mW g q A i m kp tp f h) ++ T) k n := by
  refine q_aload_n 1 1463 dL_law_1462 rfl rfl rfl ?_
  refine q_aload_n 0 1464 dL_law_1463 rfl rfl rfl ?_
  refine q_iload 4 1466 dL_law_1464 rfl rfl ?_
  refine q_iconst 1 1467 dL_law_1466 ic_1 rfl ?_
  refine q_iadd 1468 dL_law_1467 rfl ?_
  refine q_sld (6 * j + 1) 1469 hX hbl hbA dL_law_1468 (sx_ 1 (by decide) (by decide) hj hL) rfl ?_
  refine q_aload_n 3 1470 dL_law_1469 rfl rfl rfl ?_
  refine q_lc 1473 (cl_log (l := l) hR (p0 := (xs (6 * j + 1))) (o := o) (of := of)) m_L_176 dL_law_1470 rfl rfl (Nat.le_of_ble_eq_true rfl) (by decide) hrc hrs rfl (fun of1 T1 k1 n1 ha1 hP1 => ?_)
  obtain ⟨K1, N1, hR1, hk1, hn1⟩ := hP1
  have hl1 := hR1.le
  have hl0 := hR.le
  refine q_istore 5 1475 (L' := [_, _, _, _, _, _, _, _]) dL_law_1473 (Nat.le_of_ble_eq_true rfl) rfl rfl ?_
  refine q_aload_n 2 1476 dL_law_1475 rfl rfl rfl ?_
  refine q_aload_n 0 1477 dL_law_1476 rfl rfl rfl ?_
  refine q_iload 4 1479 dL_law_1477 rfl rfl ?_
  refine q_iconst 1 1480 dL_law_1479 ic_1 rfl ?_
  refine q_iadd 1481 dL_law_1480 rfl ?_
  refine q_sld (6 * j + 1) 1482 hX hbl hbA dL_law_1481 (sx_ 1 (by decide) (by decide) hj hL) rfl ?_
  refine q_lm 1485 (mm_log (l := l) (q := q) (A := A) hR h6 hf (p0 := (xs (6 * j + 1)))) m_L_178 dL_law_1482 rfl rfl rfl rfl rfl (Nat.le_of_ble_eq_true rfl) (by decide) (by omega) (by omega) rfl (fun z hz9 => ?_)
  obtain ⟨ans1, i1, f1, h1⟩ := z
  obtain ⟨g1, g2, g3, g4, g5, g6⟩ := hz9
  dsimp only at g1 g2 g3 g4 g5 g6 ⊢
  refine q_istore 6 1487 (L' := [_, _, _, _, _, _, _, _]) dL_law_1485 (Nat.le_of_ble_eq_true rfl) rfl rfl ?_
  refine q_aload_n 2 1488 dL_law_1487 rfl rfl rfl ?_
  refine q_lm 1491 mm_thrown m_L_111 dL_law_1488 rfl rfl rfl rfl rfl (Nat.le_of_ble_eq_true rfl) (by decide) (by omega) (by omega) rfl (fun _ _ => ?_)
  refine q_iload 5 1493 dL_law_1491 rfl rfl ?_
  refine q_icmp_eq 1498 1496 dL_law_1493 (by decide) rfl (fun _ => ?_) (fun h9 => absurd g2 h9)
  refine q_iload 5 1500 dL_law_1498 rfl rfl ?_
  refine q_if_ne 1515 1503 dL_law_1500 (by decide) rfl (fun h0 => ?_) (fun h0 => ?_)
  · skip
    refine q_goto 1766 dL_law_1515 (by decide) ?_
    exact kk of1 i1 _ _ _ f1 h1 _ T1 K1 N1 _ _ _ _ _ (by rw [g3, g5]; exact hR1) g4 g6 (by omega) (by omega)
  · skip
    have ea := ha1 h0
    have eb := g1 h0
    have hc9 : lg_cmp (of1 0) ans1.toInt64 = 0 := by rw [ea, eb]; exact lg_rf _
    refine q_aload_n 3 1504 dL_law_1503 rfl rfl rfl ?_
    refine q_iconst 0 1505 dL_law_1504 ic_0 rfl ?_
    refine q_lald 0 0 1506 dL_law_1505 rfl ⟨by decide, by decide, by decide⟩ rfl ?_
    refine q_iload 6 1508 dL_law_1506 rfl rfl ?_
    refine q_i2l 1509 dL_law_1508 rfl ?_
    refine q_lcmp 1510 dL_law_1509 rfl ?_
    refine q_if_eq 1515 1513 dL_law_1510 (by decide) rfl (fun _ => ?_) (fun h9 => absurd hc9 h9)
    refine q_goto 1766 dL_law_1515 (by decide) ?_
    exact kk of1 i1 _ _ _ f1 h1 _ T1 K1 N1 _ _ _ _ _ (by rw [g3, g5]; exact hR1) g4 g6 (by omega) (by omega)
theorem lc_mends {l : Launch} {g : Gh} {tb : List ExceptionTableEntry} {nm : String} {rc rs : Nat} {post : Pst} {px : Pxc} {a : Act} {ad A : Nat → Nat} {q o b L9 : Nat} {xs : Nat → Int32} {of : Nat → Int64} {i m kp tp : Sc} {f : Nat → Sc} {h : Nat → Nat → Int64} {e : Nat} {T : va_W} {K N j k n : Nat} {z5 z6 z7 : Option Value} (hX : va_X b L9 xs a.s a.s.heap) (hbl : b < a.s.heap.size) (hbA : ¬ a.A b) (hj : 6 * j + 5 < L9) (hL : L9 ≤ 384) (hR : Rel g ad m kp tp (i 3) e (i 10) T K N) (h6 : i 6 = nI e) (hf : f01 i) (hrc : k + (KM9 - K + 32) ≤ rc) (hrs : n + (NM9 - N + 2000) ≤ rs) (kk : lwK l g tb nm rc rs post px a ad A q o b j K N k n) : WPs l g (mtL_law tb nm) 2048 rc rs post px a 1518 [some (.ref b), some (.ref (ad 0)), some (.ref q), some (.ref o), some (.int (nI (6 * j))), z5, z6, z7] [] (((o, aJ g 1 of) :: mW g q A i m kp tp f h) ++ T) k n := by
  by_cases hz : (xs (6 * j + 5)) = 0
  · refine q_aload_n 1 1519 dL_law_1518 rfl rfl rfl ?_
    refine q_aload_n 0 1520 dL_law_1519 rfl rfl rfl ?_
    refine q_iload 4 1522 dL_law_1520 rfl rfl ?_
    refine q_iconst 1 1523 dL_law_1522 ic_1 rfl ?_
    refine q_iadd 1524 dL_law_1523 rfl ?_
    refine q_sld (6 * j + 1) 1525 hX hbl hbA dL_law_1524 (sx_ 1 (by decide) (by decide) hj hL) rfl ?_
    refine q_aload_n 0 1526 dL_law_1525 rfl rfl rfl ?_
    refine q_iload 4 1528 dL_law_1526 rfl rfl ?_
    refine q_iconst 2 1529 dL_law_1528 ic_2 rfl ?_
    refine q_iadd 1530 dL_law_1529 rfl ?_
    refine q_sld (6 * j + 2) 1531 hX hbl hbA dL_law_1530 (sx_ 2 (by decide) (by decide) hj hL) rfl ?_
    refine q_aload_n 0 1532 dL_law_1531 rfl rfl rfl ?_
    refine q_iload 4 1534 dL_law_1532 rfl rfl ?_
    refine q_iconst 3 1535 dL_law_1534 ic_3 rfl ?_
    refine q_iadd 1536 dL_law_1535 rfl ?_
    refine q_sld (6 * j + 3) 1537 hX hbl hbA dL_law_1536 (sx_ 3 (by decide) (by decide) hj hL) rfl ?_
    refine q_aload_n 0 1538 dL_law_1537 rfl rfl rfl ?_
    refine q_iload 4 1540 dL_law_1538 rfl rfl ?_
    refine q_iconst 4 1541 dL_law_1540 ic_4 rfl ?_
    refine q_iadd 1542 dL_law_1541 rfl ?_
    refine q_sld (6 * j + 4) 1543 hX hbl hbA dL_law_1542 (sx_ 4 (by decide) (by decide) hj hL) rfl ?_
    refine q_aload_n 0 1544 dL_law_1543 rfl rfl rfl ?_
    refine q_iload 4 1546 dL_law_1544 rfl rfl ?_
    refine q_iconst 5 1547 dL_law_1546 ic_5 rfl ?_
    refine q_iadd 1548 dL_law_1547 rfl ?_
    refine q_sld (6 * j + 5) 1549 hX hbl hbA dL_law_1548 (sx_ 5 (by decide) (by decide) hj hL) rfl ?_
    refine q_if_eq 1556 1552 dL_law_1549 (by decide) rfl (fun _ => ?_) (fun h9 => absurd hz h9)
    refine q_iconst 0 1557 dL_law_1556 ic_0 rfl ?_
    refine q_aload_n 3 1558 dL_law_1557 rfl rfl rfl ?_
    refine q_lc 1561 (cl_mends (l := l) hR (p0 := (xs (6 * j + 1))) (p1 := (xs (6 * j + 2))) (p2 := (xs (6 * j + 3))) (p3 := (xs (6 * j + 4))) (p4 := 0) (o := o) (of := of)) m_L_179 dL_law_1558 rfl rfl (Nat.le_of_ble_eq_true rfl) (by decide) hrc hrs rfl (fun of1 T1 k1 n1 ha1 hP1 => ?_)
    obtain ⟨K1, N1, hR1, hk1, hn1⟩ := hP1
    have hl1 := hR1.le
    have hl0 := hR.le
    refine q_istore 5 1563 (L' := [_, _, _, _, _, _, _, _]) dL_law_1561 (Nat.le_of_ble_eq_true rfl) rfl rfl ?_
    refine q_aload_n 2 1564 dL_law_1563 rfl rfl rfl ?_
    refine q_aload_n 0 1565 dL_law_1564 rfl rfl rfl ?_
    refine q_iload 4 1567 dL_law_1565 rfl rfl ?_
    refine q_iconst 1 1568 dL_law_1567 ic_1 rfl ?_
    refine q_iadd 1569 dL_law_1568 rfl ?_
    refine q_sld (6 * j + 1) 1570 hX hbl hbA dL_law_1569 (sx_ 1 (by decide) (by decide) hj hL) rfl ?_
    refine q_aload_n 0 1571 dL_law_1570 rfl rfl rfl ?_
    refine q_iload 4 1573 dL_law_1571 rfl rfl ?_
    refine q_iconst 2 1574 dL_law_1573 ic_2 rfl ?_
    refine q_iadd 1575 dL_law_1574 rfl ?_
    refine q_sld (6 * j + 2) 1576 hX hbl hbA dL_law_1575 (sx_ 2 (by decide) (by decide) hj hL) rfl ?_
    refine q_aload_n 0 1577 dL_law_1576 rfl rfl rfl ?_
    refine q_iload 4 1579 dL_law_1577 rfl rfl ?_
    refine q_iconst 3 1580 dL_law_1579 ic_3 rfl ?_
    refine q_iadd 1581 dL_law_1580 rfl ?_
    refine q_sld (6 * j + 3) 1582 hX hbl hbA dL_law_1581 (sx_ 3 (by decide) (by decide) hj hL) rfl ?_
    refine q_aload_n 0 1583 dL_law_1582 rfl rfl rfl ?_
    refine q_iload 4 1585 dL_law_1583 rfl rfl ?_
    refine q_iconst 4 1586 dL_law_1585 ic_4 rfl ?_
    refine q_iadd 1587 dL_law_1586 rfl ?_
    refine q_sld (6 * j + 4) 1588 hX hbl hbA dL_law_1587 (sx_ 4 (by decide) (by decide) hj hL) rfl ?_
    refine q_aload_n 0 1589 dL_law_1588 rfl rfl rfl ?_
    refine q_iload 4 1591 dL_law_1589 rfl rfl ?_
    refine q_iconst 5 1592 dL_law_1591 ic_5 rfl ?_
    refine q_iadd 1593 dL_law_1592 rfl ?_
    refine q_sld (6 * j + 5) 1594 hX hbl hbA dL_law_1593 (sx_ 5 (by decide) (by decide) hj hL) rfl ?_
    refine q_if_eq 1601 1597 dL_law_1594 (by decide) rfl (fun _ => ?_) (fun h9 => absurd hz h9)
    refine q_iconst 0 1602 dL_law_1601 ic_0 rfl ?_
    refine q_lm 1605 (mm_mends (l := l) (q := q) (A := A) hR h6 hf (p0 := (xs (6 * j + 1))) (p1 := (xs (6 * j + 2))) (p2 := (xs (6 * j + 3))) (p3 := (xs (6 * j + 4))) (p4 := 0)) m_L_182 dL_law_1602 rfl rfl rfl rfl rfl (Nat.le_of_ble_eq_true rfl) (by decide) (by omega) (by omega) rfl (fun z hz9 => ?_)
    obtain ⟨ans1, i1, f1, h1⟩ := z
    obtain ⟨g1, g2, g3, g4, g5, g6⟩ := hz9
    dsimp only at g1 g2 g3 g4 g5 g6 ⊢
    refine q_lstore 6 1607 (L' := [_, _, _, _, _, _, _, _]) dL_law_1605 (Nat.le_of_ble_eq_true rfl) rfl rfl ?_
    refine q_aload_n 2 1608 dL_law_1607 rfl rfl rfl ?_
    refine q_lm 1611 mm_thrown m_L_111 dL_law_1608 rfl rfl rfl rfl rfl (Nat.le_of_ble_eq_true rfl) (by decide) (by omega) (by omega) rfl (fun _ _ => ?_)
    refine q_iload 5 1613 dL_law_1611 rfl rfl ?_
    refine q_icmp_eq 1618 1616 dL_law_1613 (by decide) rfl (fun _ => ?_) (fun h9 => absurd g2 h9)
    refine q_iload 5 1620 dL_law_1618 rfl rfl ?_
    refine q_if_ne 1634 1623 dL_law_1620 (by decide) rfl (fun h0 => ?_) (fun h0 => ?_)
    · skip
      refine q_goto 1766 dL_law_1634 (by decide) ?_
      exact kk of1 i1 _ _ _ f1 h1 _ T1 K1 N1 _ _ _ _ _ (by rw [g3, g5]; exact hR1) g4 g6 (by omega) (by omega)
    · skip
      have ea := ha1 h0
      have eb := g1 h0
      have hc9 : lg_cmp (of1 0) ans1 = 0 := by rw [ea, eb]; exact lg_rf _
      refine q_aload_n 3 1624 dL_law_1623 rfl rfl rfl ?_
      refine q_iconst 0 1625 dL_law_1624 ic_0 rfl ?_
      refine q_lald 0 0 1626 dL_law_1625 rfl ⟨by decide, by decide, by decide⟩ rfl ?_
      refine q_lload 6 1628 dL_law_1626 rfl rfl ?_
      refine q_lcmp 1629 dL_law_1628 rfl ?_
      refine q_if_eq 1634 1632 dL_law_1629 (by decide) rfl (fun _ => ?_) (fun h9 => absurd hc9 h9)
      refine q_goto 1766 dL_law_1634 (by decide) ?_
      exact kk of1 i1 _ _ _ f1 h1 _ T1 K1 N1 _ _ _ _ _ (by rw [g3, g5]; exact hR1) g4 g6 (by omega) (by omega)
  · refine q_aload_n 1 1519 dL_law_1518 rfl rfl rfl ?_
    refine q_aload_n 0 1520 dL_law_1519 rfl rfl rfl ?_
    refine q_iload 4 1522 dL_law_1520 rfl rfl ?_
    refine q_iconst 1 1523 dL_law_1522 ic_1 rfl ?_
    refine q_iadd 1524 dL_law_1523 rfl ?_
    refine q_sld (6 * j + 1) 1525 hX hbl hbA dL_law_1524 (sx_ 1 (by decide) (by decide) hj hL) rfl ?_
    refine q_aload_n 0 1526 dL_law_1525 rfl rfl rfl ?_
    refine q_iload 4 1528 dL_law_1526 rfl rfl ?_
    refine q_iconst 2 1529 dL_law_1528 ic_2 rfl ?_
    refine q_iadd 1530 dL_law_1529 rfl ?_
    refine q_sld (6 * j + 2) 1531 hX hbl hbA dL_law_1530 (sx_ 2 (by decide) (by decide) hj hL) rfl ?_
    refine q_aload_n 0 1532 dL_law_1531 rfl rfl rfl ?_
    refine q_iload 4 1534 dL_law_1532 rfl rfl ?_
    refine q_iconst 3 1535 dL_law_1534 ic_3 rfl ?_
    refine q_iadd 1536 dL_law_1535 rfl ?_
    refine q_sld (6 * j + 3) 1537 hX hbl hbA dL_law_1536 (sx_ 3 (by decide) (by decide) hj hL) rfl ?_
    refine q_aload_n 0 1538 dL_law_1537 rfl rfl rfl ?_
    refine q_iload 4 1540 dL_law_1538 rfl rfl ?_
    refine q_iconst 4 1541 dL_law_1540 ic_4 rfl ?_
    refine q_iadd 1542 dL_law_1541 rfl ?_
    refine q_sld (6 * j + 4) 1543 hX hbl hbA dL_law_1542 (sx_ 4 (by decide) (by decide) hj hL) rfl ?_
    refine q_aload_n 0 1544 dL_law_1543 rfl rfl rfl ?_
    refine q_iload 4 1546 dL_law_1544 rfl rfl ?_
    refine q_iconst 5 1547 dL_law_1546 ic_5 rfl ?_
    refine q_iadd 1548 dL_law_1547 rfl ?_
    refine q_sld (6 * j + 5) 1549 hX hbl hbA dL_law_1548 (sx_ 5 (by decide) (by decide) hj hL) rfl ?_
    refine q_if_eq 1556 1552 dL_law_1549 (by decide) rfl (fun h9 => absurd h9 hz) (fun _ => ?_)
    refine q_iconst 1 1553 dL_law_1552 ic_1 rfl ?_
    refine q_goto 1557 dL_law_1553 (by decide) ?_
    refine q_aload_n 3 1558 dL_law_1557 rfl rfl rfl ?_
    refine q_lc 1561 (cl_mends (l := l) hR (p0 := (xs (6 * j + 1))) (p1 := (xs (6 * j + 2))) (p2 := (xs (6 * j + 3))) (p3 := (xs (6 * j + 4))) (p4 := 1) (o := o) (of := of)) m_L_179 dL_law_1558 rfl rfl (Nat.le_of_ble_eq_true rfl) (by decide) hrc hrs rfl (fun of1 T1 k1 n1 ha1 hP1 => ?_)
    obtain ⟨K1, N1, hR1, hk1, hn1⟩ := hP1
    have hl1 := hR1.le
    have hl0 := hR.le
    refine q_istore 5 1563 (L' := [_, _, _, _, _, _, _, _]) dL_law_1561 (Nat.le_of_ble_eq_true rfl) rfl rfl ?_
    refine q_aload_n 2 1564 dL_law_1563 rfl rfl rfl ?_
    refine q_aload_n 0 1565 dL_law_1564 rfl rfl rfl ?_
    refine q_iload 4 1567 dL_law_1565 rfl rfl ?_
    refine q_iconst 1 1568 dL_law_1567 ic_1 rfl ?_
    refine q_iadd 1569 dL_law_1568 rfl ?_
    refine q_sld (6 * j + 1) 1570 hX hbl hbA dL_law_1569 (sx_ 1 (by decide) (by decide) hj hL) rfl ?_
    refine q_aload_n 0 1571 dL_law_1570 rfl rfl rfl ?_
    refine q_iload 4 1573 dL_law_1571 rfl rfl ?_
    refine q_iconst 2 1574 dL_law_1573 ic_2 rfl ?_
    refine q_iadd 1575 dL_law_1574 rfl ?_
    refine q_sld (6 * j + 2) 1576 hX hbl hbA dL_law_1575 (sx_ 2 (by decide) (by decide) hj hL) rfl ?_
    refine q_aload_n 0 1577 dL_law_1576 rfl rfl rfl ?_
    refine q_iload 4 1579 dL_law_1577 rfl rfl ?_
    refine q_iconst 3 1580 dL_law_1579 ic_3 rfl ?_
    refine q_iadd 1581 dL_law_1580 rfl ?_
    refine q_sld (6 * j + 3) 1582 hX hbl hbA dL_law_1581 (sx_ 3 (by decide) (by decide) hj hL) rfl ?_
    refine q_aload_n 0 1583 dL_law_1582 rfl rfl rfl ?_
    refine q_iload 4 1585 dL_law_1583 rfl rfl ?_
    refine q_iconst 4 1586 dL_law_1585 ic_4 rfl ?_
    refine q_iadd 1587 dL_law_1586 rfl ?_
    refine q_sld (6 * j + 4) 1588 hX hbl hbA dL_law_1587 (sx_ 4 (by decide) (by decide) hj hL) rfl ?_
    refine q_aload_n 0 1589 dL_law_1588 rfl rfl rfl ?_
    refine q_iload 4 1591 dL_law_1589 rfl rfl ?_
    refine q_iconst 5 1592 dL_law_1591 ic_5 rfl ?_
    refine q_iadd 1593 dL_law_1592 rfl ?_
    refine q_sld (6 * j + 5) 1594 hX hbl hbA dL_law_1593 (sx_ 5 (by decide) (by decide) hj hL) rfl ?_
    refine q_if_eq 1601 1597 dL_law_1594 (by decide) rfl (fun h9 => absurd h9 hz) (fun _ => ?_)
    refine q_iconst 1 1598 dL_law_1597 ic_1 rfl ?_
    refine q_goto 1602 dL_law_1598 (by decide) ?_
    refine q_lm 1605 (mm_mends (l := l) (q := q) (A := A) hR h6 hf (p0 := (xs (6 * j + 1))) (p1 := (xs (6 * j + 2))) (p2 := (xs (6 * j + 3))) (p3 := (xs (6 * j + 4))) (p4 := 1)) m_L_182 dL_law_1602 rfl rfl rfl rfl rfl (Nat.le_of_ble_eq_true rfl) (by decide) (by omega) (by omega) rfl (fun z hz9 => ?_)
    obtain ⟨ans1, i1, f1, h1⟩ := z
    obtain ⟨g1, g2, g3, g4, g5, g6⟩ := hz9
    dsimp only at g1 g2 g3 g4 g5 g6 ⊢
    refine q_lstore 6 1607 (L' := [_, _, _, _, _, _, _, _]) dL_law_1605 (Nat.le_of_ble_eq_true rfl) rfl rfl ?_
    refine q_aload_n 2 1608 dL_law_1607 rfl rfl rfl ?_
    refine q_lm 1611 mm_thrown m_L_111 dL_law_1608 rfl rfl rfl rfl rfl (Nat.le_of_ble_eq_true rfl) (by decide) (by omega) (by omega) rfl (fun _ _ => ?_)
    refine q_iload 5 1613 dL_law_1611 rfl rfl ?_
    refine q_icmp_eq 1618 1616 dL_law_1613 (by decide) rfl (fun _ => ?_) (fun h9 => absurd g2 h9)
    refine q_iload 5 1620 dL_law_1618 rfl rfl ?_
    refine q_if_ne 1634 1623 dL_law_1620 (by decide) rfl (fun h0 => ?_) (fun h0 => ?_)
    · skip
      refine q_goto 1766 dL_law_1634 (by decide) ?_
      exact kk of1 i1 _ _ _ f1 h1 _ T1 K1 N1 _ _ _ _ _ (by rw [g3, g5]; exact hR1) g4 g6 (by omega) (by omega)
    · skip
      have ea := ha1 h0
      have eb := g1 h0
      have hc9 : lg_cmp (of1 0) ans1 = 0 := by rw [ea, eb]; exact lg_rf _
      refine q_aload_n 3 1624 dL_law_1623 rfl rfl rfl ?_
      refine q_iconst 0 1625 dL_law_1624 ic_0 rfl ?_
      refine q_lald 0 0 1626 dL_law_1625 rfl ⟨by decide, by decide, by decide⟩ rfl ?_
      refine q_lload 6 1628 dL_law_1626 rfl rfl ?_
      refine q_lcmp 1629 dL_law_1628 rfl ?_
      refine q_if_eq 1634 1632 dL_law_1629 (by decide) rfl (fun _ => ?_) (fun h9 => absurd hc9 h9)
      refine q_goto 1766 dL_law_1634 (by decide) ?_
      exact kk of1 i1 _ _ _ f1 h1 _ T1 K1 N1 _ _ _ _ _ (by rw [g3, g5]; exact hR1) g4 g6 (by omega) (by omega)
theorem lc_play {l : Launch} {g : Gh} {tb : List ExceptionTableEntry} {nm : String} {rc rs : Nat} {post : Pst} {px : Pxc} {a : Act} {ad A : Nat → Nat} {q o b L9 : Nat} {xs : Nat → Int32} {of : Nat → Int64} {i m kp tp : Sc} {f : Nat → Sc} {h : Nat → Nat → Int64} {e : Nat} {T : va_W} {K N j k n : Nat} {z5 z6 z7 : Option Value} (hX : va_X b L9 xs a.s a.s.heap) (hbl : b < a.s.heap.size) (hbA : ¬ a.A b) (hj : 6 * j + 5 < L9) (hL : L9 ≤ 384) (hR : Rel g ad m kp tp (i 3) e (i 10) T K N) (h6 : i 6 = nI e) (hf : f01 i) (hrc : k + (KM9 - K + 32) ≤ rc) (hrs : n + (NM9 - N + 2000) ≤ rs) (kk : lwK l g tb nm rc rs post px a ad A q o b j K N k n) : WPs l g (mtL_law tb nm) 2048 rc rs post px a 1637 [some (.ref b), some (.ref (ad 0)), some (.ref q), some (.ref o), some (.int (nI (6 * j))), z5, z6, z7] [] (((o, aJ g 1 of) :: mW g q A i m kp tp f h) ++ T) k n := by
  refine q_aload_n 1 1638 dL_law_1637 rfl rfl rfl ?_
  refine q_aload_n 0 1639 dL_law_1638 rfl rfl rfl ?_
  refine q_iload 4 1641 dL_law_1639 rfl rfl ?_
  refine q_iconst 1 1642 dL_law_1641 ic_1 rfl ?_
  refine q_iadd 1643 dL_law_1642 rfl ?_
  refine q_sld (6 * j + 1) 1644 hX hbl hbA dL_law_1643 (sx_ 1 (by decide) (by decide) hj hL) rfl ?_
  refine q_aload_n 0 1645 dL_law_1644 rfl rfl rfl ?_
  refine q_iload 4 1647 dL_law_1645 rfl rfl ?_
  refine q_iconst 2 1648 dL_law_1647 ic_2 rfl ?_
  refine q_iadd 1649 dL_law_1648 rfl ?_
  refine q_sld (6 * j + 2) 1650 hX hbl hbA dL_law_1649 (sx_ 2 (by decide) (by decide) hj hL) rfl ?_
  refine q_aload_n 0 1651 dL_law_1650 rfl rfl rfl ?_
  refine q_iload 4 1653 dL_law_1651 rfl rfl ?_
  refine q_iconst 3 1654 dL_law_1653 ic_3 rfl ?_
  refine q_iadd 1655 dL_law_1654 rfl ?_
  refine q_sld (6 * j + 3) 1656 hX hbl hbA dL_law_1655 (sx_ 3 (by decide) (by decide) hj hL) rfl ?_
  refine q_aload_n 3 1657 dL_law_1656 rfl rfl rfl ?_
  refine q_lc 1660 (cl_play (l := l) hR (p0 := (xs (6 * j + 1))) (p1 := (xs (6 * j + 2))) (p2 := (xs (6 * j + 3))) (o := o) (of := of)) m_L_183 dL_law_1657 rfl rfl (Nat.le_of_ble_eq_true rfl) (by decide) hrc hrs rfl (fun of1 T1 k1 n1 ha1 hP1 => ?_)
  obtain ⟨K1, N1, hR1, hk1, hn1⟩ := hP1
  have hl1 := hR1.le
  have hl0 := hR.le
  refine q_istore 5 1662 (L' := [_, _, _, _, _, _, _, _]) dL_law_1660 (Nat.le_of_ble_eq_true rfl) rfl rfl ?_
  refine q_aload_n 2 1663 dL_law_1662 rfl rfl rfl ?_
  refine q_aload_n 0 1664 dL_law_1663 rfl rfl rfl ?_
  refine q_iload 4 1666 dL_law_1664 rfl rfl ?_
  refine q_iconst 1 1667 dL_law_1666 ic_1 rfl ?_
  refine q_iadd 1668 dL_law_1667 rfl ?_
  refine q_sld (6 * j + 1) 1669 hX hbl hbA dL_law_1668 (sx_ 1 (by decide) (by decide) hj hL) rfl ?_
  refine q_aload_n 0 1670 dL_law_1669 rfl rfl rfl ?_
  refine q_iload 4 1672 dL_law_1670 rfl rfl ?_
  refine q_iconst 2 1673 dL_law_1672 ic_2 rfl ?_
  refine q_iadd 1674 dL_law_1673 rfl ?_
  refine q_sld (6 * j + 2) 1675 hX hbl hbA dL_law_1674 (sx_ 2 (by decide) (by decide) hj hL) rfl ?_
  refine q_aload_n 0 1676 dL_law_1675 rfl rfl rfl ?_
  refine q_iload 4 1678 dL_law_1676 rfl rfl ?_
  refine q_iconst 3 1679 dL_law_1678 ic_3 rfl ?_
  refine q_iadd 1680 dL_law_1679 rfl ?_
  refine q_sld (6 * j + 3) 1681 hX hbl hbA dL_law_1680 (sx_ 3 (by decide) (by decide) hj hL) rfl ?_
  refine q_lm 1684 (mm_play (l := l) (q := q) (A := A) hR h6 hf (p0 := (xs (6 * j + 1))) (p1 := (xs (6 * j + 2))) (p2 := (xs (6 * j + 3)))) m_L_185 dL_law_1681 rfl rfl rfl rfl rfl (Nat.le_of_ble_eq_true rfl) (by decide) (by omega) (by omega) rfl (fun z hz9 => ?_)
  obtain ⟨ans1, i1, f1, h1⟩ := z
  obtain ⟨g1, g2, g3, g4, g5, g6⟩ := hz9
  dsimp only at g1 g2 g3 g4 g5 g6 ⊢
  refine q_istore 6 1686 (L' := [_, _, _, _, _, _, _, _]) dL_law_1684 (Nat.le_of_ble_eq_true rfl) rfl rfl ?_
  refine q_aload_n 2 1687 dL_law_1686 rfl rfl rfl ?_
  refine q_lm 1690 mm_thrown m_L_111 dL_law_1687 rfl rfl rfl rfl rfl (Nat.le_of_ble_eq_true rfl) (by decide) (by omega) (by omega) rfl (fun _ _ => ?_)
  refine q_iload 5 1692 dL_law_1690 rfl rfl ?_
  refine q_icmp_eq 1697 1695 dL_law_1692 (by decide) rfl (fun _ => ?_) (fun h9 => absurd g2 h9)
  refine q_iload 5 1699 dL_law_1697 rfl rfl ?_
  refine q_if_ne 1714 1702 dL_law_1699 (by decide) rfl (fun h0 => ?_) (fun h0 => ?_)
  · skip
    refine q_goto 1766 dL_law_1714 (by decide) ?_
    exact kk of1 i1 _ _ _ f1 h1 _ T1 K1 N1 _ _ _ _ _ (by rw [g3, g5]; exact hR1) g4 g6 (by omega) (by omega)
  · skip
    have ea := ha1 h0
    have eb := g1 h0
    have hc9 : lg_cmp (of1 0) ans1.toInt64 = 0 := by rw [ea, eb]; exact lg_rf _
    refine q_aload_n 3 1703 dL_law_1702 rfl rfl rfl ?_
    refine q_iconst 0 1704 dL_law_1703 ic_0 rfl ?_
    refine q_lald 0 0 1705 dL_law_1704 rfl ⟨by decide, by decide, by decide⟩ rfl ?_
    refine q_iload 6 1707 dL_law_1705 rfl rfl ?_
    refine q_i2l 1708 dL_law_1707 rfl ?_
    refine q_lcmp 1709 dL_law_1708 rfl ?_
    refine q_if_eq 1714 1712 dL_law_1709 (by decide) rfl (fun _ => ?_) (fun h9 => absurd hc9 h9)
    refine q_goto 1766 dL_law_1714 (by decide) ?_
    exact kk of1 i1 _ _ _ f1 h1 _ T1 K1 N1 _ _ _ _ _ (by rw [g3, g5]; exact hR1) g4 g6 (by omega) (by omega)
theorem lc_image {l : Launch} {g : Gh} {tb : List ExceptionTableEntry} {nm : String} {rc rs : Nat} {post : Pst} {px : Pxc} {a : Act} {ad A : Nat → Nat} {q o b L9 : Nat} {xs : Nat → Int32} {of : Nat → Int64} {i m kp tp : Sc} {f : Nat → Sc} {h : Nat → Nat → Int64} {e : Nat} {T : va_W} {K N j k n : Nat} {z5 z6 z7 : Option Value} (hX : va_X b L9 xs a.s a.s.heap) (hbl : b < a.s.heap.size) (hbA : ¬ a.A b) (hj : 6 * j + 5 < L9) (hL : L9 ≤ 384) (hR : Rel g ad m kp tp (i 3) e (i 10) T K N) (h6 : i 6 = nI e) (hf : f01 i) (hrc : k + (KM9 - K + 32) ≤ rc) (hrs : n + (NM9 - N + 2000) ≤ rs) (kk : lwK l g tb nm rc rs post px a ad A q o b j K N k n) : WPs l g (mtL_law tb nm) 2048 rc rs post px a 1717 [some (.ref b), some (.ref (ad 0)), some (.ref q), some (.ref o), some (.int (nI (6 * j))), z5, z6, z7] [] (((o, aJ g 1 of) :: mW g q A i m kp tp f h) ++ T) k n := by
  refine q_aload_n 1 1718 dL_law_1717 rfl rfl rfl ?_
  obtain ⟨ic9, r9, hq9⟩ := hR.head
  refine q_lv (RX := _) 1721 (cw_image (l := l) hR) m_L_186 dL_law_1718 rfl rfl hq9 rfl rfl (Nat.le_of_ble_eq_true rfl) (by decide) hrc hrs rfl (fun v T1 k1 n1 hC hP1 => ?_)
  obtain ⟨K1, N1, hR1, hk1, hn1⟩ := hP1
  have hl1 := hR1.le
  have hl0 := hR.le
  subst hC
  refine q_aload_n 2 1722 dL_law_1721 rfl rfl rfl ?_
  refine q_lm 1725 (mm_image (l := l) (q := q) (A := A) hR h6 hf) m_L_189 dL_law_1722 rfl rfl rfl rfl rfl (Nat.le_of_ble_eq_true rfl) (by decide) (by omega) (by omega) rfl (fun z hz9 => ?_)
  obtain ⟨ans1, i1, f1, h1⟩ := z
  obtain ⟨g1, g2, g3, g4, g5, g6⟩ := hz9
  dsimp only at g1 g2 g3 g4 g5 g6 ⊢
  refine q_goto 1766 dL_law_1725 (by decide) ?_
  exact kk of i1 _ _ _ f1 h1 _ T1 K1 N1 _ _ _ _ _ (by rw [g3, g5]; exact hR1) g4 g6 (by omega) (by omega)
theorem lc_back {l : Launch} {g : Gh} {tb : List ExceptionTableEntry} {nm : String} {rc rs : Nat} {post : Pst} {px : Pxc} {a : Act} {ad A : Nat → Nat} {q o b L9 : Nat} {xs : Nat → Int32} {of : Nat → Int64} {i m kp tp : Sc} {f : Nat → Sc} {h : Nat → Nat → Int64} {e : Nat} {T : va_W} {K N j k n : Nat} {z5 z6 z7 : Option Value} (hX : va_X b L9 xs a.s a.s.heap) (hbl : b < a.s.heap.size) (hbA : ¬ a.A b) (hj : 6 * j + 5 < L9) (hL : L9 ≤ 384) (hR : Rel g ad m kp tp (i 3) e (i 10) T K N) (h6 : i 6 = nI e) (hf : f01 i) (hrc : k + (KM9 - K + 32) ≤ rc) (hrs : n + (NM9 - N + 2000) ≤ rs) (kk : lwK l g tb nm rc rs post px a ad A q o b j K N k n) : WPs l g (mtL_law tb nm) 2048 rc rs post px a 1728 [some (.ref b), some (.ref (ad 0)), some (.ref q), some (.ref o), some (.int (nI (6 * j))), z5, z6, z7] [] (((o, aJ g 1 of) :: mW g q A i m kp tp f h) ++ T) k n := by
  refine q_aload_n 1 1729 dL_law_1728 rfl rfl rfl ?_
  obtain ⟨ic9, r9, hq9⟩ := hR.head
  refine q_lv (RX := _) 1732 (cw_back (l := l) hR) m_L_190 dL_law_1729 rfl rfl hq9 rfl rfl (Nat.le_of_ble_eq_true rfl) (by decide) hrc hrs rfl (fun v T1 k1 n1 hC hP1 => ?_)
  obtain ⟨K1, N1, hR1, hk1, hn1⟩ := hP1
  have hl1 := hR1.le
  have hl0 := hR.le
  subst hC
  refine q_aload_n 2 1733 dL_law_1732 rfl rfl rfl ?_
  refine q_lm 1736 (mm_back (l := l) (q := q) (A := A) hR h6 hf) m_L_194 dL_law_1733 rfl rfl rfl rfl rfl (Nat.le_of_ble_eq_true rfl) (by decide) (by omega) (by omega) rfl (fun z hz9 => ?_)
  obtain ⟨ans1, i1, f1, h1⟩ := z
  obtain ⟨g1, g2, g3, g4, g5, g6⟩ := hz9
  dsimp only at g1 g2 g3 g4 g5 g6 ⊢
  refine q_icmp_eq 1766 1739 dL_law_1736 (by decide) rfl (fun _ => ?_) (fun h9 => absurd (g1 rfl).symm h9)
  exact kk of i1 _ _ _ f1 h1 _ T1 K1 N1 _ _ _ _ _ (by rw [g3, g5]; exact hR1) g4 g6 (by omega) (by omega)
theorem lc_count {l : Launch} {g : Gh} {tb : List ExceptionTableEntry} {nm : String} {rc rs : Nat} {post : Pst} {px : Pxc} {a : Act} {ad A : Nat → Nat} {q o b L9 : Nat} {xs : Nat → Int32} {of : Nat → Int64} {i m kp tp : Sc} {f : Nat → Sc} {h : Nat → Nat → Int64} {e : Nat} {T : va_W} {K N j k n : Nat} {z5 z6 z7 : Option Value} (hX : va_X b L9 xs a.s a.s.heap) (hbl : b < a.s.heap.size) (hbA : ¬ a.A b) (hj : 6 * j + 5 < L9) (hL : L9 ≤ 384) (hR : Rel g ad m kp tp (i 3) e (i 10) T K N) (h6 : i 6 = nI e) (hf : f01 i) (hrc : k + (KM9 - K + 32) ≤ rc) (hrs : n + (NM9 - N + 2000) ≤ rs) (kk : lwK l g tb nm rc rs post px a ad A q o b j K N k n) : WPs l g (mtL_law tb nm) 2048 rc rs post px a 1741 [some (.ref b), some (.ref (ad 0)), some (.ref q), some (.ref o), some (.int (nI (6 * j))), z5, z6, z7] [] (((o, aJ g 1 of) :: mW g q A i m kp tp f h) ++ T) k n := by
  refine q_aload_n 1 1742 dL_law_1741 rfl rfl rfl ?_
  refine q_aload_n 0 1743 dL_law_1742 rfl rfl rfl ?_
  refine q_iload 4 1745 dL_law_1743 rfl rfl ?_
  refine q_iconst 1 1746 dL_law_1745 ic_1 rfl ?_
  refine q_iadd 1747 dL_law_1746 rfl ?_
  refine q_sld (6 * j + 1) 1748 hX hbl hbA dL_law_1747 (sx_ 1 (by decide) (by decide) hj hL) rfl ?_
  obtain ⟨ic9, r9, hq9⟩ := hR.head
  refine q_lv (RX := _) 1751 (cw_count (l := l) hR (p0 := (xs (6 * j + 1)))) m_L_195 dL_law_1748 rfl rfl hq9 rfl rfl (Nat.le_of_ble_eq_true rfl) (by decide) hrc hrs rfl (fun v T1 k1 n1 hC hP1 => ?_)
  obtain ⟨K1, N1, hR1, hk1, hn1⟩ := hP1
  have hl1 := hR1.le
  have hl0 := hR.le
  subst hC
  refine q_aload_n 2 1752 dL_law_1751 rfl rfl rfl ?_
  refine q_aload_n 0 1753 dL_law_1752 rfl rfl rfl ?_
  refine q_iload 4 1755 dL_law_1753 rfl rfl ?_
  refine q_iconst 1 1756 dL_law_1755 ic_1 rfl ?_
  refine q_iadd 1757 dL_law_1756 rfl ?_
  refine q_sld (6 * j + 1) 1758 hX hbl hbA dL_law_1757 (sx_ 1 (by decide) (by decide) hj hL) rfl ?_
  refine q_lm 1761 (mm_count (l := l) (q := q) (A := A) hR h6 hf (p0 := (xs (6 * j + 1)))) m_L_198 dL_law_1758 rfl rfl rfl rfl rfl (Nat.le_of_ble_eq_true rfl) (by decide) (by omega) (by omega) rfl (fun z hz9 => ?_)
  obtain ⟨ans1, i1, f1, h1⟩ := z
  obtain ⟨g1, g2, g3, g4, g5, g6⟩ := hz9
  dsimp only at g1 g2 g3 g4 g5 g6 ⊢
  refine q_icmp_eq 1766 1764 dL_law_1761 (by decide) rfl (fun _ => ?_) (fun h9 => absurd (g1 rfl).symm h9)
  exact kk of i1 _ _ _ f1 h1 _ T1 K1 N1 _ _ _ _ _ (by rw [g3, g5]; exact hR1) g4 g6 (by omega) (by omega)

