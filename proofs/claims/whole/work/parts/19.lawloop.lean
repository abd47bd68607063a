/-! ===== the law: a step; the loop ===== -/
set_option maxHeartbeats 4000000 in
set_option maxRecDepth 100000 in
/-- step -/
theorem lc_step {p : Program} {l : Launch} {e : Env} {s : State} {m : MethodId} {below : List Frame} {meth : Method} {c : Code} {b L : Nat} {xs : Nat → Int32} {D : va_G} {cW : ClassId} {h0 hw n : Nat} {q : Nat → Nat} {g : Nat → Option Nat} {m0 : Nat} {a : Nat → Nat} {C : Nat → ClassId} {o : Nat} {cO : ClassId} {sa : Nat} (hE : LE p l s m meth c b L xs D cW n q g C cO sa) {j : Nat} (hj : 1 + 5 * j + 5 ≤ L) (hnx : LN p l e s m below meth c b D cW h0 hw n q g m0 a C o cO j) {dd : Drawn} {H : Heap} {locs : List Loc} {ls : Array Slot} {sp : Nat → Int64} {lo ph : Nat → Int32} {pr bo : Nat → Int64} {mo mo2 : Nat → UInt64} {rf : Int64} {hd gr st nx ch rs th : Int32} {row : Nat → Int64} (hdd : s.drawn.sameBut dd lw_cs) (hP : va_P D vwCl (((cw h0 hw cW n q g sp lo ph pr bo mo rf hd gr st nx) ++ [(o, .inl (cO, 1, .inr (.inl row)))]) ++ mw m0 a C th (nI n) sp lo ph pr bo mo2 rf gr hd st ch rs) H) (hD : va_D (fun z : Nat => s.heap.size ≤ z) (((cw h0 hw cW n q g sp lo ph pr bo mo rf hd gr st nx) ++ [(o, .inl (cO, 1, .inr (.inl row)))]) ++ mw m0 a C th (nI n) sp lo ph pr bo mo2 rf gr hd st ch rs)) (hS : va_S (fun z : Nat => s.heap.size ≤ z) s.heap H locs) (hI : INV n j sp pr bo mo mo2 rf hd st nx ch rs) (hl : lv_has ls 9 [(4, .int (nI (1 + 5 * j))), (0, .ref b), (1, .ref h0), (2, .ref m0), (3, .ref o)]) : W p l e room_1 (s.setDrawn dd) m #[Value.ref b] below meth c H locs (100 + j) (1000 + 6 * j) (lw_Z below #[Value.ref b] s) (F0 m 189 ls []) := by
  obtain ⟨hx, hb, hr, hml, hown, hts0, hX0, hbl, hlocks, hKC0, hKM0, hKO0, hN0, hL, hn, h2, hg, hst, hTA⟩ := hE
  have hj6 : j ≤ 600 := by omega
  have hm1 : (.constantLong RL 27 (4294967295) : Cond) ∈ wsL_law := by decide +kernel
  have hts := dr_words hts0 dd
  have hN := cN_draw (d := dd) hN0
  have hKC : va_K D vwCl [(cW, .object RX0)] (s.setDrawn dd) := hKC0
  have hKM : va_K D vwCl [(C 1, .long), (C 2, .boolean), (C 3, .int), (C 4, .long), (C 5, .long), (C 6, .double)] (s.setDrawn dd) := hKM0
  have hKO : va_K D vwCl [(cO, .long)] (s.setDrawn dd) := hKO0
  have hX : va_X b L xs (s.setDrawn dd) s.heap := hX0
  by_cases hbad : fBad (lg (xs (1 + 5 * j + 1)) (xs (1 + 5 * j + 2))) (lg (xs (1 + 5 * j + 3)) (xs (1 + 5 * j + 4)))
  · skip
    refine lv_aload_n hx hb dL_law_189 rfl (lv_at hl 2 rfl) ?_
    refine lv_aload_n hx hb dL_law_190 rfl (lv_at hl 1 rfl) ?_
    refine lv_iload hx hb dL_law_191 (lv_at hl 0 rfl) ?_
    refine lv_iconst (v := 1) hx hb dL_law_193 (by decide) ?_
    refine lv_iadd hx hb dL_law_194 ?_
    refine va_sld hx hb hX hbl (Nat.not_le.mpr hbl) hS (ix_s (x := 1 + 5 * j) (k := 1) (by omega) hL) dL_law_195 ?_
    refine W.eq (g2 := F0 m 196 ls [.int (xs (1 + 5 * j + 1)), .ref h0]) (congrArg (fun z => F0 m 196 ls (.int (xs z) :: [.ref h0])) (ix_sc (x := 1 + 5 * j) (k := 1) (by omega))) ?_
    refine lv_i2l hx hb dL_law_196 rfl ?_
    refine lv_bipush (v := 32) hx hb dL_law_197 (by decide) ?_
    refine lv_lshl (v := lhi (xs (1 + 5 * j + 1))) hx hb dL_law_199 rfl ?_
    refine lv_aload_n hx hb dL_law_200 rfl (lv_at hl 1 rfl) ?_
    refine lv_iload hx hb dL_law_201 (lv_at hl 0 rfl) ?_
    refine lv_iconst (v := 2) hx hb dL_law_203 (by decide) ?_
    refine lv_iadd hx hb dL_law_204 ?_
    refine va_sld hx hb hX hbl (Nat.not_le.mpr hbl) hS (ix_s (x := 1 + 5 * j) (k := 2) (by omega) hL) dL_law_205 ?_
    refine W.eq (g2 := F0 m 206 ls [.int (xs (1 + 5 * j + 2)), .long (lhi (xs (1 + 5 * j + 1))), .ref h0]) (congrArg (fun z => F0 m 206 ls (.int (xs z) :: [.long (lhi (xs (1 + 5 * j + 1))), .ref h0])) (ix_sc (x := 1 + 5 * j) (k := 2) (by omega))) ?_
    refine lv_i2l hx hb dL_law_206 rfl ?_
    refine lv_ldc2 hx hb hown (hts _ hm1) dL_law_207 ?_
    refine lv_land hx hb dL_law_210 ?_
    refine lv_lor hx hb dL_law_211 ?_
    refine W.eq (g2 := F0 m 212 ls [.long (lg (xs (1 + 5 * j + 1)) (xs (1 + 5 * j + 2))), .ref h0]) rfl ?_
    refine lv_aload_n hx hb dL_law_212 rfl (lv_at hl 1 rfl) ?_
    refine lv_iload hx hb dL_law_213 (lv_at hl 0 rfl) ?_
    refine lv_iconst (v := 3) hx hb dL_law_215 (by decide) ?_
    refine lv_iadd hx hb dL_law_216 ?_
    refine va_sld hx hb hX hbl (Nat.not_le.mpr hbl) hS (ix_s (x := 1 + 5 * j) (k := 3) (by omega) hL) dL_law_217 ?_
    refine W.eq (g2 := F0 m 218 ls [.int (xs (1 + 5 * j + 3)), .long (lg (xs (1 + 5 * j + 1)) (xs (1 + 5 * j + 2))), .ref h0]) (congrArg (fun z => F0 m 218 ls (.int (xs z) :: [.long (lg (xs (1 + 5 * j + 1)) (xs (1 + 5 * j + 2))), .ref h0])) (ix_sc (x := 1 + 5 * j) (k := 3) (by omega))) ?_
    refine lv_i2l hx hb dL_law_218 rfl ?_
    refine lv_bipush (v := 32) hx hb dL_law_219 (by decide) ?_
    refine lv_lshl (v := lhi (xs (1 + 5 * j + 3))) hx hb dL_law_221 rfl ?_
    refine lv_aload_n hx hb dL_law_222 rfl (lv_at hl 1 rfl) ?_
    refine lv_iload hx hb dL_law_223 (lv_at hl 0 rfl) ?_
    refine lv_iconst (v := 4) hx hb dL_law_225 (by decide) ?_
    refine lv_iadd hx hb dL_law_226 ?_
    refine va_sld hx hb hX hbl (Nat.not_le.mpr hbl) hS (ix_s (x := 1 + 5 * j) (k := 4) (by omega) hL) dL_law_227 ?_
    refine W.eq (g2 := F0 m 228 ls [.int (xs (1 + 5 * j + 4)), .long (lhi (xs (1 + 5 * j + 3))), .long (lg (xs (1 + 5 * j + 1)) (xs (1 + 5 * j + 2))), .ref h0]) (congrArg (fun z => F0 m 228 ls (.int (xs z) :: [.long (lhi (xs (1 + 5 * j + 3))), .long (lg (xs (1 + 5 * j + 1)) (xs (1 + 5 * j + 2))), .ref h0])) (ix_sc (x := 1 + 5 * j) (k := 4) (by omega))) ?_
    refine lv_i2l hx hb dL_law_228 rfl ?_
    refine lv_ldc2 hx hb hown (hts _ hm1) dL_law_229 ?_
    refine lv_land hx hb dL_law_232 ?_
    refine lv_lor hx hb dL_law_233 ?_
    refine W.eq (g2 := F0 m 234 ls [.long (lg (xs (1 + 5 * j + 3)) (xs (1 + 5 * j + 4))), .long (lg (xs (1 + 5 * j + 1)) (xs (1 + 5 * j + 2))), .ref h0]) rfl ?_
    have hPx : va_P D vwCl (cw h0 hw cW n q g sp lo ph pr bo mo rf hd gr st nx) _ := w_PL (w_PL hP)
    have hDx : va_D _ (cw h0 hw cW n q g sp lo ph pr bo mo rf hd gr st nx) := w_DL (w_DL hD)
    have hFx := xF hDx hS (fun _ h => h)
    refine va_calliD hdd (va_runV_D (As := [.long (lg (xs (1 + 5 * j + 1)) (xs (1 + 5 * j + 2))), .long (lg (xs (1 + 5 * j + 3)) (xs (1 + 5 * j + 4)))]) (rest := []) ⟨hx, hb, hml, hown, hts⟩ (c1_step l D cW h0 hw n q g sp lo ph pr bo mo rf hd gr st nx hn hg (lg (xs (1 + 5 * j + 1)) (xs (1 + 5 * j + 2))) (lg (xs (1 + 5 * j + 3)) (xs (1 + 5 * j + 4))) _) (cwV 2 hts gL_law_X1_step rfl rfl rfl (by decide +kernel) ⟨Nat.le_of_ble_eq_true rfl, Nat.le_of_ble_eq_true rfl⟩) ⟨xW_blind, va_recv hKC hPx (ci := 1) (q0 := 0) rfl rfl, xW_at hPx hKC hN hDx⟩ rfl rfl hl.1 rfl (lv_room (Nat.le_of_ble_eq_true rfl)) dL_law_234 ⟨by show _ ≤ 667310; omega, by show _ ≤ 7094139; omega⟩) hS (fun z _ h => hFx z h) hFx (fun r u t H1 locs ht hvm hpo hB hz1 hk1 hS d_1 hdd_2 => ?_)
    have hts := dr_words hts0 d_1
    have hN := cN_draw (d := d_1) hN0
    have hKC : va_K D vwCl [(cW, .object RX0)] (s.setDrawn d_1) := hKC0
    have hKM : va_K D vwCl [(C 1, .long), (C 2, .boolean), (C 3, .int), (C 4, .long), (C 5, .long), (C 6, .double)] (s.setDrawn d_1) := hKM0
    have hKO : va_K D vwCl [(cO, .long)] (s.setDrawn d_1) := hKO0
    have hX : va_X b L xs (s.setDrawn d_1) s.heap := hX0
    have hP1 := xB_P hB ht
    obtain ⟨hP, hD⟩ := w_joinLL hP hD hk1 hFx hP1 hB.2
    clear hP1 hB hk1 hz1 ht hvm hFx hPx hDx
    obtain ⟨hq1, hq2⟩ := hpo.1 hbad
    rw [hq1]
    rw [hq2] at hP hD
    dsimp only at hP hD
    replace hP : va_P D vwCl (((cw h0 hw cW n q g sp lo ph pr bo mo rf hd gr st nx) ++ [(o, .inl (cO, 1, .inr (.inl row)))]) ++ mw m0 a C th (nI n) sp lo ph pr bo mo2 rf gr hd st ch rs) H1 := hP
    replace hD : va_D (fun z : Nat => s.heap.size ≤ z) (((cw h0 hw cW n q g sp lo ph pr bo mo rf hd gr st nx) ++ [(o, .inl (cO, 1, .inr (.inl row)))]) ++ mw m0 a C th (nI n) sp lo ph pr bo mo2 rf gr hd st ch rs) := hD
    refine lv_aload_n hx hb dL_law_237 rfl (lv_at hl 3 rfl) ?_
    refine lv_aload_n hx hb dL_law_238 rfl (lv_at hl 1 rfl) ?_
    refine lv_iload hx hb dL_law_239 (lv_at hl 0 rfl) ?_
    refine lv_iconst (v := 1) hx hb dL_law_241 (by decide) ?_
    refine lv_iadd hx hb dL_law_242 ?_
    refine va_sld hx hb hX hbl (Nat.not_le.mpr hbl) hS (ix_s (x := 1 + 5 * j) (k := 1) (by omega) hL) dL_law_243 ?_
    refine W.eq (g2 := F0 m 244 ls [.int (xs (1 + 5 * j + 1)), .ref m0, .int (-2)]) (congrArg (fun z => F0 m 244 ls (.int (xs z) :: [.ref m0, .int (-2)])) (ix_sc (x := 1 + 5 * j) (k := 1) (by omega))) ?_
    refine lv_i2l hx hb dL_law_244 rfl ?_
    refine lv_bipush (v := 32) hx hb dL_law_245 (by decide) ?_
    refine lv_lshl (v := lhi (xs (1 + 5 * j + 1))) hx hb dL_law_247 rfl ?_
    refine lv_aload_n hx hb dL_law_248 rfl (lv_at hl 1 rfl) ?_
    refine lv_iload hx hb dL_law_249 (lv_at hl 0 rfl) ?_
    refine lv_iconst (v := 2) hx hb dL_law_251 (by decide) ?_
    refine lv_iadd hx hb dL_law_252 ?_
    refine va_sld hx hb hX hbl (Nat.not_le.mpr hbl) hS (ix_s (x := 1 + 5 * j) (k := 2) (by omega) hL) dL_law_253 ?_
    refine W.eq (g2 := F0 m 254 ls [.int (xs (1 + 5 * j + 2)), .long (lhi (xs (1 + 5 * j + 1))), .ref m0, .int (-2)]) (congrArg (fun z => F0 m 254 ls (.int (xs z) :: [.long (lhi (xs (1 + 5 * j + 1))), .ref m0, .int (-2)])) (ix_sc (x := 1 + 5 * j) (k := 2) (by omega))) ?_
    refine lv_i2l hx hb dL_law_254 rfl ?_
    refine lv_ldc2 hx hb hown (hts _ hm1) dL_law_255 ?_
    refine lv_land hx hb dL_law_258 ?_
    refine lv_lor hx hb dL_law_259 ?_
    refine W.eq (g2 := F0 m 260 ls [.long (lg (xs (1 + 5 * j + 1)) (xs (1 + 5 * j + 2))), .ref m0, .int (-2)]) rfl ?_
    refine lv_aload_n hx hb dL_law_260 rfl (lv_at hl 1 rfl) ?_
    refine lv_iload hx hb dL_law_261 (lv_at hl 0 rfl) ?_
    refine lv_iconst (v := 3) hx hb dL_law_263 (by decide) ?_
    refine lv_iadd hx hb dL_law_264 ?_
    refine va_sld hx hb hX hbl (Nat.not_le.mpr hbl) hS (ix_s (x := 1 + 5 * j) (k := 3) (by omega) hL) dL_law_265 ?_
    refine W.eq (g2 := F0 m 266 ls [.int (xs (1 + 5 * j + 3)), .long (lg (xs (1 + 5 * j + 1)) (xs (1 + 5 * j + 2))), .ref m0, .int (-2)]) (congrArg (fun z => F0 m 266 ls (.int (xs z) :: [.long (lg (xs (1 + 5 * j + 1)) (xs (1 + 5 * j + 2))), .ref m0, .int (-2)])) (ix_sc (x := 1 + 5 * j) (k := 3) (by omega))) ?_
    refine lv_i2l hx hb dL_law_266 rfl ?_
    refine lv_bipush (v := 32) hx hb dL_law_267 (by decide) ?_
    refine lv_lshl (v := lhi (xs (1 + 5 * j + 3))) hx hb dL_law_269 rfl ?_
    refine lv_aload_n hx hb dL_law_270 rfl (lv_at hl 1 rfl) ?_
    refine lv_iload hx hb dL_law_271 (lv_at hl 0 rfl) ?_
    refine lv_iconst (v := 4) hx hb dL_law_273 (by decide) ?_
    refine lv_iadd hx hb dL_law_274 ?_
    refine va_sld hx hb hX hbl (Nat.not_le.mpr hbl) hS (ix_s (x := 1 + 5 * j) (k := 4) (by omega) hL) dL_law_275 ?_
    refine W.eq (g2 := F0 m 276 ls [.int (xs (1 + 5 * j + 4)), .long (lhi (xs (1 + 5 * j + 3))), .long (lg (xs (1 + 5 * j + 1)) (xs (1 + 5 * j + 2))), .ref m0, .int (-2)]) (congrArg (fun z => F0 m 276 ls (.int (xs z) :: [.long (lhi (xs (1 + 5 * j + 3))), .long (lg (xs (1 + 5 * j + 1)) (xs (1 + 5 * j + 2))), .ref m0, .int (-2)])) (ix_sc (x := 1 + 5 * j) (k := 4) (by omega))) ?_
    refine lv_i2l hx hb dL_law_276 rfl ?_
    refine lv_ldc2 hx hb hown (hts _ hm1) dL_law_277 ?_
    refine lv_land hx hb dL_law_280 ?_
    refine lv_lor hx hb dL_law_281 ?_
    refine W.eq (g2 := F0 m 282 ls [.long (lg (xs (1 + 5 * j + 3)) (xs (1 + 5 * j + 4))), .long (lg (xs (1 + 5 * j + 1)) (xs (1 + 5 * j + 2))), .ref m0, .int (-2)]) rfl ?_
    have hPx : va_P D vwCl (mw m0 a C th (nI n) sp lo ph pr bo mo2 rf gr hd st ch rs) _ := w_PR hP
    have hDx : va_D _ (mw m0 a C th (nI n) sp lo ph pr bo mo2 rf gr hd st ch rs) := w_DR hD
    have hFx := xF hDx hS (fun _ h => h)
    refine va_calliD hdd_2 (va_runV_D (As := [.long (lg (xs (1 + 5 * j + 1)) (xs (1 + 5 * j + 2))), .long (lg (xs (1 + 5 * j + 3)) (xs (1 + 5 * j + 4)))]) (rest := [.int (-2)]) ⟨hx, hb, hml, hown, hts⟩ (m2_step l D m0 a C n th sp lo ph pr bo mo2 rf gr hd st ch rs hn (lg (xs (1 + 5 * j + 1)) (xs (1 + 5 * j + 2))) (lg (xs (1 + 5 * j + 3)) (xs (1 + 5 * j + 4))) _) (cwV 2 hts gL_law_X2_step rfl rfl rfl (by decide +kernel) ⟨Nat.le_of_ble_eq_true rfl, Nat.le_of_ble_eq_true rfl⟩) ⟨xW_blind, va_recv hKM hPx (ci := 2) (q0 := 0) rfl rfl, xW_at hPx hKM hN hDx⟩ rfl rfl hl.1 rfl (lv_room (Nat.le_of_ble_eq_true rfl)) dL_law_282 ⟨by show _ ≤ 667310; omega, by show _ ≤ 7094139; omega⟩) hS (fun z _ h => hFx z h) hFx (fun r u t H1 locs ht hvm hpo hB hz1 hk1 hS d_3 hdd_4 => ?_)
    have hts := dr_words hts0 d_3
    have hN := cN_draw (d := d_3) hN0
    have hKC : va_K D vwCl [(cW, .object RX0)] (s.setDrawn d_3) := hKC0
    have hKM : va_K D vwCl [(C 1, .long), (C 2, .boolean), (C 3, .int), (C 4, .long), (C 5, .long), (C 6, .double)] (s.setDrawn d_3) := hKM0
    have hKO : va_K D vwCl [(cO, .long)] (s.setDrawn d_3) := hKO0
    have hX : va_X b L xs (s.setDrawn d_3) s.heap := hX0
    have hP1 := xB_P hB ht
    obtain ⟨hP, hD⟩ := w_joinR hP hD hk1 hFx hP1 hB.2
    clear hP1 hB hk1 hz1 ht hvm hFx hPx hDx
    obtain ⟨hq1, hq2⟩ := hpo.1 hbad
    rw [hq1]
    rw [hq2] at hP hD
    dsimp only at hP hD
    replace hP : va_P D vwCl (((cw h0 hw cW n q g sp lo ph pr bo mo rf hd gr st nx) ++ [(o, .inl (cO, 1, .inr (.inl row)))]) ++ mw m0 a C 0 (nI n) sp lo ph pr bo mo2 rf gr hd st ch rs) H1 := hP
    replace hD : va_D (fun z : Nat => s.heap.size ≤ z) (((cw h0 hw cW n q g sp lo ph pr bo mo rf hd gr st nx) ++ [(o, .inl (cO, 1, .inr (.inl row)))]) ++ mw m0 a C 0 (nI n) sp lo ph pr bo mo2 rf gr hd st ch rs) := hD
    refine lv_icmp_eq (tgt := 790) hx hb dL_law_285 (by decide) (fun c_5 => ?_) (fun c_5 => absurd rfl c_5)
    refine lv_iinc (v := nI (1 + 5 * (j + 1))) (lv' := [(4, .int (nI (1 + 5 * (j + 1)))), (0, .ref b), (1, .ref h0), (2, .ref m0), (3, .ref o)]) hx hb dL_law_790 hl (k := 0) rfl (i_5 j) (by decide) rfl (fun ls hl => ?_)
    refine lv_goto (tgt := 33) hx hb dL_law_793 (by decide) ?_
    refine W.widen (k := 100 + (j + 1)) (n := 1000 + 6 * (j + 1)) (by omega) (by omega) ?_
    exact hnx _ _ _ _ sp lo ph pr bo mo mo2 rf hd gr st nx ch rs 0 row hdd_4 hP hD hS (INV_same hI) (lv_sub hl [0, 1, 2, 3, 4] rfl)
  · skip
    refine lv_aload_n hx hb dL_law_189 rfl (lv_at hl 2 rfl) ?_
    refine lv_aload_n hx hb dL_law_190 rfl (lv_at hl 1 rfl) ?_
    refine lv_iload hx hb dL_law_191 (lv_at hl 0 rfl) ?_
    refine lv_iconst (v := 1) hx hb dL_law_193 (by decide) ?_
    refine lv_iadd hx hb dL_law_194 ?_
    refine va_sld hx hb hX hbl (Nat.not_le.mpr hbl) hS (ix_s (x := 1 + 5 * j) (k := 1) (by omega) hL) dL_law_195 ?_
    refine W.eq (g2 := F0 m 196 ls [.int (xs (1 + 5 * j + 1)), .ref h0]) (congrArg (fun z => F0 m 196 ls (.int (xs z) :: [.ref h0])) (ix_sc (x := 1 + 5 * j) (k := 1) (by omega))) ?_
    refine lv_i2l hx hb dL_law_196 rfl ?_
    refine lv_bipush (v := 32) hx hb dL_law_197 (by decide) ?_
    refine lv_lshl (v := lhi (xs (1 + 5 * j + 1))) hx hb dL_law_199 rfl ?_
    refine lv_aload_n hx hb dL_law_200 rfl (lv_at hl 1 rfl) ?_
    refine lv_iload hx hb dL_law_201 (lv_at hl 0 rfl) ?_
    refine lv_iconst (v := 2) hx hb dL_law_203 (by decide) ?_
    refine lv_iadd hx hb dL_law_204 ?_
    refine va_sld hx hb hX hbl (Nat.not_le.mpr hbl) hS (ix_s (x := 1 + 5 * j) (k := 2) (by omega) hL) dL_law_205 ?_
    refine W.eq (g2 := F0 m 206 ls [.int (xs (1 + 5 * j + 2)), .long (lhi (xs (1 + 5 * j + 1))), .ref h0]) (congrArg (fun z => F0 m 206 ls (.int (xs z) :: [.long (lhi (xs (1 + 5 * j + 1))), .ref h0])) (ix_sc (x := 1 + 5 * j) (k := 2) (by omega))) ?_
    refine lv_i2l hx hb dL_law_206 rfl ?_
    refine lv_ldc2 hx hb hown (hts _ hm1) dL_law_207 ?_
    refine lv_land hx hb dL_law_210 ?_
    refine lv_lor hx hb dL_law_211 ?_
    refine W.eq (g2 := F0 m 212 ls [.long (lg (xs (1 + 5 * j + 1)) (xs (1 + 5 * j + 2))), .ref h0]) rfl ?_
    refine lv_aload_n hx hb dL_law_212 rfl (lv_at hl 1 rfl) ?_
    refine lv_iload hx hb dL_law_213 (lv_at hl 0 rfl) ?_
    refine lv_iconst (v := 3) hx hb dL_law_215 (by decide) ?_
    refine lv_iadd hx hb dL_law_216 ?_
    refine va_sld hx hb hX hbl (Nat.not_le.mpr hbl) hS (ix_s (x := 1 + 5 * j) (k := 3) (by omega) hL) dL_law_217 ?_
    refine W.eq (g2 := F0 m 218 ls [.int (xs (1 + 5 * j + 3)), .long (lg (xs (1 + 5 * j + 1)) (xs (1 + 5 * j + 2))), .ref h0]) (congrArg (fun z => F0 m 218 ls (.int (xs z) :: [.long (lg (xs (1 + 5 * j + 1)) (xs (1 + 5 * j + 2))), .ref h0])) (ix_sc (x := 1 + 5 * j) (k := 3) (by omega))) ?_
    refine lv_i2l hx hb dL_law_218 rfl ?_
    refine lv_bipush (v := 32) hx hb dL_law_219 (by decide) ?_
    refine lv_lshl (v := lhi (xs (1 + 5 * j + 3))) hx hb dL_law_221 rfl ?_
    refine lv_aload_n hx hb dL_law_222 rfl (lv_at hl 1 rfl) ?_
    refine lv_iload hx hb dL_law_223 (lv_at hl 0 rfl) ?_
    refine lv_iconst (v := 4) hx hb dL_law_225 (by decide) ?_
    refine lv_iadd hx hb dL_law_226 ?_
    refine va_sld hx hb hX hbl (Nat.not_le.mpr hbl) hS (ix_s (x := 1 + 5 * j) (k := 4) (by omega) hL) dL_law_227 ?_
    refine W.eq (g2 := F0 m 228 ls [.int (xs (1 + 5 * j + 4)), .long (lhi (xs (1 + 5 * j + 3))), .long (lg (xs (1 + 5 * j + 1)) (xs (1 + 5 * j + 2))), .ref h0]) (congrArg (fun z => F0 m 228 ls (.int (xs z) :: [.long (lhi (xs (1 + 5 * j + 3))), .long (lg (xs (1 + 5 * j + 1)) (xs (1 + 5 * j + 2))), .ref h0])) (ix_sc (x := 1 + 5 * j) (k := 4) (by omega))) ?_
    refine lv_i2l hx hb dL_law_228 rfl ?_
    refine lv_ldc2 hx hb hown (hts _ hm1) dL_law_229 ?_
    refine lv_land hx hb dL_law_232 ?_
    refine lv_lor hx hb dL_law_233 ?_
    refine W.eq (g2 := F0 m 234 ls [.long (lg (xs (1 + 5 * j + 3)) (xs (1 + 5 * j + 4))), .long (lg (xs (1 + 5 * j + 1)) (xs (1 + 5 * j + 2))), .ref h0]) rfl ?_
    have hPx : va_P D vwCl (cw h0 hw cW n q g sp lo ph pr bo mo rf hd gr st nx) _ := w_PL (w_PL hP)
    have hDx : va_D _ (cw h0 hw cW n q g sp lo ph pr bo mo rf hd gr st nx) := w_DL (w_DL hD)
    have hFx := xF hDx hS (fun _ h => h)
    refine va_calliD hdd (va_runV_D (As := [.long (lg (xs (1 + 5 * j + 1)) (xs (1 + 5 * j + 2))), .long (lg (xs (1 + 5 * j + 3)) (xs (1 + 5 * j + 4)))]) (rest := []) ⟨hx, hb, hml, hown, hts⟩ (c1_step l D cW h0 hw n q g sp lo ph pr bo mo rf hd gr st nx hn hg (lg (xs (1 + 5 * j + 1)) (xs (1 + 5 * j + 2))) (lg (xs (1 + 5 * j + 3)) (xs (1 + 5 * j + 4))) _) (cwV 2 hts gL_law_X1_step rfl rfl rfl (by decide +kernel) ⟨Nat.le_of_ble_eq_true rfl, Nat.le_of_ble_eq_true rfl⟩) ⟨xW_blind, va_recv hKC hPx (ci := 1) (q0 := 0) rfl rfl, xW_at hPx hKC hN hDx⟩ rfl rfl hl.1 rfl (lv_room (Nat.le_of_ble_eq_true rfl)) dL_law_234 ⟨by show _ ≤ 667310; omega, by show _ ≤ 7094139; omega⟩) hS (fun z _ h => hFx z h) hFx (fun r u t H1 locs ht hvm hpo hB hz1 hk1 hS d_6 hdd_7 => ?_)
    have hts := dr_words hts0 d_6
    have hN := cN_draw (d := d_6) hN0
    have hKC : va_K D vwCl [(cW, .object RX0)] (s.setDrawn d_6) := hKC0
    have hKM : va_K D vwCl [(C 1, .long), (C 2, .boolean), (C 3, .int), (C 4, .long), (C 5, .long), (C 6, .double)] (s.setDrawn d_6) := hKM0
    have hKO : va_K D vwCl [(cO, .long)] (s.setDrawn d_6) := hKO0
    have hX : va_X b L xs (s.setDrawn d_6) s.heap := hX0
    have hP1 := xB_P hB ht
    obtain ⟨hP, hD⟩ := w_joinLL hP hD hk1 hFx hP1 hB.2
    clear hP1 hB hk1 hz1 ht hvm hFx hPx hDx
    obtain ⟨mo', hq2, hq1, hq3⟩ := hpo.2 hbad
    clear hpo
    simp only [ref_eq hI.1, pr_eq hI.2.2.1, cMx_eq, hd_eq hI.2.2.2.2.1, wait_if hj6 hI] at hq1 hq2 hq3
    rw [hq1]
    rw [hq2] at hP hD
    dsimp only at hP hD
    clear hq1 hq2
    have hqc := hq3
    clear hq3
    replace hP : va_P D vwCl (((cw h0 hw cW n q g sp lo (jPh lo ph (mRef n (lg (xs (1 + 5 * j + 1)) (xs (1 + 5 * j + 2))) rf lo sp) (lg (xs (1 + 5 * j + 1)) (xs (1 + 5 * j + 2))) sp pr n) (jPr mPr lo ph (mRef n (lg (xs (1 + 5 * j + 1)) (xs (1 + 5 * j + 2))) rf lo sp) (lg (xs (1 + 5 * j + 1)) (xs (1 + 5 * j + 2))) sp pr bo hd n) bo mo' (mRef n (lg (xs (1 + 5 * j + 1)) (xs (1 + 5 * j + 2))) rf lo sp) (if hd = 0 then 0 else if mRef n (lg (xs (1 + 5 * j + 1)) (xs (1 + 5 * j + 2))) rf lo sp ≤ 20 then 1 else 0) (if st + 1 - ch < rs then gr else sGr (sCode gr (mRef n (lg (xs (1 + 5 * j + 1)) (xs (1 + 5 * j + 2))) rf lo sp) (mMx (lg (xs (1 + 5 * j + 3)) (xs (1 + 5 * j + 4))))) gr) (st + 1) (if st + 1 - ch < rs then nx else sNx (sCode gr (mRef n (lg (xs (1 + 5 * j + 1)) (xs (1 + 5 * j + 2))) rf lo sp) (mMx (lg (xs (1 + 5 * j + 3)) (xs (1 + 5 * j + 4))))) nx (st + 1 + 3))) ++ [(o, .inl (cO, 1, .inr (.inl row)))]) ++ mw m0 a C th (nI n) sp lo ph pr bo mo2 rf gr hd st ch rs) H1 := hP
    replace hD : va_D (fun z : Nat => s.heap.size ≤ z) (((cw h0 hw cW n q g sp lo (jPh lo ph (mRef n (lg (xs (1 + 5 * j + 1)) (xs (1 + 5 * j + 2))) rf lo sp) (lg (xs (1 + 5 * j + 1)) (xs (1 + 5 * j + 2))) sp pr n) (jPr mPr lo ph (mRef n (lg (xs (1 + 5 * j + 1)) (xs (1 + 5 * j + 2))) rf lo sp) (lg (xs (1 + 5 * j + 1)) (xs (1 + 5 * j + 2))) sp pr bo hd n) bo mo' (mRef n (lg (xs (1 + 5 * j + 1)) (xs (1 + 5 * j + 2))) rf lo sp) (if hd = 0 then 0 else if mRef n (lg (xs (1 + 5 * j + 1)) (xs (1 + 5 * j + 2))) rf lo sp ≤ 20 then 1 else 0) (if st + 1 - ch < rs then gr else sGr (sCode gr (mRef n (lg (xs (1 + 5 * j + 1)) (xs (1 + 5 * j + 2))) rf lo sp) (mMx (lg (xs (1 + 5 * j + 3)) (xs (1 + 5 * j + 4))))) gr) (st + 1) (if st + 1 - ch < rs then nx else sNx (sCode gr (mRef n (lg (xs (1 + 5 * j + 1)) (xs (1 + 5 * j + 2))) rf lo sp) (mMx (lg (xs (1 + 5 * j + 3)) (xs (1 + 5 * j + 4))))) nx (st + 1 + 3))) ++ [(o, .inl (cO, 1, .inr (.inl row)))]) ++ mw m0 a C th (nI n) sp lo ph pr bo mo2 rf gr hd st ch rs) := hD
    refine lv_aload_n hx hb dL_law_237 rfl (lv_at hl 3 rfl) ?_
    refine lv_aload_n hx hb dL_law_238 rfl (lv_at hl 1 rfl) ?_
    refine lv_iload hx hb dL_law_239 (lv_at hl 0 rfl) ?_
    refine lv_iconst (v := 1) hx hb dL_law_241 (by decide) ?_
    refine lv_iadd hx hb dL_law_242 ?_
    refine va_sld hx hb hX hbl (Nat.not_le.mpr hbl) hS (ix_s (x := 1 + 5 * j) (k := 1) (by omega) hL) dL_law_243 ?_
    refine W.eq (g2 := F0 m 244 ls [.int (xs (1 + 5 * j + 1)), .ref m0, .int (if st + 1 - ch < rs then gr else sGr (sCode gr (mRef n (lg (xs (1 + 5 * j + 1)) (xs (1 + 5 * j + 2))) rf lo sp) (mMx (lg (xs (1 + 5 * j + 3)) (xs (1 + 5 * j + 4))))) gr)]) (congrArg (fun z => F0 m 244 ls (.int (xs z) :: [.ref m0, .int (if st + 1 - ch < rs then gr else sGr (sCode gr (mRef n (lg (xs (1 + 5 * j + 1)) (xs (1 + 5 * j + 2))) rf lo sp) (mMx (lg (xs (1 + 5 * j + 3)) (xs (1 + 5 * j + 4))))) gr)])) (ix_sc (x := 1 + 5 * j) (k := 1) (by omega))) ?_
    refine lv_i2l hx hb dL_law_244 rfl ?_
    refine lv_bipush (v := 32) hx hb dL_law_245 (by decide) ?_
    refine lv_lshl (v := lhi (xs (1 + 5 * j + 1))) hx hb dL_law_247 rfl ?_
    refine lv_aload_n hx hb dL_law_248 rfl (lv_at hl 1 rfl) ?_
    refine lv_iload hx hb dL_law_249 (lv_at hl 0 rfl) ?_
    refine lv_iconst (v := 2) hx hb dL_law_251 (by decide) ?_
    refine lv_iadd hx hb dL_law_252 ?_
    refine va_sld hx hb hX hbl (Nat.not_le.mpr hbl) hS (ix_s (x := 1 + 5 * j) (k := 2) (by omega) hL) dL_law_253 ?_
    refine W.eq (g2 := F0 m 254 ls [.int (xs (1 + 5 * j + 2)), .long (lhi (xs (1 + 5 * j + 1))), .ref m0, .int (if st + 1 - ch < rs then gr else sGr (sCode gr (mRef n (lg (xs (1 + 5 * j + 1)) (xs (1 + 5 * j + 2))) rf lo sp) (mMx (lg (xs (1 + 5 * j + 3)) (xs (1 + 5 * j + 4))))) gr)]) (congrArg (fun z => F0 m 254 ls (.int (xs z) :: [.long (lhi (xs (1 + 5 * j + 1))), .ref m0, .int (if st + 1 - ch < rs then gr else sGr (sCode gr (mRef n (lg (xs (1 + 5 * j + 1)) (xs (1 + 5 * j + 2))) rf lo sp) (mMx (lg (xs (1 + 5 * j + 3)) (xs (1 + 5 * j + 4))))) gr)])) (ix_sc (x := 1 + 5 * j) (k := 2) (by omega))) ?_
    refine lv_i2l hx hb dL_law_254 rfl ?_
    refine lv_ldc2 hx hb hown (hts _ hm1) dL_law_255 ?_
    refine lv_land hx hb dL_law_258 ?_
    refine lv_lor hx hb dL_law_259 ?_
    refine W.eq (g2 := F0 m 260 ls [.long (lg (xs (1 + 5 * j + 1)) (xs (1 + 5 * j + 2))), .ref m0, .int (if st + 1 - ch < rs then gr else sGr (sCode gr (mRef n (lg (xs (1 + 5 * j + 1)) (xs (1 + 5 * j + 2))) rf lo sp) (mMx (lg (xs (1 + 5 * j + 3)) (xs (1 + 5 * j + 4))))) gr)]) rfl ?_
    refine lv_aload_n hx hb dL_law_260 rfl (lv_at hl 1 rfl) ?_
    refine lv_iload hx hb dL_law_261 (lv_at hl 0 rfl) ?_
    refine lv_iconst (v := 3) hx hb dL_law_263 (by decide) ?_
    refine lv_iadd hx hb dL_law_264 ?_
    refine va_sld hx hb hX hbl (Nat.not_le.mpr hbl) hS (ix_s (x := 1 + 5 * j) (k := 3) (by omega) hL) dL_law_265 ?_
    refine W.eq (g2 := F0 m 266 ls [.int (xs (1 + 5 * j + 3)), .long (lg (xs (1 + 5 * j + 1)) (xs (1 + 5 * j + 2))), .ref m0, .int (if st + 1 - ch < rs then gr else sGr (sCode gr (mRef n (lg (xs (1 + 5 * j + 1)) (xs (1 + 5 * j + 2))) rf lo sp) (mMx (lg (xs (1 + 5 * j + 3)) (xs (1 + 5 * j + 4))))) gr)]) (congrArg (fun z => F0 m 266 ls (.int (xs z) :: [.long (lg (xs (1 + 5 * j + 1)) (xs (1 + 5 * j + 2))), .ref m0, .int (if st + 1 - ch < rs then gr else sGr (sCode gr (mRef n (lg (xs (1 + 5 * j + 1)) (xs (1 + 5 * j + 2))) rf lo sp) (mMx (lg (xs (1 + 5 * j + 3)) (xs (1 + 5 * j + 4))))) gr)])) (ix_sc (x := 1 + 5 * j) (k := 3) (by omega))) ?_
    refine lv_i2l hx hb dL_law_266 rfl ?_
    refine lv_bipush (v := 32) hx hb dL_law_267 (by decide) ?_
    refine lv_lshl (v := lhi (xs (1 + 5 * j + 3))) hx hb dL_law_269 rfl ?_
    refine lv_aload_n hx hb dL_law_270 rfl (lv_at hl 1 rfl) ?_
    refine lv_iload hx hb dL_law_271 (lv_at hl 0 rfl) ?_
    refine lv_iconst (v := 4) hx hb dL_law_273 (by decide) ?_
    refine lv_iadd hx hb dL_law_274 ?_
    refine va_sld hx hb hX hbl (Nat.not_le.mpr hbl) hS (ix_s (x := 1 + 5 * j) (k := 4) (by omega) hL) dL_law_275 ?_
    refine W.eq (g2 := F0 m 276 ls [.int (xs (1 + 5 * j + 4)), .long (lhi (xs (1 + 5 * j + 3))), .long (lg (xs (1 + 5 * j + 1)) (xs (1 + 5 * j + 2))), .ref m0, .int (if st + 1 - ch < rs then gr else sGr (sCode gr (mRef n (lg (xs (1 + 5 * j + 1)) (xs (1 + 5 * j + 2))) rf lo sp) (mMx (lg (xs (1 + 5 * j + 3)) (xs (1 + 5 * j + 4))))) gr)]) (congrArg (fun z => F0 m 276 ls (.int (xs z) :: [.long (lhi (xs (1 + 5 * j + 3))), .long (lg (xs (1 + 5 * j + 1)) (xs (1 + 5 * j + 2))), .ref m0, .int (if st + 1 - ch < rs then gr else sGr (sCode gr (mRef n (lg (xs (1 + 5 * j + 1)) (xs (1 + 5 * j + 2))) rf lo sp) (mMx (lg (xs (1 + 5 * j + 3)) (xs (1 + 5 * j + 4))))) gr)])) (ix_sc (x := 1 + 5 * j) (k := 4) (by omega))) ?_
    refine lv_i2l hx hb dL_law_276 rfl ?_
    refine lv_ldc2 hx hb hown (hts _ hm1) dL_law_277 ?_
    refine lv_land hx hb dL_law_280 ?_
    refine lv_lor hx hb dL_law_281 ?_
    refine W.eq (g2 := F0 m 282 ls [.long (lg (xs (1 + 5 * j + 3)) (xs (1 + 5 * j + 4))), .long (lg (xs (1 + 5 * j + 1)) (xs (1 + 5 * j + 2))), .ref m0, .int (if st + 1 - ch < rs then gr else sGr (sCode gr (mRef n (lg (xs (1 + 5 * j + 1)) (xs (1 + 5 * j + 2))) rf lo sp) (mMx (lg (xs (1 + 5 * j + 3)) (xs (1 + 5 * j + 4))))) gr)]) rfl ?_
    have hPx : va_P D vwCl (mw m0 a C th (nI n) sp lo ph pr bo mo2 rf gr hd st ch rs) _ := w_PR hP
    have hDx : va_D _ (mw m0 a C th (nI n) sp lo ph pr bo mo2 rf gr hd st ch rs) := w_DR hD
    have hFx := xF hDx hS (fun _ h => h)
    refine va_calliD hdd_7 (va_runV_D (As := [.long (lg (xs (1 + 5 * j + 1)) (xs (1 + 5 * j + 2))), .long (lg (xs (1 + 5 * j + 3)) (xs (1 + 5 * j + 4)))]) (rest := [.int (if st + 1 - ch < rs then gr else sGr (sCode gr (mRef n (lg (xs (1 + 5 * j + 1)) (xs (1 + 5 * j + 2))) rf lo sp) (mMx (lg (xs (1 + 5 * j + 3)) (xs (1 + 5 * j + 4))))) gr)]) ⟨hx, hb, hml, hown, hts⟩ (m2_step l D m0 a C n th sp lo ph pr bo mo2 rf gr hd st ch rs hn (lg (xs (1 + 5 * j + 1)) (xs (1 + 5 * j + 2))) (lg (xs (1 + 5 * j + 3)) (xs (1 + 5 * j + 4))) _) (cwV 2 hts gL_law_X2_step rfl rfl rfl (by decide +kernel) ⟨Nat.le_of_ble_eq_true rfl, Nat.le_of_ble_eq_true rfl⟩) ⟨xW_blind, va_recv hKM hPx (ci := 2) (q0 := 0) rfl rfl, xW_at hPx hKM hN hDx⟩ rfl rfl hl.1 rfl (lv_room (Nat.le_of_ble_eq_true rfl)) dL_law_282 ⟨by show _ ≤ 667310; omega, by show _ ≤ 7094139; omega⟩) hS (fun z _ h => hFx z h) hFx (fun r u t H1 locs ht hvm hpo hB hz1 hk1 hS d_8 hdd_9 => ?_)
    have hts := dr_words hts0 d_8
    have hN := cN_draw (d := d_8) hN0
    have hKC : va_K D vwCl [(cW, .object RX0)] (s.setDrawn d_8) := hKC0
    have hKM : va_K D vwCl [(C 1, .long), (C 2, .boolean), (C 3, .int), (C 4, .long), (C 5, .long), (C 6, .double)] (s.setDrawn d_8) := hKM0
    have hKO : va_K D vwCl [(cO, .long)] (s.setDrawn d_8) := hKO0
    have hX : va_X b L xs (s.setDrawn d_8) s.heap := hX0
    have hP1 := xB_P hB ht
    obtain ⟨hP, hD⟩ := w_joinR hP hD hk1 hFx hP1 hB.2
    clear hP1 hB hk1 hz1 ht hvm hFx hPx hDx
    obtain ⟨mo2', hq2, hq1, hq3⟩ := hpo.2 hbad
    clear hpo
    rw [hq1]
    rw [hq2] at hP hD
    dsimp only at hP hD
    clear hq1 hq2
    replace hP : va_P D vwCl (((cw h0 hw cW n q g sp lo (jPh lo ph (mRef n (lg (xs (1 + 5 * j + 1)) (xs (1 + 5 * j + 2))) rf lo sp) (lg (xs (1 + 5 * j + 1)) (xs (1 + 5 * j + 2))) sp pr n) (jPr mPr lo ph (mRef n (lg (xs (1 + 5 * j + 1)) (xs (1 + 5 * j + 2))) rf lo sp) (lg (xs (1 + 5 * j + 1)) (xs (1 + 5 * j + 2))) sp pr bo hd n) bo mo' (mRef n (lg (xs (1 + 5 * j + 1)) (xs (1 + 5 * j + 2))) rf lo sp) (if hd = 0 then 0 else if mRef n (lg (xs (1 + 5 * j + 1)) (xs (1 + 5 * j + 2))) rf lo sp ≤ 20 then 1 else 0) (if st + 1 - ch < rs then gr else sGr (sCode gr (mRef n (lg (xs (1 + 5 * j + 1)) (xs (1 + 5 * j + 2))) rf lo sp) (mMx (lg (xs (1 + 5 * j + 3)) (xs (1 + 5 * j + 4))))) gr) (st + 1) (if st + 1 - ch < rs then nx else sNx (sCode gr (mRef n (lg (xs (1 + 5 * j + 1)) (xs (1 + 5 * j + 2))) rf lo sp) (mMx (lg (xs (1 + 5 * j + 3)) (xs (1 + 5 * j + 4))))) nx (st + 1 + 3))) ++ [(o, .inl (cO, 1, .inr (.inl row)))]) ++ mw m0 a C 0 (nI n) sp lo (jPh lo ph (mRef n (lg (xs (1 + 5 * j + 1)) (xs (1 + 5 * j + 2))) rf lo sp) (lg (xs (1 + 5 * j + 1)) (xs (1 + 5 * j + 2))) sp pr n) (jPr mPr lo ph (mRef n (lg (xs (1 + 5 * j + 1)) (xs (1 + 5 * j + 2))) rf lo sp) (lg (xs (1 + 5 * j + 1)) (xs (1 + 5 * j + 2))) sp pr bo hd n) bo mo2' (mRef n (lg (xs (1 + 5 * j + 1)) (xs (1 + 5 * j + 2))) rf lo sp) (if st + 1 - ch < rs then gr else sGr (sCode gr (mRef n (lg (xs (1 + 5 * j + 1)) (xs (1 + 5 * j + 2))) rf lo sp) (mMx (lg (xs (1 + 5 * j + 3)) (xs (1 + 5 * j + 4))))) gr) (if hd = 0 then 0 else if mRef n (lg (xs (1 + 5 * j + 1)) (xs (1 + 5 * j + 2))) rf lo sp ≤ 20 then 1 else 0) (st + 1) (if st + 1 - ch < rs then ch else sNx (sCode gr (mRef n (lg (xs (1 + 5 * j + 1)) (xs (1 + 5 * j + 2))) rf lo sp) (mMx (lg (xs (1 + 5 * j + 3)) (xs (1 + 5 * j + 4))))) ch (st + 1)) (if st + 1 - ch < rs then rs else sNx (sCode gr (mRef n (lg (xs (1 + 5 * j + 1)) (xs (1 + 5 * j + 2))) rf lo sp) (mMx (lg (xs (1 + 5 * j + 3)) (xs (1 + 5 * j + 4))))) rs 3)) H1 := hP
    replace hD : va_D (fun z : Nat => s.heap.size ≤ z) (((cw h0 hw cW n q g sp lo (jPh lo ph (mRef n (lg (xs (1 + 5 * j + 1)) (xs (1 + 5 * j + 2))) rf lo sp) (lg (xs (1 + 5 * j + 1)) (xs (1 + 5 * j + 2))) sp pr n) (jPr mPr lo ph (mRef n (lg (xs (1 + 5 * j + 1)) (xs (1 + 5 * j + 2))) rf lo sp) (lg (xs (1 + 5 * j + 1)) (xs (1 + 5 * j + 2))) sp pr bo hd n) bo mo' (mRef n (lg (xs (1 + 5 * j + 1)) (xs (1 + 5 * j + 2))) rf lo sp) (if hd = 0 then 0 else if mRef n (lg (xs (1 + 5 * j + 1)) (xs (1 + 5 * j + 2))) rf lo sp ≤ 20 then 1 else 0) (if st + 1 - ch < rs then gr else sGr (sCode gr (mRef n (lg (xs (1 + 5 * j + 1)) (xs (1 + 5 * j + 2))) rf lo sp) (mMx (lg (xs (1 + 5 * j + 3)) (xs (1 + 5 * j + 4))))) gr) (st + 1) (if st + 1 - ch < rs then nx else sNx (sCode gr (mRef n (lg (xs (1 + 5 * j + 1)) (xs (1 + 5 * j + 2))) rf lo sp) (mMx (lg (xs (1 + 5 * j + 3)) (xs (1 + 5 * j + 4))))) nx (st + 1 + 3))) ++ [(o, .inl (cO, 1, .inr (.inl row)))]) ++ mw m0 a C 0 (nI n) sp lo (jPh lo ph (mRef n (lg (xs (1 + 5 * j + 1)) (xs (1 + 5 * j + 2))) rf lo sp) (lg (xs (1 + 5 * j + 1)) (xs (1 + 5 * j + 2))) sp pr n) (jPr mPr lo ph (mRef n (lg (xs (1 + 5 * j + 1)) (xs (1 + 5 * j + 2))) rf lo sp) (lg (xs (1 + 5 * j + 1)) (xs (1 + 5 * j + 2))) sp pr bo hd n) bo mo2' (mRef n (lg (xs (1 + 5 * j + 1)) (xs (1 + 5 * j + 2))) rf lo sp) (if st + 1 - ch < rs then gr else sGr (sCode gr (mRef n (lg (xs (1 + 5 * j + 1)) (xs (1 + 5 * j + 2))) rf lo sp) (mMx (lg (xs (1 + 5 * j + 3)) (xs (1 + 5 * j + 4))))) gr) (if hd = 0 then 0 else if mRef n (lg (xs (1 + 5 * j + 1)) (xs (1 + 5 * j + 2))) rf lo sp ≤ 20 then 1 else 0) (st + 1) (if st + 1 - ch < rs then ch else sNx (sCode gr (mRef n (lg (xs (1 + 5 * j + 1)) (xs (1 + 5 * j + 2))) rf lo sp) (mMx (lg (xs (1 + 5 * j + 3)) (xs (1 + 5 * j + 4))))) ch (st + 1)) (if st + 1 - ch < rs then rs else sNx (sCode gr (mRef n (lg (xs (1 + 5 * j + 1)) (xs (1 + 5 * j + 2))) rf lo sp) (mMx (lg (xs (1 + 5 * j + 3)) (xs (1 + 5 * j + 4))))) rs 3)) := hD
    refine lv_icmp_eq (tgt := 790) hx hb dL_law_285 (by decide) (fun c_10 => ?_) (fun c_10 => absurd rfl c_10)
    refine lv_iinc (v := nI (1 + 5 * (j + 1))) (lv' := [(4, .int (nI (1 + 5 * (j + 1)))), (0, .ref b), (1, .ref h0), (2, .ref m0), (3, .ref o)]) hx hb dL_law_790 hl (k := 0) rfl (i_5 j) (by decide) rfl (fun ls hl => ?_)
    refine lv_goto (tgt := 33) hx hb dL_law_793 (by decide) ?_
    refine W.widen (k := 100 + (j + 1)) (n := 1000 + 6 * (j + 1)) (by omega) (by omega) ?_
    exact hnx _ _ _ _ sp lo (jPh lo ph (mRef n (lg (xs (1 + 5 * j + 1)) (xs (1 + 5 * j + 2))) rf lo sp) (lg (xs (1 + 5 * j + 1)) (xs (1 + 5 * j + 2))) sp pr n) (jPr mPr lo ph (mRef n (lg (xs (1 + 5 * j + 1)) (xs (1 + 5 * j + 2))) rf lo sp) (lg (xs (1 + 5 * j + 1)) (xs (1 + 5 * j + 2))) sp pr bo hd n) bo mo' mo2' (mRef n (lg (xs (1 + 5 * j + 1)) (xs (1 + 5 * j + 2))) rf lo sp) (if hd = 0 then 0 else if mRef n (lg (xs (1 + 5 * j + 1)) (xs (1 + 5 * j + 2))) rf lo sp ≤ 20 then 1 else 0) (if st + 1 - ch < rs then gr else sGr (sCode gr (mRef n (lg (xs (1 + 5 * j + 1)) (xs (1 + 5 * j + 2))) rf lo sp) (mMx (lg (xs (1 + 5 * j + 3)) (xs (1 + 5 * j + 4))))) gr) (st + 1) (if st + 1 - ch < rs then nx else sNx (sCode gr (mRef n (lg (xs (1 + 5 * j + 1)) (xs (1 + 5 * j + 2))) rf lo sp) (mMx (lg (xs (1 + 5 * j + 3)) (xs (1 + 5 * j + 4))))) nx (st + 1 + 3)) (if st + 1 - ch < rs then ch else sNx (sCode gr (mRef n (lg (xs (1 + 5 * j + 1)) (xs (1 + 5 * j + 2))) rf lo sp) (mMx (lg (xs (1 + 5 * j + 3)) (xs (1 + 5 * j + 4))))) ch (st + 1)) (if st + 1 - ch < rs then rs else sNx (sCode gr (mRef n (lg (xs (1 + 5 * j + 1)) (xs (1 + 5 * j + 2))) rf lo sp) (mMx (lg (xs (1 + 5 * j + 3)) (xs (1 + 5 * j + 4))))) rs 3) 0 row hdd_9 hP hD hS (INV_step hj6 hI hbad rfl hqc hq3) (lv_sub hl [0, 1, 2, 3, 4] rfl)
theorem ex_gt {L i : Nat} (hL : L ≤ 2561) (hi : i ≤ 3000) : nI L - 5 < nI i ↔ L < i + 5 := by
  rw [Int32.lt_iff_toInt_lt, show nI L - 5 = nI L - nI 5 from rfl, pk_sub_toInt (by omega) (by omega), nI_toInt (by omega)]
  omega
set_option maxHeartbeats 4000000 in
set_option maxRecDepth 100000 in
/-- the law's loop -/
theorem law_loop {p : Program} {l : Launch} {e : Env} {s : State} {m : MethodId} {below : List Frame} {meth : Method} {c : Code} {b L : Nat} {xs : Nat → Int32} {D : va_G} {cW : ClassId} {h0 hw n : Nat} {q : Nat → Nat} {g : Nat → Option Nat} {m0 : Nat} {a : Nat → Nat} {C : Nat → ClassId} {o : Nat} {cO : ClassId} {sa : Nat} (hE : LE p l s m meth c b L xs D cW n q g C cO sa) (d : Nat) : ∀ (j : Nat), j + d = 513 → ∀ {dd : Drawn} {H : Heap} {locs : List Loc} {ls : Array Slot} {sp : Nat → Int64} {lo ph : Nat → Int32} {pr bo : Nat → Int64} {mo mo2 : Nat → UInt64} {rf : Int64} {hd gr st nx ch rs th : Int32} {row : Nat → Int64} (hdd : s.drawn.sameBut dd lw_cs) (hP : va_P D vwCl (((cw h0 hw cW n q g sp lo ph pr bo mo rf hd gr st nx) ++ [(o, .inl (cO, 1, .inr (.inl row)))]) ++ mw m0 a C th (nI n) sp lo ph pr bo mo2 rf gr hd st ch rs) H) (hD : va_D (fun z : Nat => s.heap.size ≤ z) (((cw h0 hw cW n q g sp lo ph pr bo mo rf hd gr st nx) ++ [(o, .inl (cO, 1, .inr (.inl row)))]) ++ mw m0 a C th (nI n) sp lo ph pr bo mo2 rf gr hd st ch rs)) (hS : va_S (fun z : Nat => s.heap.size ≤ z) s.heap H locs) (hI : INV n j sp pr bo mo mo2 rf hd st nx ch rs) (hl : lv_has ls 9 [(4, .int (nI (1 + 5 * j))), (0, .ref b), (1, .ref h0), (2, .ref m0), (3, .ref o)]), W p l e room_1 (s.setDrawn dd) m #[Value.ref b] below meth c H locs (100 + j) (1000 + 6 * j) (lw_Z below #[Value.ref b] s) (F0 m 33 ls []) := by
  obtain ⟨hx, hb, hr, hml, hown, hts0, hX0, hbl, hlocks, hKC0, hKM0, hKO0, hN0, hL, hn, h2, hg, hst, hTA⟩ := id hE
  induction d with
  | zero =>
    intro j hjd dd H locs ls sp lo ph pr bo mo mo2 rf hd gr st nx ch rs th row hdd hP hD hS hI hl
    have hX : va_X b L xs (s.setDrawn dd) s.heap := hX0
    refine lv_iload hx hb dL_law_33 (lv_at hl 0 rfl) ?_
    refine lv_aload_n hx hb dL_law_35 rfl (lv_at hl 1 rfl) ?_
    refine va_slen hx hb hX hbl (Nat.not_le.mpr hbl) hS dL_law_36 ?_
    refine lv_iconst (v := 5) hx hb dL_law_37 (by decide) ?_
    refine lv_isub hx hb dL_law_38 ?_
    refine lv_icmp_gt (tgt := 796) hx hb dL_law_39 (by decide) (fun cx => ?_) (fun cx => absurd ((ex_gt hL (by omega)).mpr (by omega)) cx)
    refine lv_iconst (v := 1) hx hb dL_law_796 (by decide) ?_
    refine va_forget (fun q hq => hS.2.2 q hq) ?_
    refine W.widen (k := 667310) (n := 7094139) (by omega) (by omega) ?_
    exact lw_ret hdd hx hb hr hlocks dL_law_797
  | succ d ih =>
    intro j hjd dd H locs ls sp lo ph pr bo mo mo2 rf hd gr st nx ch rs th row hdd hP hD hS hI hl
    have hX : va_X b L xs (s.setDrawn dd) s.heap := hX0
    refine lv_iload hx hb dL_law_33 (lv_at hl 0 rfl) ?_
    refine lv_aload_n hx hb dL_law_35 rfl (lv_at hl 1 rfl) ?_
    refine va_slen hx hb hX hbl (Nat.not_le.mpr hbl) hS dL_law_36 ?_
    refine lv_iconst (v := 5) hx hb dL_law_37 (by decide) ?_
    refine lv_isub hx hb dL_law_38 ?_
    refine lv_icmp_gt (tgt := 796) hx hb dL_law_39 (by decide) (fun cx => ?_) (fun cx => ?_)
    · refine lv_iconst (v := 1) hx hb dL_law_796 (by decide) ?_
      refine va_forget (fun q hq => hS.2.2 q hq) ?_
      refine W.widen (k := 667310) (n := 7094139) (by omega) (by omega) ?_
      exact lw_ret hdd hx hb hr hlocks dL_law_797
    · have hj : 1 + 5 * j + 5 ≤ L := by
        rcases Nat.lt_or_ge L (1 + 5 * j + 5) with z | z
        · exact absurd ((ex_gt hL (by omega)).mpr z) cx
        · exact z
      refine lv_aload_n hx hb dL_law_42 rfl (lv_at hl 1 rfl) ?_
      refine lv_iload hx hb dL_law_43 (lv_at hl 0 rfl) ?_
      refine va_sld hx hb hX hbl (Nat.not_le.mpr hbl) hS (nI_in (by omega) (by omega)) dL_law_45 ?_
      refine lv_bipush (v := 15) hx hb dL_law_46 (by decide) ?_
      refine lv_iand hx hb dL_law_48 ?_
      obtain ⟨v, hv, ev⟩ := pk_andE (xs (nI (1 + 5 * j)).toNatClampNeg) (m := 15) 4 rfl
      refine W.eq (g2 := F0 m 49 ls [.int (nI v)]) (by rw [ev]) ?_
      have hnx : LN p l e s m below meth c b D cW h0 hw n q g m0 a C o cO j := fun dd H locs ls sp lo ph pr bo mo mo2 rf hd gr st nx ch rs th row hdd hP hD hS hI hl => ih (j + 1) (by omega) hdd hP hD hS hI hl
      clear ih ev
      rcases (show v = 0 ∨ v = 1 ∨ v = 2 ∨ v = 3 ∨ v = 4 ∨ v = 5 ∨ v = 6 ∨ v = 7 ∨ v = 8 ∨ v = 9 ∨ v = 10 ∨ v = 11 ∨ v = 12 ∨ v = 13 ∨ v = 14 ∨ v = 15 by omega) with rfl | rfl | rfl | rfl | rfl | rfl | rfl | rfl | rfl | rfl | rfl | rfl | rfl | rfl | rfl | rfl
      · refine lv_tableIn (off := 71) (tgt := 120) hx hb dL_law_49 (by decide) (by decide) rfl (by decide) ?_
        exact lc_wheel hE hj hnx hdd hP hD hS hI hl
      · refine lv_tableIn (off := 140) (tgt := 189) hx hb dL_law_49 (by decide) (by decide) rfl (by decide) ?_
        exact lc_step hE hj hnx hdd hP hD hS hI hl
      · refine lv_tableIn (off := 241) (tgt := 290) hx hb dL_law_49 (by decide) (by decide) rfl (by decide) ?_
        exact lc_phase hE hj hnx hdd hP hD hS hI hl
      · refine lv_tableIn (off := 266) (tgt := 315) hx hb dL_law_49 (by decide) (by decide) rfl (by decide) ?_
        exact lc_pressure hE hj hnx hdd hP hD hS hI hl
      · refine lv_tableIn (off := 292) (tgt := 341) hx hb dL_law_49 (by decide) (by decide) rfl (by decide) ?_
        exact lc_yaw hE hj hnx hdd hP hD hS hI hl
      · refine lv_tableIn (off := 393) (tgt := 442) hx hb dL_law_49 (by decide) (by decide) rfl (by decide) ?_
        exact lc_slip hE hj hnx hdd hP hD hS hI hl
      · refine lv_tableIn (off := 460) (tgt := 509) hx hb dL_law_49 (by decide) (by decide) rfl (by decide) ?_
        exact lc_gear hE hj hnx hdd hP hD hS hI hl
      · refine lv_tableIn (off := 473) (tgt := 522) hx hb dL_law_49 (by decide) (by decide) rfl (by decide) ?_
        exact lc_lost hE hj hnx hdd hP hD hS hI hl
      · refine lv_tableIn (off := 526) (tgt := 575) hx hb dL_law_49 (by decide) (by decide) rfl (by decide) ?_
        exact lc_hold hE hj hnx hdd hP hD hS hI hl
      · refine lv_tableIn (off := 567) (tgt := 616) hx hb dL_law_49 (by decide) (by decide) rfl (by decide) ?_
        exact lc_wish hE hj hnx hdd hP hD hS hI hl
      · refine lv_tableIn (off := 592) (tgt := 641) hx hb dL_law_49 (by decide) (by decide) rfl (by decide) ?_
        exact lc_reference hE hj hnx hdd hP hD hS hI hl
      · refine lv_tableIn (off := 606) (tgt := 655) hx hb dL_law_49 (by decide) (by decide) rfl (by decide) ?_
        exact lc_plant hE hj hnx hdd hP hD hS hI hl
      · refine lv_tableIn (off := 659) (tgt := 708) hx hb dL_law_49 (by decide) (by decide) rfl (by decide) ?_
        exact lc_bound hE hj hnx hdd hP hD hS hI hl
      · refine lv_tableIn (off := 728) (tgt := 777) hx hb dL_law_49 (by decide) (by decide) rfl (by decide) ?_
        exact lc_mode hE hj hnx hdd hP hD hS hI hl
      · refine lv_tableOut (tgt := 790) hx hb dL_law_49 (Or.inr (by decide)) (by decide) ?_
        exact lc_none hE hj hnx hdd hP hD hS hI hl
      · refine lv_tableOut (tgt := 790) hx hb dL_law_49 (Or.inr (by decide)) (by decide) ?_
        exact lc_none hE hj hnx hdd hP hD hS hI hl
