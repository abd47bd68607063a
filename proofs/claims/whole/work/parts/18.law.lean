/-! ===== the law: what holds all along ===== -/
def lhi (x : Int32) : Int64 := x.toInt64 <<< ((32 : Int32).toInt64 &&& 63)
def lg (x y : Int32) : Int64 := lhi x ||| (y.toInt64 &&& 4294967295)
def xTA (sa : Nat) (s : State) : Prop := vk_R RX1 91 "no slip without a reference" sa s ∧ va_Nw (.castable "java/lang/ArithmeticException" "java/lang/ArithmeticException") s ∧ va_Nw (.declares (Bundle.initS "java/lang/RuntimeException")) s ∧ va_Nw (.declares (Bundle.initS "java/lang/Exception")) s ∧ va_Nw (.declares (Bundle.initS Bundle.tN)) s ∧ vx_Zq Bundle.tN "UNASSIGNED_STACK" Bundle.steD (fun z => s.heap.size ≤ z) s s.heap ∧ vx_Zq Bundle.tN "SUPPRESSED_SENTINEL" Bundle.listD (fun z => s.heap.size ≤ z) s s.heap
theorem xTA_at {sa : Nat} {s : State} {H : Heap} {locs : List Loc} (h : xTA sa s) (hS : va_S (fun z : Nat => s.heap.size ≤ z) s.heap H locs) : xT sa s H := by
  obtain ⟨h1, h2, h3, h4, h5, h6, h7⟩ := h
  exact ⟨h1, h2, h3, h4, h5, (h6.kept hS.2.1).narrow (fun _ z => z.elim), (h7.kept hS.2.1).narrow (fun _ z => z.elim)⟩
def LE (p : Program) (l : Launch) (s : State) (m : MethodId) (meth : Method) (c : Code) (b L : Nat) (xs : Nat → Int32) (D : va_G) (cW : ClassId) (n : Nat) (q : Nat → Nat) (g : Nat → Option Nat) (C : Nat → ClassId) (cO : ClassId) (sa : Nat) : Prop :=
  p.tables.exec = Jvm.exec ∧ c.code = cL_law ∧ meth.sig.returnType = ret ∧ c.maxLocals = 9 ∧ s.vm.findClass RL = some m.cls ∧ (∀ w ∈ wsL_law, w.before #[Value.ref b] s = true) ∧ va_X b L xs s s.heap ∧ b < s.heap.size ∧ meth.locks = false ∧ va_K D vwCl [(cW, .object RX0)] s ∧ va_K D vwCl [(C 1, .long), (C 2, .boolean), (C 3, .int), (C 4, .long), (C 5, .long), (C 6, .double)] s ∧ va_K D vwCl [(cO, .long)] s ∧ cN s ∧ L ≤ 2561 ∧ n ≤ 8 ∧ 2 ≤ n ∧ (∀ i, i < n → g i = some (q i)) ∧ l.stackTraces = false ∧ xTA sa s
/-- the loop's head, one round later -/
def LN (p : Program) (l : Launch) (e : Env) (s : State) (m : MethodId) (below : List Frame) (meth : Method) (c : Code) (b : Nat) (D : va_G) (cW : ClassId) (h0 hw n : Nat) (q : Nat → Nat) (g : Nat → Option Nat) (m0 : Nat) (a : Nat → Nat) (C : Nat → ClassId) (o : Nat) (cO : ClassId) (j : Nat) : Prop :=
  ∀ (dd : Drawn) (H : Heap) (locs : List Loc) (ls : Array Slot) (sp : Nat → Int64) (lo ph : Nat → Int32) (pr bo : Nat → Int64) (mo mo2 : Nat → UInt64) (rf : Int64) (hd gr st nx ch rs th : Int32) (row : Nat → Int64), s.drawn.sameBut dd lw_cs → va_P D vwCl (((cw h0 hw cW n q g sp lo ph pr bo mo rf hd gr st nx) ++ [(o, .inl (cO, 1, .inr (.inl row)))]) ++ mw m0 a C th (nI n) sp lo ph pr bo mo2 rf gr hd st ch rs) H → va_D (fun z : Nat => s.heap.size ≤ z) (((cw h0 hw cW n q g sp lo ph pr bo mo rf hd gr st nx) ++ [(o, .inl (cO, 1, .inr (.inl row)))]) ++ mw m0 a C th (nI n) sp lo ph pr bo mo2 rf gr hd st ch rs) → va_S (fun z : Nat => s.heap.size ≤ z) s.heap H locs → INV n (j + 1) sp pr bo mo mo2 rf hd st nx ch rs → lv_has ls 9 [(4, .int (nI (1 + 5 * (j + 1)))), (0, .ref b), (1, .ref h0), (2, .ref m0), (3, .ref o)] → W p l e room_1 (s.setDrawn dd) m #[Value.ref b] below meth c H locs (100 + (j + 1)) (1000 + 6 * (j + 1)) (lw_Z below #[Value.ref b] s) (F0 m 33 ls [])
theorem xB_P {D : va_G} {tys : List (ClassId × FieldType)} {B : Nat → Prop} {ws : va_W} {t : State} {H : Heap} (hB : xB D tys B ws t) (ht : t.heap = H) : va_P D vwCl ws H := by rw [← ht]; exact hB.1.1
theorem ix_s {x k L : Nat} (h : x + k < L) (hL : L ≤ 2561) : vp_in (nI x + nI k) L := by
  rw [nI_add]; exact nI_in h (by omega)
theorem ix_sc {x k : Nat} (h : x + k < 3000) : (nI x + nI k).toNatClampNeg = x + k := by
  rw [nI_add]; exact nI_clamp (by omega)
theorem i_5 (j : Nat) : nI (1 + 5 * j) + Int32.ofInt 5 = nI (1 + 5 * (j + 1)) := by
  show nI (1 + 5 * j) + nI 5 = _
  rw [nI_add]
  congr 1
theorem slip_val {n : Nat} {w : Int32} {rf x : Int64} (h : ¬ (¬ wOut n w ∧ rf = 0)) : (if wOut n w then 0 else if rf = 0 then 0 else x) = if wOut n w then 0 else x := by
  by_cases a : wOut n w
  · rw [if_pos a, if_pos a]
  · rw [if_neg a, if_neg a, if_neg (fun z => h ⟨a, z⟩)]
theorem slip_th {n : Nat} {w : Int32} {rf : Int64} (h : ¬ (¬ wOut n w ∧ rf = 0)) : (if wOut n w then (0 : Int32) else if rf = 0 then 1 else 0) = 0 := by
  by_cases a : wOut n w
  · rw [if_pos a]
  · rw [if_neg a, if_neg (fun z => h ⟨a, z⟩)]
theorem plant_fd {n : Nat} {w : Int32} {mo mo2 : Nat → UInt64} (hn : n ≤ 8) (h : ∀ k, 1 ≤ k → k ≤ n → fd (mo k) = fd (mo2 k)) : fd (if wOut n w then FP.dconst0 else mo w.toNatClampNeg) = fd (if wOut n w then FP.dconst0 else mo2 w.toNatClampNeg) := by
  rcases w_io n w hn with hw | ⟨i, hi, rfl⟩
  · rw [if_pos hw, if_pos hw]
  · rw [if_neg (wOut_in hn hi), if_neg (wOut_in hn hi), wIx hn hi]; exact h _ (by omega) (by omega)
set_option maxHeartbeats 4000000 in
set_option maxRecDepth 100000 in
/-- wheel -/
theorem lc_wheel {p : Program} {l : Launch} {e : Env} {s : State} {m : MethodId} {below : List Frame} {meth : Method} {c : Code} {b L : Nat} {xs : Nat → Int32} {D : va_G} {cW : ClassId} {h0 hw n : Nat} {q : Nat → Nat} {g : Nat → Option Nat} {m0 : Nat} {a : Nat → Nat} {C : Nat → ClassId} {o : Nat} {cO : ClassId} {sa : Nat} (hE : LE p l s m meth c b L xs D cW n q g C cO sa) {j : Nat} (hj : 1 + 5 * j + 5 ≤ L) (hnx : LN p l e s m below meth c b D cW h0 hw n q g m0 a C o cO j) {dd : Drawn} {H : Heap} {locs : List Loc} {ls : Array Slot} {sp : Nat → Int64} {lo ph : Nat → Int32} {pr bo : Nat → Int64} {mo mo2 : Nat → UInt64} {rf : Int64} {hd gr st nx ch rs th : Int32} {row : Nat → Int64} (hdd : s.drawn.sameBut dd lw_cs) (hP : va_P D vwCl (((cw h0 hw cW n q g sp lo ph pr bo mo rf hd gr st nx) ++ [(o, .inl (cO, 1, .inr (.inl row)))]) ++ mw m0 a C th (nI n) sp lo ph pr bo mo2 rf gr hd st ch rs) H) (hD : va_D (fun z : Nat => s.heap.size ≤ z) (((cw h0 hw cW n q g sp lo ph pr bo mo rf hd gr st nx) ++ [(o, .inl (cO, 1, .inr (.inl row)))]) ++ mw m0 a C th (nI n) sp lo ph pr bo mo2 rf gr hd st ch rs)) (hS : va_S (fun z : Nat => s.heap.size ≤ z) s.heap H locs) (hI : INV n j sp pr bo mo mo2 rf hd st nx ch rs) (hl : lv_has ls 9 [(4, .int (nI (1 + 5 * j))), (0, .ref b), (1, .ref h0), (2, .ref m0), (3, .ref o)]) : W p l e room_1 (s.setDrawn dd) m #[Value.ref b] below meth c H locs (100 + j) (1000 + 6 * j) (lw_Z below #[Value.ref b] s) (F0 m 120 ls []) := by
  obtain ⟨hx, hb, hr, hml, hown, hts0, hX0, hbl, hlocks, hKC0, hKM0, hKO0, hN0, hL, hn, h2, hg, hst, hTA⟩ := hE
  have hm1 : (.constantLong RL 27 (4294967295) : Cond) ∈ wsL_law := by decide +kernel
  have hts := dr_words hts0 dd
  have hN := cN_draw (d := dd) hN0
  have hKC : va_K D vwCl [(cW, .object RX0)] (s.setDrawn dd) := hKC0
  have hKM : va_K D vwCl [(C 1, .long), (C 2, .boolean), (C 3, .int), (C 4, .long), (C 5, .long), (C 6, .double)] (s.setDrawn dd) := hKM0
  have hKO : va_K D vwCl [(cO, .long)] (s.setDrawn dd) := hKO0
  have hX : va_X b L xs (s.setDrawn dd) s.heap := hX0
  refine lv_aload_n hx hb dL_law_120 rfl (lv_at hl 2 rfl) ?_
  refine lv_aload_n hx hb dL_law_121 rfl (lv_at hl 1 rfl) ?_
  refine lv_iload hx hb dL_law_122 (lv_at hl 0 rfl) ?_
  refine lv_iconst (v := 1) hx hb dL_law_124 (by decide) ?_
  refine lv_iadd hx hb dL_law_125 ?_
  refine va_sld hx hb hX hbl (Nat.not_le.mpr hbl) hS (ix_s (x := 1 + 5 * j) (k := 1) (by omega) hL) dL_law_126 ?_
  refine W.eq (g2 := F0 m 127 ls [.int (xs (1 + 5 * j + 1)), .ref h0]) (congrArg (fun z => F0 m 127 ls (.int (xs z) :: [.ref h0])) (ix_sc (x := 1 + 5 * j) (k := 1) (by omega))) ?_
  refine lv_aload_n hx hb dL_law_127 rfl (lv_at hl 1 rfl) ?_
  refine lv_iload hx hb dL_law_128 (lv_at hl 0 rfl) ?_
  refine lv_iconst (v := 2) hx hb dL_law_130 (by decide) ?_
  refine lv_iadd hx hb dL_law_131 ?_
  refine va_sld hx hb hX hbl (Nat.not_le.mpr hbl) hS (ix_s (x := 1 + 5 * j) (k := 2) (by omega) hL) dL_law_132 ?_
  refine W.eq (g2 := F0 m 133 ls [.int (xs (1 + 5 * j + 2)), .int (xs (1 + 5 * j + 1)), .ref h0]) (congrArg (fun z => F0 m 133 ls (.int (xs z) :: [.int (xs (1 + 5 * j + 1)), .ref h0])) (ix_sc (x := 1 + 5 * j) (k := 2) (by omega))) ?_
  refine lv_i2l hx hb dL_law_133 rfl ?_
  refine lv_bipush (v := 32) hx hb dL_law_134 (by decide) ?_
  refine lv_lshl (v := lhi (xs (1 + 5 * j + 2))) hx hb dL_law_136 rfl ?_
  refine lv_aload_n hx hb dL_law_137 rfl (lv_at hl 1 rfl) ?_
  refine lv_iload hx hb dL_law_138 (lv_at hl 0 rfl) ?_
  refine lv_iconst (v := 3) hx hb dL_law_140 (by decide) ?_
  refine lv_iadd hx hb dL_law_141 ?_
  refine va_sld hx hb hX hbl (Nat.not_le.mpr hbl) hS (ix_s (x := 1 + 5 * j) (k := 3) (by omega) hL) dL_law_142 ?_
  refine W.eq (g2 := F0 m 143 ls [.int (xs (1 + 5 * j + 3)), .long (lhi (xs (1 + 5 * j + 2))), .int (xs (1 + 5 * j + 1)), .ref h0]) (congrArg (fun z => F0 m 143 ls (.int (xs z) :: [.long (lhi (xs (1 + 5 * j + 2))), .int (xs (1 + 5 * j + 1)), .ref h0])) (ix_sc (x := 1 + 5 * j) (k := 3) (by omega))) ?_
  refine lv_i2l hx hb dL_law_143 rfl ?_
  refine lv_ldc2 hx hb hown (hts _ hm1) dL_law_144 ?_
  refine lv_land hx hb dL_law_147 ?_
  refine lv_lor hx hb dL_law_148 ?_
  refine W.eq (g2 := F0 m 149 ls [.long (lg (xs (1 + 5 * j + 2)) (xs (1 + 5 * j + 3))), .int (xs (1 + 5 * j + 1)), .ref h0]) rfl ?_
  have hPx : va_P D vwCl (cw h0 hw cW n q g sp lo ph pr bo mo rf hd gr st nx) _ := w_PL (w_PL hP)
  have hDx : va_D _ (cw h0 hw cW n q g sp lo ph pr bo mo rf hd gr st nx) := w_DL (w_DL hD)
  have hFx := xF hDx hS (fun _ h => h)
  refine va_calli (va_runV (As := [.int (xs (1 + 5 * j + 1)), .long (lg (xs (1 + 5 * j + 2)) (xs (1 + 5 * j + 3)))]) (rest := []) ⟨hx, hb, hml, hown, hts⟩ (c1_wheel l D cW h0 hw n q g sp lo ph pr bo mo rf hd gr st nx hn hg (xs (1 + 5 * j + 1)) (lg (xs (1 + 5 * j + 2)) (xs (1 + 5 * j + 3))) _) (cwV 2 hts gL_law_X1_wheel rfl rfl rfl (by decide +kernel) ⟨Nat.le_of_ble_eq_true rfl, Nat.le_of_ble_eq_true rfl⟩) ⟨xW_blind, va_recv hKC hPx (ci := 1) (q0 := 0) rfl rfl, xW_at hPx hKC hN hDx⟩ rfl rfl hl.1 rfl (lv_room (Nat.le_of_ble_eq_true rfl)) dL_law_149 ⟨by show _ ≤ 667310; omega, by show _ ≤ 7094139; omega⟩) hS (fun z _ h => hFx z h) hFx (fun r u t H1 locs ht hvm hpo hB hz1 hk1 hS => ?_)
  have hP1 := xB_P hB ht
  obtain ⟨hP, hD⟩ := w_joinLL hP hD hk1 hFx hP1 hB.2
  clear hP1 hB hk1 hz1 ht hvm hFx hPx hDx
  obtain ⟨rfl, rfl⟩ := hpo
  replace hP : va_P D vwCl (((cw h0 hw cW n q g (gW n (xs (1 + 5 * j + 1)) (lg (xs (1 + 5 * j + 2)) (xs (1 + 5 * j + 3))) 1000 sp (lg (xs (1 + 5 * j + 2)) (xs (1 + 5 * j + 3)))) lo ph pr bo mo rf hd gr st nx) ++ [(o, .inl (cO, 1, .inr (.inl row)))]) ++ mw m0 a C th (nI n) sp lo ph pr bo mo2 rf gr hd st ch rs) H1 := hP
  replace hD : va_D (fun z : Nat => s.heap.size ≤ z) (((cw h0 hw cW n q g (gW n (xs (1 + 5 * j + 1)) (lg (xs (1 + 5 * j + 2)) (xs (1 + 5 * j + 3))) 1000 sp (lg (xs (1 + 5 * j + 2)) (xs (1 + 5 * j + 3)))) lo ph pr bo mo rf hd gr st nx) ++ [(o, .inl (cO, 1, .inr (.inl row)))]) ++ mw m0 a C th (nI n) sp lo ph pr bo mo2 rf gr hd st ch rs) := hD
  refine lv_aload_n hx hb dL_law_152 rfl (lv_at hl 3 rfl) ?_
  refine lv_aload_n hx hb dL_law_153 rfl (lv_at hl 1 rfl) ?_
  refine lv_iload hx hb dL_law_154 (lv_at hl 0 rfl) ?_
  refine lv_iconst (v := 1) hx hb dL_law_156 (by decide) ?_
  refine lv_iadd hx hb dL_law_157 ?_
  refine va_sld hx hb hX hbl (Nat.not_le.mpr hbl) hS (ix_s (x := 1 + 5 * j) (k := 1) (by omega) hL) dL_law_158 ?_
  refine W.eq (g2 := F0 m 159 ls [.int (xs (1 + 5 * j + 1)), .ref m0, .int (fW n (xs (1 + 5 * j + 1)) (lg (xs (1 + 5 * j + 2)) (xs (1 + 5 * j + 3))) 1000)]) (congrArg (fun z => F0 m 159 ls (.int (xs z) :: [.ref m0, .int (fW n (xs (1 + 5 * j + 1)) (lg (xs (1 + 5 * j + 2)) (xs (1 + 5 * j + 3))) 1000)])) (ix_sc (x := 1 + 5 * j) (k := 1) (by omega))) ?_
  refine lv_aload_n hx hb dL_law_159 rfl (lv_at hl 1 rfl) ?_
  refine lv_iload hx hb dL_law_160 (lv_at hl 0 rfl) ?_
  refine lv_iconst (v := 2) hx hb dL_law_162 (by decide) ?_
  refine lv_iadd hx hb dL_law_163 ?_
  refine va_sld hx hb hX hbl (Nat.not_le.mpr hbl) hS (ix_s (x := 1 + 5 * j) (k := 2) (by omega) hL) dL_law_164 ?_
  refine W.eq (g2 := F0 m 165 ls [.int (xs (1 + 5 * j + 2)), .int (xs (1 + 5 * j + 1)), .ref m0, .int (fW n (xs (1 + 5 * j + 1)) (lg (xs (1 + 5 * j + 2)) (xs (1 + 5 * j + 3))) 1000)]) (congrArg (fun z => F0 m 165 ls (.int (xs z) :: [.int (xs (1 + 5 * j + 1)), .ref m0, .int (fW n (xs (1 + 5 * j + 1)) (lg (xs (1 + 5 * j + 2)) (xs (1 + 5 * j + 3))) 1000)])) (ix_sc (x := 1 + 5 * j) (k := 2) (by omega))) ?_
  refine lv_i2l hx hb dL_law_165 rfl ?_
  refine lv_bipush (v := 32) hx hb dL_law_166 (by decide) ?_
  refine lv_lshl (v := lhi (xs (1 + 5 * j + 2))) hx hb dL_law_168 rfl ?_
  refine lv_aload_n hx hb dL_law_169 rfl (lv_at hl 1 rfl) ?_
  refine lv_iload hx hb dL_law_170 (lv_at hl 0 rfl) ?_
  refine lv_iconst (v := 3) hx hb dL_law_172 (by decide) ?_
  refine lv_iadd hx hb dL_law_173 ?_
  refine va_sld hx hb hX hbl (Nat.not_le.mpr hbl) hS (ix_s (x := 1 + 5 * j) (k := 3) (by omega) hL) dL_law_174 ?_
  refine W.eq (g2 := F0 m 175 ls [.int (xs (1 + 5 * j + 3)), .long (lhi (xs (1 + 5 * j + 2))), .int (xs (1 + 5 * j + 1)), .ref m0, .int (fW n (xs (1 + 5 * j + 1)) (lg (xs (1 + 5 * j + 2)) (xs (1 + 5 * j + 3))) 1000)]) (congrArg (fun z => F0 m 175 ls (.int (xs z) :: [.long (lhi (xs (1 + 5 * j + 2))), .int (xs (1 + 5 * j + 1)), .ref m0, .int (fW n (xs (1 + 5 * j + 1)) (lg (xs (1 + 5 * j + 2)) (xs (1 + 5 * j + 3))) 1000)])) (ix_sc (x := 1 + 5 * j) (k := 3) (by omega))) ?_
  refine lv_i2l hx hb dL_law_175 rfl ?_
  refine lv_ldc2 hx hb hown (hts _ hm1) dL_law_176 ?_
  refine lv_land hx hb dL_law_179 ?_
  refine lv_lor hx hb dL_law_180 ?_
  refine W.eq (g2 := F0 m 181 ls [.long (lg (xs (1 + 5 * j + 2)) (xs (1 + 5 * j + 3))), .int (xs (1 + 5 * j + 1)), .ref m0, .int (fW n (xs (1 + 5 * j + 1)) (lg (xs (1 + 5 * j + 2)) (xs (1 + 5 * j + 3))) 1000)]) rfl ?_
  have hPx : va_P D vwCl (mw m0 a C th (nI n) sp lo ph pr bo mo2 rf gr hd st ch rs) _ := w_PR hP
  have hDx : va_D _ (mw m0 a C th (nI n) sp lo ph pr bo mo2 rf gr hd st ch rs) := w_DR hD
  have hFx := xF hDx hS (fun _ h => h)
  refine va_calli (va_runV (As := [.int (xs (1 + 5 * j + 1)), .long (lg (xs (1 + 5 * j + 2)) (xs (1 + 5 * j + 3)))]) (rest := [.int (fW n (xs (1 + 5 * j + 1)) (lg (xs (1 + 5 * j + 2)) (xs (1 + 5 * j + 3))) 1000)]) ⟨hx, hb, hml, hown, hts⟩ (m2_wheel l D m0 a C n th sp lo ph pr bo mo2 rf gr hd st ch rs hn (xs (1 + 5 * j + 1)) (lg (xs (1 + 5 * j + 2)) (xs (1 + 5 * j + 3))) _) (cwV 2 hts gL_law_X2_wheel rfl rfl rfl (by decide +kernel) ⟨Nat.le_of_ble_eq_true rfl, Nat.le_of_ble_eq_true rfl⟩) ⟨xW_blind, va_recv hKM hPx (ci := 2) (q0 := 0) rfl rfl, xW_at hPx hKM hN hDx⟩ rfl rfl hl.1 rfl (lv_room (Nat.le_of_ble_eq_true rfl)) dL_law_181 ⟨by show _ ≤ 667310; omega, by show _ ≤ 7094139; omega⟩) hS (fun z _ h => hFx z h) hFx (fun r u t H1 locs ht hvm hpo hB hz1 hk1 hS => ?_)
  have hP1 := xB_P hB ht
  obtain ⟨hP, hD⟩ := w_joinR hP hD hk1 hFx hP1 hB.2
  clear hP1 hB hk1 hz1 ht hvm hFx hPx hDx
  obtain ⟨u1, u2⟩ := u
  dsimp only at hpo hP hD
  obtain ⟨rfl, rfl, rfl⟩ := hpo
  replace hP : va_P D vwCl (((cw h0 hw cW n q g (gW n (xs (1 + 5 * j + 1)) (lg (xs (1 + 5 * j + 2)) (xs (1 + 5 * j + 3))) 1000 sp (lg (xs (1 + 5 * j + 2)) (xs (1 + 5 * j + 3)))) lo ph pr bo mo rf hd gr st nx) ++ [(o, .inl (cO, 1, .inr (.inl row)))]) ++ mw m0 a C 0 (nI n) (gW n (xs (1 + 5 * j + 1)) (lg (xs (1 + 5 * j + 2)) (xs (1 + 5 * j + 3))) 1000 sp (lg (xs (1 + 5 * j + 2)) (xs (1 + 5 * j + 3)))) lo ph pr bo mo2 rf gr hd st ch rs) H1 := hP
  replace hD : va_D (fun z : Nat => s.heap.size ≤ z) (((cw h0 hw cW n q g (gW n (xs (1 + 5 * j + 1)) (lg (xs (1 + 5 * j + 2)) (xs (1 + 5 * j + 3))) 1000 sp (lg (xs (1 + 5 * j + 2)) (xs (1 + 5 * j + 3)))) lo ph pr bo mo rf hd gr st nx) ++ [(o, .inl (cO, 1, .inr (.inl row)))]) ++ mw m0 a C 0 (nI n) (gW n (xs (1 + 5 * j + 1)) (lg (xs (1 + 5 * j + 2)) (xs (1 + 5 * j + 3))) 1000 sp (lg (xs (1 + 5 * j + 2)) (xs (1 + 5 * j + 3)))) lo ph pr bo mo2 rf gr hd st ch rs) := hD
  refine lv_icmp_eq (tgt := 790) hx hb dL_law_184 (by decide) (fun c_1 => ?_) (fun c_1 => absurd rfl c_1)
  refine lv_iinc (v := nI (1 + 5 * (j + 1))) (lv' := [(4, .int (nI (1 + 5 * (j + 1)))), (0, .ref b), (1, .ref h0), (2, .ref m0), (3, .ref o)]) hx hb dL_law_790 hl (k := 0) rfl (i_5 j) (by decide) rfl (fun ls hl => ?_)
  refine lv_goto (tgt := 33) hx hb dL_law_793 (by decide) ?_
  refine W.widen (k := 100 + (j + 1)) (n := 1000 + 6 * (j + 1)) (by omega) (by omega) ?_
  exact hnx _ _ _ _ (gW n (xs (1 + 5 * j + 1)) (lg (xs (1 + 5 * j + 2)) (xs (1 + 5 * j + 3))) 1000 sp (lg (xs (1 + 5 * j + 2)) (xs (1 + 5 * j + 3)))) lo ph pr bo mo mo2 rf hd gr st nx ch rs 0 row hdd hP hD hS (INV_wheel hI) (lv_sub hl [0, 1, 2, 3, 4] rfl)
set_option maxHeartbeats 4000000 in
set_option maxRecDepth 100000 in
/-- phase -/
theorem lc_phase {p : Program} {l : Launch} {e : Env} {s : State} {m : MethodId} {below : List Frame} {meth : Method} {c : Code} {b L : Nat} {xs : Nat → Int32} {D : va_G} {cW : ClassId} {h0 hw n : Nat} {q : Nat → Nat} {g : Nat → Option Nat} {m0 : Nat} {a : Nat → Nat} {C : Nat → ClassId} {o : Nat} {cO : ClassId} {sa : Nat} (hE : LE p l s m meth c b L xs D cW n q g C cO sa) {j : Nat} (hj : 1 + 5 * j + 5 ≤ L) (hnx : LN p l e s m below meth c b D cW h0 hw n q g m0 a C o cO j) {dd : Drawn} {H : Heap} {locs : List Loc} {ls : Array Slot} {sp : Nat → Int64} {lo ph : Nat → Int32} {pr bo : Nat → Int64} {mo mo2 : Nat → UInt64} {rf : Int64} {hd gr st nx ch rs th : Int32} {row : Nat → Int64} (hdd : s.drawn.sameBut dd lw_cs) (hP : va_P D vwCl (((cw h0 hw cW n q g sp lo ph pr bo mo rf hd gr st nx) ++ [(o, .inl (cO, 1, .inr (.inl row)))]) ++ mw m0 a C th (nI n) sp lo ph pr bo mo2 rf gr hd st ch rs) H) (hD : va_D (fun z : Nat => s.heap.size ≤ z) (((cw h0 hw cW n q g sp lo ph pr bo mo rf hd gr st nx) ++ [(o, .inl (cO, 1, .inr (.inl row)))]) ++ mw m0 a C th (nI n) sp lo ph pr bo mo2 rf gr hd st ch rs)) (hS : va_S (fun z : Nat => s.heap.size ≤ z) s.heap H locs) (hI : INV n j sp pr bo mo mo2 rf hd st nx ch rs) (hl : lv_has ls 9 [(4, .int (nI (1 + 5 * j))), (0, .ref b), (1, .ref h0), (2, .ref m0), (3, .ref o)]) : W p l e room_1 (s.setDrawn dd) m #[Value.ref b] below meth c H locs (100 + j) (1000 + 6 * j) (lw_Z below #[Value.ref b] s) (F0 m 290 ls []) := by
  obtain ⟨hx, hb, hr, hml, hown, hts0, hX0, hbl, hlocks, hKC0, hKM0, hKO0, hN0, hL, hn, h2, hg, hst, hTA⟩ := hE
  have hts := dr_words hts0 dd
  have hN := cN_draw (d := dd) hN0
  have hKC : va_K D vwCl [(cW, .object RX0)] (s.setDrawn dd) := hKC0
  have hKM : va_K D vwCl [(C 1, .long), (C 2, .boolean), (C 3, .int), (C 4, .long), (C 5, .long), (C 6, .double)] (s.setDrawn dd) := hKM0
  have hKO : va_K D vwCl [(cO, .long)] (s.setDrawn dd) := hKO0
  have hX : va_X b L xs (s.setDrawn dd) s.heap := hX0
  refine lv_aload_n hx hb dL_law_290 rfl (lv_at hl 2 rfl) ?_
  refine lv_aload_n hx hb dL_law_291 rfl (lv_at hl 1 rfl) ?_
  refine lv_iload hx hb dL_law_292 (lv_at hl 0 rfl) ?_
  refine lv_iconst (v := 1) hx hb dL_law_294 (by decide) ?_
  refine lv_iadd hx hb dL_law_295 ?_
  refine va_sld hx hb hX hbl (Nat.not_le.mpr hbl) hS (ix_s (x := 1 + 5 * j) (k := 1) (by omega) hL) dL_law_296 ?_
  refine W.eq (g2 := F0 m 297 ls [.int (xs (1 + 5 * j + 1)), .ref h0]) (congrArg (fun z => F0 m 297 ls (.int (xs z) :: [.ref h0])) (ix_sc (x := 1 + 5 * j) (k := 1) (by omega))) ?_
  have hPx : va_P D vwCl (cw h0 hw cW n q g sp lo ph pr bo mo rf hd gr st nx) _ := w_PL (w_PL hP)
  have hDx : va_D _ (cw h0 hw cW n q g sp lo ph pr bo mo rf hd gr st nx) := w_DL (w_DL hD)
  refine vp_callSi (W.runV (As := [.int (xs (1 + 5 * j + 1))]) (rest := []) ⟨hx, hb, hml, hown, hts⟩ (c1_phase l D cW h0 hw n q g sp lo ph pr bo mo rf hd gr st nx hn hg (xs (1 + 5 * j + 1))) (cwV 1 hts gL_law_X1_phase rfl rfl rfl (by decide +kernel) ⟨Nat.le_of_ble_eq_true rfl, Nat.le_of_ble_eq_true rfl⟩) ⟨xP_blind, va_recv hKC hPx (ci := 1) (q0 := 0) rfl rfl, xP_at hPx hKC hN⟩ rfl rfl hl.1 rfl (lv_room (Nat.le_of_ble_eq_true rfl)) dL_law_297 ⟨by show _ ≤ 667310; omega, by show _ ≤ 7094139; omega⟩) (fun r hr_1 => ?_)
  rw [hr_1]
  clear hPx hDx
  refine lv_aload_n hx hb dL_law_300 rfl (lv_at hl 3 rfl) ?_
  refine lv_aload_n hx hb dL_law_301 rfl (lv_at hl 1 rfl) ?_
  refine lv_iload hx hb dL_law_302 (lv_at hl 0 rfl) ?_
  refine lv_iconst (v := 1) hx hb dL_law_304 (by decide) ?_
  refine lv_iadd hx hb dL_law_305 ?_
  refine va_sld hx hb hX hbl (Nat.not_le.mpr hbl) hS (ix_s (x := 1 + 5 * j) (k := 1) (by omega) hL) dL_law_306 ?_
  refine W.eq (g2 := F0 m 307 ls [.int (xs (1 + 5 * j + 1)), .ref m0, .int (if wOut n (xs (1 + 5 * j + 1)) then -1 else ph ((xs (1 + 5 * j + 1))).toNatClampNeg)]) (congrArg (fun z => F0 m 307 ls (.int (xs z) :: [.ref m0, .int (if wOut n (xs (1 + 5 * j + 1)) then -1 else ph ((xs (1 + 5 * j + 1))).toNatClampNeg)])) (ix_sc (x := 1 + 5 * j) (k := 1) (by omega))) ?_
  have hPx : va_P D vwCl (mw m0 a C th (nI n) sp lo ph pr bo mo2 rf gr hd st ch rs) _ := w_PR hP
  have hDx : va_D _ (mw m0 a C th (nI n) sp lo ph pr bo mo2 rf gr hd st ch rs) := w_DR hD
  have hFx := xF hDx hS (fun _ h => h)
  refine va_calli (va_runV (As := [.int (xs (1 + 5 * j + 1))]) (rest := [.int (if wOut n (xs (1 + 5 * j + 1)) then -1 else ph ((xs (1 + 5 * j + 1))).toNatClampNeg)]) ⟨hx, hb, hml, hown, hts⟩ (m2_phase l D m0 a C n th sp lo ph pr bo mo2 rf gr hd st ch rs hn (xs (1 + 5 * j + 1)) _) (cwV 1 hts gL_law_X2_phase rfl rfl rfl (by decide +kernel) ⟨Nat.le_of_ble_eq_true rfl, Nat.le_of_ble_eq_true rfl⟩) ⟨xW_blind, va_recv hKM hPx (ci := 2) (q0 := 0) rfl rfl, xW_at hPx hKM hN hDx⟩ rfl rfl hl.1 rfl (lv_room (Nat.le_of_ble_eq_true rfl)) dL_law_307 ⟨by show _ ≤ 667310; omega, by show _ ≤ 7094139; omega⟩) hS (fun z _ h => hFx z h) hFx (fun r u t H1 locs ht hvm hpo hB hz1 hk1 hS => ?_)
  have hP1 := xB_P hB ht
  obtain ⟨hP, hD⟩ := w_joinR hP hD hk1 hFx hP1 hB.2
  clear hP1 hB hk1 hz1 ht hvm hFx hPx hDx
  obtain ⟨rfl, rfl⟩ := hpo
  replace hP : va_P D vwCl (((cw h0 hw cW n q g sp lo ph pr bo mo rf hd gr st nx) ++ [(o, .inl (cO, 1, .inr (.inl row)))]) ++ mw m0 a C 0 (nI n) sp lo ph pr bo mo2 rf gr hd st ch rs) H1 := hP
  replace hD : va_D (fun z : Nat => s.heap.size ≤ z) (((cw h0 hw cW n q g sp lo ph pr bo mo rf hd gr st nx) ++ [(o, .inl (cO, 1, .inr (.inl row)))]) ++ mw m0 a C 0 (nI n) sp lo ph pr bo mo2 rf gr hd st ch rs) := hD
  refine lv_icmp_eq (tgt := 790) hx hb dL_law_310 (by decide) (fun c_2 => ?_) (fun c_2 => absurd rfl c_2)
  refine lv_iinc (v := nI (1 + 5 * (j + 1))) (lv' := [(4, .int (nI (1 + 5 * (j + 1)))), (0, .ref b), (1, .ref h0), (2, .ref m0), (3, .ref o)]) hx hb dL_law_790 hl (k := 0) rfl (i_5 j) (by decide) rfl (fun ls hl => ?_)
  refine lv_goto (tgt := 33) hx hb dL_law_793 (by decide) ?_
  refine W.widen (k := 100 + (j + 1)) (n := 1000 + 6 * (j + 1)) (by omega) (by omega) ?_
  exact hnx _ _ _ _ sp lo ph pr bo mo mo2 rf hd gr st nx ch rs 0 row hdd hP hD hS (INV_same hI) (lv_sub hl [0, 1, 2, 3, 4] rfl)
set_option maxHeartbeats 4000000 in
set_option maxRecDepth 100000 in
/-- pressure -/
theorem lc_pressure {p : Program} {l : Launch} {e : Env} {s : State} {m : MethodId} {below : List Frame} {meth : Method} {c : Code} {b L : Nat} {xs : Nat → Int32} {D : va_G} {cW : ClassId} {h0 hw n : Nat} {q : Nat → Nat} {g : Nat → Option Nat} {m0 : Nat} {a : Nat → Nat} {C : Nat → ClassId} {o : Nat} {cO : ClassId} {sa : Nat} (hE : LE p l s m meth c b L xs D cW n q g C cO sa) {j : Nat} (hj : 1 + 5 * j + 5 ≤ L) (hnx : LN p l e s m below meth c b D cW h0 hw n q g m0 a C o cO j) {dd : Drawn} {H : Heap} {locs : List Loc} {ls : Array Slot} {sp : Nat → Int64} {lo ph : Nat → Int32} {pr bo : Nat → Int64} {mo mo2 : Nat → UInt64} {rf : Int64} {hd gr st nx ch rs th : Int32} {row : Nat → Int64} (hdd : s.drawn.sameBut dd lw_cs) (hP : va_P D vwCl (((cw h0 hw cW n q g sp lo ph pr bo mo rf hd gr st nx) ++ [(o, .inl (cO, 1, .inr (.inl row)))]) ++ mw m0 a C th (nI n) sp lo ph pr bo mo2 rf gr hd st ch rs) H) (hD : va_D (fun z : Nat => s.heap.size ≤ z) (((cw h0 hw cW n q g sp lo ph pr bo mo rf hd gr st nx) ++ [(o, .inl (cO, 1, .inr (.inl row)))]) ++ mw m0 a C th (nI n) sp lo ph pr bo mo2 rf gr hd st ch rs)) (hS : va_S (fun z : Nat => s.heap.size ≤ z) s.heap H locs) (hI : INV n j sp pr bo mo mo2 rf hd st nx ch rs) (hl : lv_has ls 9 [(4, .int (nI (1 + 5 * j))), (0, .ref b), (1, .ref h0), (2, .ref m0), (3, .ref o)]) : W p l e room_1 (s.setDrawn dd) m #[Value.ref b] below meth c H locs (100 + j) (1000 + 6 * j) (lw_Z below #[Value.ref b] s) (F0 m 315 ls []) := by
  obtain ⟨hx, hb, hr, hml, hown, hts0, hX0, hbl, hlocks, hKC0, hKM0, hKO0, hN0, hL, hn, h2, hg, hst, hTA⟩ := hE
  have hts := dr_words hts0 dd
  have hN := cN_draw (d := dd) hN0
  have hKC : va_K D vwCl [(cW, .object RX0)] (s.setDrawn dd) := hKC0
  have hKM : va_K D vwCl [(C 1, .long), (C 2, .boolean), (C 3, .int), (C 4, .long), (C 5, .long), (C 6, .double)] (s.setDrawn dd) := hKM0
  have hKO : va_K D vwCl [(cO, .long)] (s.setDrawn dd) := hKO0
  have hX : va_X b L xs (s.setDrawn dd) s.heap := hX0
  refine lv_aload_n hx hb dL_law_315 rfl (lv_at hl 2 rfl) ?_
  refine lv_aload_n hx hb dL_law_316 rfl (lv_at hl 1 rfl) ?_
  refine lv_iload hx hb dL_law_317 (lv_at hl 0 rfl) ?_
  refine lv_iconst (v := 1) hx hb dL_law_319 (by decide) ?_
  refine lv_iadd hx hb dL_law_320 ?_
  refine va_sld hx hb hX hbl (Nat.not_le.mpr hbl) hS (ix_s (x := 1 + 5 * j) (k := 1) (by omega) hL) dL_law_321 ?_
  refine W.eq (g2 := F0 m 322 ls [.int (xs (1 + 5 * j + 1)), .ref h0]) (congrArg (fun z => F0 m 322 ls (.int (xs z) :: [.ref h0])) (ix_sc (x := 1 + 5 * j) (k := 1) (by omega))) ?_
  have hPx : va_P D vwCl (cw h0 hw cW n q g sp lo ph pr bo mo rf hd gr st nx) _ := w_PL (w_PL hP)
  have hDx : va_D _ (cw h0 hw cW n q g sp lo ph pr bo mo rf hd gr st nx) := w_DL (w_DL hD)
  refine vp_callSl (W.runV (As := [.int (xs (1 + 5 * j + 1))]) (rest := []) ⟨hx, hb, hml, hown, hts⟩ (c1_pressure l D cW h0 hw n q g sp lo ph pr bo mo rf hd gr st nx hn hg (xs (1 + 5 * j + 1))) (cwV 1 hts gL_law_X1_pressure rfl rfl rfl (by decide +kernel) ⟨Nat.le_of_ble_eq_true rfl, Nat.le_of_ble_eq_true rfl⟩) ⟨xP_blind, va_recv hKC hPx (ci := 1) (q0 := 0) rfl rfl, xP_at hPx hKC hN⟩ rfl rfl hl.1 rfl (lv_room (Nat.le_of_ble_eq_true rfl)) dL_law_322 ⟨by show _ ≤ 667310; omega, by show _ ≤ 7094139; omega⟩) (fun r hr_1 => ?_)
  rw [hr_1]
  clear hPx hDx
  refine lv_aload_n hx hb dL_law_325 rfl (lv_at hl 3 rfl) ?_
  refine lv_aload_n hx hb dL_law_326 rfl (lv_at hl 1 rfl) ?_
  refine lv_iload hx hb dL_law_327 (lv_at hl 0 rfl) ?_
  refine lv_iconst (v := 1) hx hb dL_law_329 (by decide) ?_
  refine lv_iadd hx hb dL_law_330 ?_
  refine va_sld hx hb hX hbl (Nat.not_le.mpr hbl) hS (ix_s (x := 1 + 5 * j) (k := 1) (by omega) hL) dL_law_331 ?_
  refine W.eq (g2 := F0 m 332 ls [.int (xs (1 + 5 * j + 1)), .ref m0, .long (if wOut n (xs (1 + 5 * j + 1)) then -1 else pr ((xs (1 + 5 * j + 1))).toNatClampNeg)]) (congrArg (fun z => F0 m 332 ls (.int (xs z) :: [.ref m0, .long (if wOut n (xs (1 + 5 * j + 1)) then -1 else pr ((xs (1 + 5 * j + 1))).toNatClampNeg)])) (ix_sc (x := 1 + 5 * j) (k := 1) (by omega))) ?_
  have hPx : va_P D vwCl (mw m0 a C th (nI n) sp lo ph pr bo mo2 rf gr hd st ch rs) _ := w_PR hP
  have hDx : va_D _ (mw m0 a C th (nI n) sp lo ph pr bo mo2 rf gr hd st ch rs) := w_DR hD
  have hFx := xF hDx hS (fun _ h => h)
  refine va_calll (va_runV (As := [.int (xs (1 + 5 * j + 1))]) (rest := [.long (if wOut n (xs (1 + 5 * j + 1)) then -1 else pr ((xs (1 + 5 * j + 1))).toNatClampNeg)]) ⟨hx, hb, hml, hown, hts⟩ (m2_pressure l D m0 a C n th sp lo ph pr bo mo2 rf gr hd st ch rs hn (xs (1 + 5 * j + 1)) _) (cwV 1 hts gL_law_X2_pressure rfl rfl rfl (by decide +kernel) ⟨Nat.le_of_ble_eq_true rfl, Nat.le_of_ble_eq_true rfl⟩) ⟨xW_blind, va_recv hKM hPx (ci := 2) (q0 := 0) rfl rfl, xW_at hPx hKM hN hDx⟩ rfl rfl hl.1 rfl (lv_room (Nat.le_of_ble_eq_true rfl)) dL_law_332 ⟨by show _ ≤ 667310; omega, by show _ ≤ 7094139; omega⟩) hS (fun z _ h => hFx z h) hFx (fun r u t H1 locs ht hvm hpo hB hz1 hk1 hS => ?_)
  have hP1 := xB_P hB ht
  obtain ⟨hP, hD⟩ := w_joinR hP hD hk1 hFx hP1 hB.2
  clear hP1 hB hk1 hz1 ht hvm hFx hPx hDx
  obtain ⟨rfl, rfl⟩ := hpo
  replace hP : va_P D vwCl (((cw h0 hw cW n q g sp lo ph pr bo mo rf hd gr st nx) ++ [(o, .inl (cO, 1, .inr (.inl row)))]) ++ mw m0 a C 0 (nI n) sp lo ph pr bo mo2 rf gr hd st ch rs) H1 := hP
  replace hD : va_D (fun z : Nat => s.heap.size ≤ z) (((cw h0 hw cW n q g sp lo ph pr bo mo rf hd gr st nx) ++ [(o, .inl (cO, 1, .inr (.inl row)))]) ++ mw m0 a C 0 (nI n) sp lo ph pr bo mo2 rf gr hd st ch rs) := hD
  refine W.lcmp hx hb dL_law_335 ?_
  refine lv_if_eq (tgt := 790) hx hb dL_law_336 (by decide) (fun c_2 => ?_) (fun c_2 => absurd ((lg_cmp_eq _ _).mpr rfl) c_2)
  refine lv_iinc (v := nI (1 + 5 * (j + 1))) (lv' := [(4, .int (nI (1 + 5 * (j + 1)))), (0, .ref b), (1, .ref h0), (2, .ref m0), (3, .ref o)]) hx hb dL_law_790 hl (k := 0) rfl (i_5 j) (by decide) rfl (fun ls hl => ?_)
  refine lv_goto (tgt := 33) hx hb dL_law_793 (by decide) ?_
  refine W.widen (k := 100 + (j + 1)) (n := 1000 + 6 * (j + 1)) (by omega) (by omega) ?_
  exact hnx _ _ _ _ sp lo ph pr bo mo mo2 rf hd gr st nx ch rs 0 row hdd hP hD hS (INV_same hI) (lv_sub hl [0, 1, 2, 3, 4] rfl)
set_option maxHeartbeats 4000000 in
set_option maxRecDepth 100000 in
/-- yaw -/
theorem lc_yaw {p : Program} {l : Launch} {e : Env} {s : State} {m : MethodId} {below : List Frame} {meth : Method} {c : Code} {b L : Nat} {xs : Nat → Int32} {D : va_G} {cW : ClassId} {h0 hw n : Nat} {q : Nat → Nat} {g : Nat → Option Nat} {m0 : Nat} {a : Nat → Nat} {C : Nat → ClassId} {o : Nat} {cO : ClassId} {sa : Nat} (hE : LE p l s m meth c b L xs D cW n q g C cO sa) {j : Nat} (hj : 1 + 5 * j + 5 ≤ L) (hnx : LN p l e s m below meth c b D cW h0 hw n q g m0 a C o cO j) {dd : Drawn} {H : Heap} {locs : List Loc} {ls : Array Slot} {sp : Nat → Int64} {lo ph : Nat → Int32} {pr bo : Nat → Int64} {mo mo2 : Nat → UInt64} {rf : Int64} {hd gr st nx ch rs th : Int32} {row : Nat → Int64} (hdd : s.drawn.sameBut dd lw_cs) (hP : va_P D vwCl (((cw h0 hw cW n q g sp lo ph pr bo mo rf hd gr st nx) ++ [(o, .inl (cO, 1, .inr (.inl row)))]) ++ mw m0 a C th (nI n) sp lo ph pr bo mo2 rf gr hd st ch rs) H) (hD : va_D (fun z : Nat => s.heap.size ≤ z) (((cw h0 hw cW n q g sp lo ph pr bo mo rf hd gr st nx) ++ [(o, .inl (cO, 1, .inr (.inl row)))]) ++ mw m0 a C th (nI n) sp lo ph pr bo mo2 rf gr hd st ch rs)) (hS : va_S (fun z : Nat => s.heap.size ≤ z) s.heap H locs) (hI : INV n j sp pr bo mo mo2 rf hd st nx ch rs) (hl : lv_has ls 9 [(4, .int (nI (1 + 5 * j))), (0, .ref b), (1, .ref h0), (2, .ref m0), (3, .ref o)]) : W p l e room_1 (s.setDrawn dd) m #[Value.ref b] below meth c H locs (100 + j) (1000 + 6 * j) (lw_Z below #[Value.ref b] s) (F0 m 341 ls []) := by
  obtain ⟨hx, hb, hr, hml, hown, hts0, hX0, hbl, hlocks, hKC0, hKM0, hKO0, hN0, hL, hn, h2, hg, hst, hTA⟩ := hE
  have hm1 : (.constantLong RL 27 (4294967295) : Cond) ∈ wsL_law := by decide +kernel
  have hts := dr_words hts0 dd
  have hN := cN_draw (d := dd) hN0
  have hKC : va_K D vwCl [(cW, .object RX0)] (s.setDrawn dd) := hKC0
  have hKM : va_K D vwCl [(C 1, .long), (C 2, .boolean), (C 3, .int), (C 4, .long), (C 5, .long), (C 6, .double)] (s.setDrawn dd) := hKM0
  have hKO : va_K D vwCl [(cO, .long)] (s.setDrawn dd) := hKO0
  have hX : va_X b L xs (s.setDrawn dd) s.heap := hX0
  refine lv_aload_n hx hb dL_law_341 rfl (lv_at hl 2 rfl) ?_
  refine lv_aload_n hx hb dL_law_342 rfl (lv_at hl 1 rfl) ?_
  refine lv_iload hx hb dL_law_343 (lv_at hl 0 rfl) ?_
  refine lv_iconst (v := 1) hx hb dL_law_345 (by decide) ?_
  refine lv_iadd hx hb dL_law_346 ?_
  refine va_sld hx hb hX hbl (Nat.not_le.mpr hbl) hS (ix_s (x := 1 + 5 * j) (k := 1) (by omega) hL) dL_law_347 ?_
  refine W.eq (g2 := F0 m 348 ls [.int (xs (1 + 5 * j + 1)), .ref h0]) (congrArg (fun z => F0 m 348 ls (.int (xs z) :: [.ref h0])) (ix_sc (x := 1 + 5 * j) (k := 1) (by omega))) ?_
  refine lv_i2l hx hb dL_law_348 rfl ?_
  refine lv_bipush (v := 32) hx hb dL_law_349 (by decide) ?_
  refine lv_lshl (v := lhi (xs (1 + 5 * j + 1))) hx hb dL_law_351 rfl ?_
  refine lv_aload_n hx hb dL_law_352 rfl (lv_at hl 1 rfl) ?_
  refine lv_iload hx hb dL_law_353 (lv_at hl 0 rfl) ?_
  refine lv_iconst (v := 2) hx hb dL_law_355 (by decide) ?_
  refine lv_iadd hx hb dL_law_356 ?_
  refine va_sld hx hb hX hbl (Nat.not_le.mpr hbl) hS (ix_s (x := 1 + 5 * j) (k := 2) (by omega) hL) dL_law_357 ?_
  refine W.eq (g2 := F0 m 358 ls [.int (xs (1 + 5 * j + 2)), .long (lhi (xs (1 + 5 * j + 1))), .ref h0]) (congrArg (fun z => F0 m 358 ls (.int (xs z) :: [.long (lhi (xs (1 + 5 * j + 1))), .ref h0])) (ix_sc (x := 1 + 5 * j) (k := 2) (by omega))) ?_
  refine lv_i2l hx hb dL_law_358 rfl ?_
  refine lv_ldc2 hx hb hown (hts _ hm1) dL_law_359 ?_
  refine lv_land hx hb dL_law_362 ?_
  refine lv_lor hx hb dL_law_363 ?_
  refine W.eq (g2 := F0 m 364 ls [.long (lg (xs (1 + 5 * j + 1)) (xs (1 + 5 * j + 2))), .ref h0]) rfl ?_
  refine lv_aload_n hx hb dL_law_364 rfl (lv_at hl 1 rfl) ?_
  refine lv_iload hx hb dL_law_365 (lv_at hl 0 rfl) ?_
  refine lv_iconst (v := 3) hx hb dL_law_367 (by decide) ?_
  refine lv_iadd hx hb dL_law_368 ?_
  refine va_sld hx hb hX hbl (Nat.not_le.mpr hbl) hS (ix_s (x := 1 + 5 * j) (k := 3) (by omega) hL) dL_law_369 ?_
  refine W.eq (g2 := F0 m 370 ls [.int (xs (1 + 5 * j + 3)), .long (lg (xs (1 + 5 * j + 1)) (xs (1 + 5 * j + 2))), .ref h0]) (congrArg (fun z => F0 m 370 ls (.int (xs z) :: [.long (lg (xs (1 + 5 * j + 1)) (xs (1 + 5 * j + 2))), .ref h0])) (ix_sc (x := 1 + 5 * j) (k := 3) (by omega))) ?_
  refine lv_i2l hx hb dL_law_370 rfl ?_
  refine lv_bipush (v := 32) hx hb dL_law_371 (by decide) ?_
  refine lv_lshl (v := lhi (xs (1 + 5 * j + 3))) hx hb dL_law_373 rfl ?_
  refine lv_aload_n hx hb dL_law_374 rfl (lv_at hl 1 rfl) ?_
  refine lv_iload hx hb dL_law_375 (lv_at hl 0 rfl) ?_
  refine lv_iconst (v := 4) hx hb dL_law_377 (by decide) ?_
  refine lv_iadd hx hb dL_law_378 ?_
  refine va_sld hx hb hX hbl (Nat.not_le.mpr hbl) hS (ix_s (x := 1 + 5 * j) (k := 4) (by omega) hL) dL_law_379 ?_
  refine W.eq (g2 := F0 m 380 ls [.int (xs (1 + 5 * j + 4)), .long (lhi (xs (1 + 5 * j + 3))), .long (lg (xs (1 + 5 * j + 1)) (xs (1 + 5 * j + 2))), .ref h0]) (congrArg (fun z => F0 m 380 ls (.int (xs z) :: [.long (lhi (xs (1 + 5 * j + 3))), .long (lg (xs (1 + 5 * j + 1)) (xs (1 + 5 * j + 2))), .ref h0])) (ix_sc (x := 1 + 5 * j) (k := 4) (by omega))) ?_
  refine lv_i2l hx hb dL_law_380 rfl ?_
  refine lv_ldc2 hx hb hown (hts _ hm1) dL_law_381 ?_
  refine lv_land hx hb dL_law_384 ?_
  refine lv_lor hx hb dL_law_385 ?_
  refine W.eq (g2 := F0 m 386 ls [.long (lg (xs (1 + 5 * j + 3)) (xs (1 + 5 * j + 4))), .long (lg (xs (1 + 5 * j + 1)) (xs (1 + 5 * j + 2))), .ref h0]) rfl ?_
  have hPx : va_P D vwCl (cw h0 hw cW n q g sp lo ph pr bo mo rf hd gr st nx) _ := w_PL (w_PL hP)
  have hDx : va_D _ (cw h0 hw cW n q g sp lo ph pr bo mo rf hd gr st nx) := w_DL (w_DL hD)
  have hFx := xF hDx hS (fun _ h => h)
  refine va_calli (va_runV (As := [.long (lg (xs (1 + 5 * j + 1)) (xs (1 + 5 * j + 2))), .long (lg (xs (1 + 5 * j + 3)) (xs (1 + 5 * j + 4)))]) (rest := []) ⟨hx, hb, hml, hown, hts⟩ (c1_yaw l D cW h0 hw n q g sp lo ph pr bo mo rf hd gr st nx hn hg h2 (lg (xs (1 + 5 * j + 1)) (xs (1 + 5 * j + 2))) (lg (xs (1 + 5 * j + 3)) (xs (1 + 5 * j + 4))) _) (cwV 2 hts gL_law_X1_yaw rfl rfl rfl (by decide +kernel) ⟨Nat.le_of_ble_eq_true rfl, Nat.le_of_ble_eq_true rfl⟩) ⟨xW_blind, va_recv hKC hPx (ci := 1) (q0 := 0) rfl rfl, xW_at hPx hKC hN hDx⟩ rfl rfl hl.1 rfl (lv_room (Nat.le_of_ble_eq_true rfl)) dL_law_386 ⟨by show _ ≤ 667310; omega, by show _ ≤ 7094139; omega⟩) hS (fun z _ h => hFx z h) hFx (fun r u t H1 locs ht hvm hpo hB hz1 hk1 hS => ?_)
  have hP1 := xB_P hB ht
  obtain ⟨hP, hD⟩ := w_joinLL hP hD hk1 hFx hP1 hB.2
  clear hP1 hB hk1 hz1 ht hvm hFx hPx hDx
  rw [yaw_r, yaw_u] at hpo
  obtain ⟨rfl, rfl⟩ := hpo
  replace hP : va_P D vwCl (((cw h0 hw cW n q g sp lo ph (gYaw mMin (lg (xs (1 + 5 * j + 1)) (xs (1 + 5 * j + 2))) (lg (xs (1 + 5 * j + 3)) (xs (1 + 5 * j + 4))) (mApart (lg (xs (1 + 5 * j + 1)) (xs (1 + 5 * j + 2))) (lg (xs (1 + 5 * j + 3)) (xs (1 + 5 * j + 4)))) (cnt lo n) pr bo) bo mo rf hd gr st nx) ++ [(o, .inl (cO, 1, .inr (.inl row)))]) ++ mw m0 a C th (nI n) sp lo ph pr bo mo2 rf gr hd st ch rs) H1 := hP
  replace hD : va_D (fun z : Nat => s.heap.size ≤ z) (((cw h0 hw cW n q g sp lo ph (gYaw mMin (lg (xs (1 + 5 * j + 1)) (xs (1 + 5 * j + 2))) (lg (xs (1 + 5 * j + 3)) (xs (1 + 5 * j + 4))) (mApart (lg (xs (1 + 5 * j + 1)) (xs (1 + 5 * j + 2))) (lg (xs (1 + 5 * j + 3)) (xs (1 + 5 * j + 4)))) (cnt lo n) pr bo) bo mo rf hd gr st nx) ++ [(o, .inl (cO, 1, .inr (.inl row)))]) ++ mw m0 a C th (nI n) sp lo ph pr bo mo2 rf gr hd st ch rs) := hD
  refine lv_aload_n hx hb dL_law_389 rfl (lv_at hl 3 rfl) ?_
  refine lv_aload_n hx hb dL_law_390 rfl (lv_at hl 1 rfl) ?_
  refine lv_iload hx hb dL_law_391 (lv_at hl 0 rfl) ?_
  refine lv_iconst (v := 1) hx hb dL_law_393 (by decide) ?_
  refine lv_iadd hx hb dL_law_394 ?_
  refine va_sld hx hb hX hbl (Nat.not_le.mpr hbl) hS (ix_s (x := 1 + 5 * j) (k := 1) (by omega) hL) dL_law_395 ?_
  refine W.eq (g2 := F0 m 396 ls [.int (xs (1 + 5 * j + 1)), .ref m0, .int (sYaw (lg (xs (1 + 5 * j + 1)) (xs (1 + 5 * j + 2))) (lg (xs (1 + 5 * j + 3)) (xs (1 + 5 * j + 4))) (mApart (lg (xs (1 + 5 * j + 1)) (xs (1 + 5 * j + 2))) (lg (xs (1 + 5 * j + 3)) (xs (1 + 5 * j + 4)))) (cnt lo n))]) (congrArg (fun z => F0 m 396 ls (.int (xs z) :: [.ref m0, .int (sYaw (lg (xs (1 + 5 * j + 1)) (xs (1 + 5 * j + 2))) (lg (xs (1 + 5 * j + 3)) (xs (1 + 5 * j + 4))) (mApart (lg (xs (1 + 5 * j + 1)) (xs (1 + 5 * j + 2))) (lg (xs (1 + 5 * j + 3)) (xs (1 + 5 * j + 4)))) (cnt lo n))])) (ix_sc (x := 1 + 5 * j) (k := 1) (by omega))) ?_
  refine lv_i2l hx hb dL_law_396 rfl ?_
  refine lv_bipush (v := 32) hx hb dL_law_397 (by decide) ?_
  refine lv_lshl (v := lhi (xs (1 + 5 * j + 1))) hx hb dL_law_399 rfl ?_
  refine lv_aload_n hx hb dL_law_400 rfl (lv_at hl 1 rfl) ?_
  refine lv_iload hx hb dL_law_401 (lv_at hl 0 rfl) ?_
  refine lv_iconst (v := 2) hx hb dL_law_403 (by decide) ?_
  refine lv_iadd hx hb dL_law_404 ?_
  refine va_sld hx hb hX hbl (Nat.not_le.mpr hbl) hS (ix_s (x := 1 + 5 * j) (k := 2) (by omega) hL) dL_law_405 ?_
  refine W.eq (g2 := F0 m 406 ls [.int (xs (1 + 5 * j + 2)), .long (lhi (xs (1 + 5 * j + 1))), .ref m0, .int (sYaw (lg (xs (1 + 5 * j + 1)) (xs (1 + 5 * j + 2))) (lg (xs (1 + 5 * j + 3)) (xs (1 + 5 * j + 4))) (mApart (lg (xs (1 + 5 * j + 1)) (xs (1 + 5 * j + 2))) (lg (xs (1 + 5 * j + 3)) (xs (1 + 5 * j + 4)))) (cnt lo n))]) (congrArg (fun z => F0 m 406 ls (.int (xs z) :: [.long (lhi (xs (1 + 5 * j + 1))), .ref m0, .int (sYaw (lg (xs (1 + 5 * j + 1)) (xs (1 + 5 * j + 2))) (lg (xs (1 + 5 * j + 3)) (xs (1 + 5 * j + 4))) (mApart (lg (xs (1 + 5 * j + 1)) (xs (1 + 5 * j + 2))) (lg (xs (1 + 5 * j + 3)) (xs (1 + 5 * j + 4)))) (cnt lo n))])) (ix_sc (x := 1 + 5 * j) (k := 2) (by omega))) ?_
  refine lv_i2l hx hb dL_law_406 rfl ?_
  refine lv_ldc2 hx hb hown (hts _ hm1) dL_law_407 ?_
  refine lv_land hx hb dL_law_410 ?_
  refine lv_lor hx hb dL_law_411 ?_
  refine W.eq (g2 := F0 m 412 ls [.long (lg (xs (1 + 5 * j + 1)) (xs (1 + 5 * j + 2))), .ref m0, .int (sYaw (lg (xs (1 + 5 * j + 1)) (xs (1 + 5 * j + 2))) (lg (xs (1 + 5 * j + 3)) (xs (1 + 5 * j + 4))) (mApart (lg (xs (1 + 5 * j + 1)) (xs (1 + 5 * j + 2))) (lg (xs (1 + 5 * j + 3)) (xs (1 + 5 * j + 4)))) (cnt lo n))]) rfl ?_
  refine lv_aload_n hx hb dL_law_412 rfl (lv_at hl 1 rfl) ?_
  refine lv_iload hx hb dL_law_413 (lv_at hl 0 rfl) ?_
  refine lv_iconst (v := 3) hx hb dL_law_415 (by decide) ?_
  refine lv_iadd hx hb dL_law_416 ?_
  refine va_sld hx hb hX hbl (Nat.not_le.mpr hbl) hS (ix_s (x := 1 + 5 * j) (k := 3) (by omega) hL) dL_law_417 ?_
  refine W.eq (g2 := F0 m 418 ls [.int (xs (1 + 5 * j + 3)), .long (lg (xs (1 + 5 * j + 1)) (xs (1 + 5 * j + 2))), .ref m0, .int (sYaw (lg (xs (1 + 5 * j + 1)) (xs (1 + 5 * j + 2))) (lg (xs (1 + 5 * j + 3)) (xs (1 + 5 * j + 4))) (mApart (lg (xs (1 + 5 * j + 1)) (xs (1 + 5 * j + 2))) (lg (xs (1 + 5 * j + 3)) (xs (1 + 5 * j + 4)))) (cnt lo n))]) (congrArg (fun z => F0 m 418 ls (.int (xs z) :: [.long (lg (xs (1 + 5 * j + 1)) (xs (1 + 5 * j + 2))), .ref m0, .int (sYaw (lg (xs (1 + 5 * j + 1)) (xs (1 + 5 * j + 2))) (lg (xs (1 + 5 * j + 3)) (xs (1 + 5 * j + 4))) (mApart (lg (xs (1 + 5 * j + 1)) (xs (1 + 5 * j + 2))) (lg (xs (1 + 5 * j + 3)) (xs (1 + 5 * j + 4)))) (cnt lo n))])) (ix_sc (x := 1 + 5 * j) (k := 3) (by omega))) ?_
  refine lv_i2l hx hb dL_law_418 rfl ?_
  refine lv_bipush (v := 32) hx hb dL_law_419 (by decide) ?_
  refine lv_lshl (v := lhi (xs (1 + 5 * j + 3))) hx hb dL_law_421 rfl ?_
  refine lv_aload_n hx hb dL_law_422 rfl (lv_at hl 1 rfl) ?_
  refine lv_iload hx hb dL_law_423 (lv_at hl 0 rfl) ?_
  refine lv_iconst (v := 4) hx hb dL_law_425 (by decide) ?_
  refine lv_iadd hx hb dL_law_426 ?_
  refine va_sld hx hb hX hbl (Nat.not_le.mpr hbl) hS (ix_s (x := 1 + 5 * j) (k := 4) (by omega) hL) dL_law_427 ?_
  refine W.eq (g2 := F0 m 428 ls [.int (xs (1 + 5 * j + 4)), .long (lhi (xs (1 + 5 * j + 3))), .long (lg (xs (1 + 5 * j + 1)) (xs (1 + 5 * j + 2))), .ref m0, .int (sYaw (lg (xs (1 + 5 * j + 1)) (xs (1 + 5 * j + 2))) (lg (xs (1 + 5 * j + 3)) (xs (1 + 5 * j + 4))) (mApart (lg (xs (1 + 5 * j + 1)) (xs (1 + 5 * j + 2))) (lg (xs (1 + 5 * j + 3)) (xs (1 + 5 * j + 4)))) (cnt lo n))]) (congrArg (fun z => F0 m 428 ls (.int (xs z) :: [.long (lhi (xs (1 + 5 * j + 3))), .long (lg (xs (1 + 5 * j + 1)) (xs (1 + 5 * j + 2))), .ref m0, .int (sYaw (lg (xs (1 + 5 * j + 1)) (xs (1 + 5 * j + 2))) (lg (xs (1 + 5 * j + 3)) (xs (1 + 5 * j + 4))) (mApart (lg (xs (1 + 5 * j + 1)) (xs (1 + 5 * j + 2))) (lg (xs (1 + 5 * j + 3)) (xs (1 + 5 * j + 4)))) (cnt lo n))])) (ix_sc (x := 1 + 5 * j) (k := 4) (by omega))) ?_
  refine lv_i2l hx hb dL_law_428 rfl ?_
  refine lv_ldc2 hx hb hown (hts _ hm1) dL_law_429 ?_
  refine lv_land hx hb dL_law_432 ?_
  refine lv_lor hx hb dL_law_433 ?_
  refine W.eq (g2 := F0 m 434 ls [.long (lg (xs (1 + 5 * j + 3)) (xs (1 + 5 * j + 4))), .long (lg (xs (1 + 5 * j + 1)) (xs (1 + 5 * j + 2))), .ref m0, .int (sYaw (lg (xs (1 + 5 * j + 1)) (xs (1 + 5 * j + 2))) (lg (xs (1 + 5 * j + 3)) (xs (1 + 5 * j + 4))) (mApart (lg (xs (1 + 5 * j + 1)) (xs (1 + 5 * j + 2))) (lg (xs (1 + 5 * j + 3)) (xs (1 + 5 * j + 4)))) (cnt lo n))]) rfl ?_
  have hPx : va_P D vwCl (mw m0 a C th (nI n) sp lo ph pr bo mo2 rf gr hd st ch rs) _ := w_PR hP
  have hDx : va_D _ (mw m0 a C th (nI n) sp lo ph pr bo mo2 rf gr hd st ch rs) := w_DR hD
  have hFx := xF hDx hS (fun _ h => h)
  refine va_calli (va_runV (As := [.long (lg (xs (1 + 5 * j + 1)) (xs (1 + 5 * j + 2))), .long (lg (xs (1 + 5 * j + 3)) (xs (1 + 5 * j + 4)))]) (rest := [.int (sYaw (lg (xs (1 + 5 * j + 1)) (xs (1 + 5 * j + 2))) (lg (xs (1 + 5 * j + 3)) (xs (1 + 5 * j + 4))) (mApart (lg (xs (1 + 5 * j + 1)) (xs (1 + 5 * j + 2))) (lg (xs (1 + 5 * j + 3)) (xs (1 + 5 * j + 4)))) (cnt lo n))]) ⟨hx, hb, hml, hown, hts⟩ (m2_yaw l D m0 a C n th sp lo ph pr bo mo2 rf gr hd st ch rs hn (lg (xs (1 + 5 * j + 1)) (xs (1 + 5 * j + 2))) (lg (xs (1 + 5 * j + 3)) (xs (1 + 5 * j + 4))) _) (cwV 2 hts gL_law_X2_yaw rfl rfl rfl (by decide +kernel) ⟨Nat.le_of_ble_eq_true rfl, Nat.le_of_ble_eq_true rfl⟩) ⟨xW_blind, va_recv hKM hPx (ci := 2) (q0 := 0) rfl rfl, xW_at hPx hKM hN hDx⟩ rfl rfl hl.1 rfl (lv_room (Nat.le_of_ble_eq_true rfl)) dL_law_434 ⟨by show _ ≤ 667310; omega, by show _ ≤ 7094139; omega⟩) hS (fun z _ h => hFx z h) hFx (fun r u t H1 locs ht hvm hpo hB hz1 hk1 hS => ?_)
  have hP1 := xB_P hB ht
  obtain ⟨hP, hD⟩ := w_joinR hP hD hk1 hFx hP1 hB.2
  clear hP1 hB hk1 hz1 ht hvm hFx hPx hDx
  obtain ⟨u1, u2⟩ := u
  dsimp only at hpo hP hD
  obtain ⟨rfl, rfl, rfl⟩ := hpo
  replace hP : va_P D vwCl (((cw h0 hw cW n q g sp lo ph (gYaw mMin (lg (xs (1 + 5 * j + 1)) (xs (1 + 5 * j + 2))) (lg (xs (1 + 5 * j + 3)) (xs (1 + 5 * j + 4))) (mApart (lg (xs (1 + 5 * j + 1)) (xs (1 + 5 * j + 2))) (lg (xs (1 + 5 * j + 3)) (xs (1 + 5 * j + 4)))) (cnt lo n) pr bo) bo mo rf hd gr st nx) ++ [(o, .inl (cO, 1, .inr (.inl row)))]) ++ mw m0 a C 0 (nI n) sp lo ph (gYaw mMin (lg (xs (1 + 5 * j + 1)) (xs (1 + 5 * j + 2))) (lg (xs (1 + 5 * j + 3)) (xs (1 + 5 * j + 4))) (mApart (lg (xs (1 + 5 * j + 1)) (xs (1 + 5 * j + 2))) (lg (xs (1 + 5 * j + 3)) (xs (1 + 5 * j + 4)))) (cnt lo n) pr bo) bo mo2 rf gr hd st ch rs) H1 := hP
  replace hD : va_D (fun z : Nat => s.heap.size ≤ z) (((cw h0 hw cW n q g sp lo ph (gYaw mMin (lg (xs (1 + 5 * j + 1)) (xs (1 + 5 * j + 2))) (lg (xs (1 + 5 * j + 3)) (xs (1 + 5 * j + 4))) (mApart (lg (xs (1 + 5 * j + 1)) (xs (1 + 5 * j + 2))) (lg (xs (1 + 5 * j + 3)) (xs (1 + 5 * j + 4)))) (cnt lo n) pr bo) bo mo rf hd gr st nx) ++ [(o, .inl (cO, 1, .inr (.inl row)))]) ++ mw m0 a C 0 (nI n) sp lo ph (gYaw mMin (lg (xs (1 + 5 * j + 1)) (xs (1 + 5 * j + 2))) (lg (xs (1 + 5 * j + 3)) (xs (1 + 5 * j + 4))) (mApart (lg (xs (1 + 5 * j + 1)) (xs (1 + 5 * j + 2))) (lg (xs (1 + 5 * j + 3)) (xs (1 + 5 * j + 4)))) (cnt lo n) pr bo) bo mo2 rf gr hd st ch rs) := hD
  refine lv_icmp_eq (tgt := 790) hx hb dL_law_437 (by decide) (fun c_1 => ?_) (fun c_1 => absurd rfl c_1)
  refine lv_iinc (v := nI (1 + 5 * (j + 1))) (lv' := [(4, .int (nI (1 + 5 * (j + 1)))), (0, .ref b), (1, .ref h0), (2, .ref m0), (3, .ref o)]) hx hb dL_law_790 hl (k := 0) rfl (i_5 j) (by decide) rfl (fun ls hl => ?_)
  refine lv_goto (tgt := 33) hx hb dL_law_793 (by decide) ?_
  refine W.widen (k := 100 + (j + 1)) (n := 1000 + 6 * (j + 1)) (by omega) (by omega) ?_
  exact hnx _ _ _ _ sp lo ph (gYaw mMin (lg (xs (1 + 5 * j + 1)) (xs (1 + 5 * j + 2))) (lg (xs (1 + 5 * j + 3)) (xs (1 + 5 * j + 4))) (mApart (lg (xs (1 + 5 * j + 1)) (xs (1 + 5 * j + 2))) (lg (xs (1 + 5 * j + 3)) (xs (1 + 5 * j + 4)))) (cnt lo n) pr bo) bo mo mo2 rf hd gr st nx ch rs 0 row hdd hP hD hS (INV_yaw hI) (lv_sub hl [0, 1, 2, 3, 4] rfl)
set_option maxHeartbeats 4000000 in
set_option maxRecDepth 100000 in
/-- slip -/
theorem lc_slip {p : Program} {l : Launch} {e : Env} {s : State} {m : MethodId} {below : List Frame} {meth : Method} {c : Code} {b L : Nat} {xs : Nat → Int32} {D : va_G} {cW : ClassId} {h0 hw n : Nat} {q : Nat → Nat} {g : Nat → Option Nat} {m0 : Nat} {a : Nat → Nat} {C : Nat → ClassId} {o : Nat} {cO : ClassId} {sa : Nat} (hE : LE p l s m meth c b L xs D cW n q g C cO sa) {j : Nat} (hj : 1 + 5 * j + 5 ≤ L) (hnx : LN p l e s m below meth c b D cW h0 hw n q g m0 a C o cO j) {dd : Drawn} {H : Heap} {locs : List Loc} {ls : Array Slot} {sp : Nat → Int64} {lo ph : Nat → Int32} {pr bo : Nat → Int64} {mo mo2 : Nat → UInt64} {rf : Int64} {hd gr st nx ch rs th : Int32} {row : Nat → Int64} (hdd : s.drawn.sameBut dd lw_cs) (hP : va_P D vwCl (((cw h0 hw cW n q g sp lo ph pr bo mo rf hd gr st nx) ++ [(o, .inl (cO, 1, .inr (.inl row)))]) ++ mw m0 a C th (nI n) sp lo ph pr bo mo2 rf gr hd st ch rs) H) (hD : va_D (fun z : Nat => s.heap.size ≤ z) (((cw h0 hw cW n q g sp lo ph pr bo mo rf hd gr st nx) ++ [(o, .inl (cO, 1, .inr (.inl row)))]) ++ mw m0 a C th (nI n) sp lo ph pr bo mo2 rf gr hd st ch rs)) (hS : va_S (fun z : Nat => s.heap.size ≤ z) s.heap H locs) (hI : INV n j sp pr bo mo mo2 rf hd st nx ch rs) (hl : lv_has ls 9 [(4, .int (nI (1 + 5 * j))), (0, .ref b), (1, .ref h0), (2, .ref m0), (3, .ref o)]) : W p l e room_1 (s.setDrawn dd) m #[Value.ref b] below meth c H locs (100 + j) (1000 + 6 * j) (lw_Z below #[Value.ref b] s) (F0 m 442 ls []) := by
  obtain ⟨hx, hb, hr, hml, hown, hts0, hX0, hbl, hlocks, hKC0, hKM0, hKO0, hN0, hL, hn, h2, hg, hst, hTA⟩ := hE
  have hts := dr_words hts0 dd
  have hN := cN_draw (d := dd) hN0
  have hKC : va_K D vwCl [(cW, .object RX0)] (s.setDrawn dd) := hKC0
  have hKM : va_K D vwCl [(C 1, .long), (C 2, .boolean), (C 3, .int), (C 4, .long), (C 5, .long), (C 6, .double)] (s.setDrawn dd) := hKM0
  have hKO : va_K D vwCl [(cO, .long)] (s.setDrawn dd) := hKO0
  have hX : va_X b L xs (s.setDrawn dd) s.heap := hX0
  refine lv_aload_n hx hb dL_law_442 rfl (lv_at hl 2 rfl) ?_
  refine lv_aload_n hx hb dL_law_443 rfl (lv_at hl 1 rfl) ?_
  refine lv_iload hx hb dL_law_444 (lv_at hl 0 rfl) ?_
  refine lv_iconst (v := 1) hx hb dL_law_446 (by decide) ?_
  refine lv_iadd hx hb dL_law_447 ?_
  refine va_sld hx hb hX hbl (Nat.not_le.mpr hbl) hS (ix_s (x := 1 + 5 * j) (k := 1) (by omega) hL) dL_law_448 ?_
  refine W.eq (g2 := F0 m 449 ls [.int (xs (1 + 5 * j + 1)), .ref h0]) (congrArg (fun z => F0 m 449 ls (.int (xs z) :: [.ref h0])) (ix_sc (x := 1 + 5 * j) (k := 1) (by omega))) ?_
  refine lv_aload_n hx hb dL_law_449 rfl (lv_at hl 1 rfl) ?_
  refine lv_iload hx hb dL_law_450 (lv_at hl 0 rfl) ?_
  refine lv_iconst (v := 2) hx hb dL_law_452 (by decide) ?_
  refine lv_iadd hx hb dL_law_453 ?_
  refine va_sld hx hb hX hbl (Nat.not_le.mpr hbl) hS (ix_s (x := 1 + 5 * j) (k := 2) (by omega) hL) dL_law_454 ?_
  refine W.eq (g2 := F0 m 455 ls [.int (xs (1 + 5 * j + 2)), .int (xs (1 + 5 * j + 1)), .ref h0]) (congrArg (fun z => F0 m 455 ls (.int (xs z) :: [.int (xs (1 + 5 * j + 1)), .ref h0])) (ix_sc (x := 1 + 5 * j) (k := 2) (by omega))) ?_
  refine lv_aload_n hx hb dL_law_455 rfl (lv_at hl 4 rfl) ?_
  have hPo : va_P D vwCl ((cw h0 hw cW n q g sp lo ph pr bo mo rf hd gr st nx) ++ [(o, .inl (cO, 1, .inr (.inl row)))]) _ := w_PL hP
  have hDo : va_D _ ((cw h0 hw cW n q g sp lo ph pr bo mo rf hd gr st nx) ++ [(o, .inl (cO, 1, .inr (.inl row)))]) := w_DL hD
  have hFo := xF hDo hS (fun _ h => h)
  refine vx_calli (vx_runSX (As := [.ref h0, .int (xs (1 + 5 * j + 1)), .int (xs (1 + 5 * j + 2)), .ref o]) (rest := []) ⟨hx, hb, hml, hown, hts⟩ (l_slip l D cW h0 hw n q g sp lo ph pr bo mo rf hd gr st nx hn hg hst sa o cO row (xs (1 + 5 * j + 1)) (xs (1 + 5 * j + 2)) hI.1 hI.2.1 _) (vx_cwSW 4 hts gL_law_L_slip rfl rfl rfl (by decide +kernel) ⟨Nat.le_of_ble_eq_true rfl, Nat.le_of_ble_eq_true rfl⟩) ⟨xSW_blind, xSW_at hPo (hKC.app hKO) hN hDo (xT_draw (xTA_at hTA hS))⟩ rfl rfl hl.1 rfl (lv_room (Nat.le_of_ble_eq_true rfl)) dL_law_456 ⟨by show _ ≤ 667310; omega, by show _ ≤ 7094139; omega⟩) hS (fun z _ h => hFo z h) hFo (fun z _ h => hFo z h) (fun E ce q9 u t H1 locs ht hvm hpx => hpx.elim) (fun r u t H1 locs ht hvm hpo hB hz1 hk1 hS => ?_)
  have hP1 := xB_P hB ht
  obtain ⟨hP, hD⟩ := w_joinL hP hD hk1 hFo hP1 hB.2
  clear hP1 hB hk1 hz1 ht hvm hFo hPo hDo
  rcases hpo with ⟨hq, rfl, hu⟩ | ⟨hq, rfl, hu⟩
  · skip
    rw [hu] at hP hD
    replace hP : va_P D vwCl (((cw h0 hw cW n q g sp lo ph pr bo mo rf hd gr st nx) ++ [(o, .inl (cO, 1, .inr (.inl row)))]) ++ mw m0 a C th (nI n) sp lo ph pr bo mo2 rf gr hd st ch rs) H1 := hP
    replace hD : va_D (fun z : Nat => s.heap.size ≤ z) (((cw h0 hw cW n q g sp lo ph pr bo mo rf hd gr st nx) ++ [(o, .inl (cO, 1, .inr (.inl row)))]) ++ mw m0 a C th (nI n) sp lo ph pr bo mo2 rf gr hd st ch rs) := hD
    refine lv_istore (lv' := [(5, .int 1), (4, .int (nI (1 + 5 * j))), (0, .ref b), (1, .ref h0), (2, .ref m0), (3, .ref o)]) hx hb dL_law_459 hl (by decide) rfl (fun ls hl => ?_)
    refine lv_aload_n hx hb dL_law_461 rfl (lv_at hl 4 rfl) ?_
    refine lv_aload_n hx hb dL_law_462 rfl (lv_at hl 2 rfl) ?_
    refine lv_iload hx hb dL_law_463 (lv_at hl 1 rfl) ?_
    refine lv_iconst (v := 1) hx hb dL_law_465 (by decide) ?_
    refine lv_iadd hx hb dL_law_466 ?_
    refine va_sld hx hb hX hbl (Nat.not_le.mpr hbl) hS (ix_s (x := 1 + 5 * j) (k := 1) (by omega) hL) dL_law_467 ?_
    refine W.eq (g2 := F0 m 468 ls [.int (xs (1 + 5 * j + 1)), .ref m0]) (congrArg (fun z => F0 m 468 ls (.int (xs z) :: [.ref m0])) (ix_sc (x := 1 + 5 * j) (k := 1) (by omega))) ?_
    refine lv_aload_n hx hb dL_law_468 rfl (lv_at hl 2 rfl) ?_
    refine lv_iload hx hb dL_law_469 (lv_at hl 1 rfl) ?_
    refine lv_iconst (v := 2) hx hb dL_law_471 (by decide) ?_
    refine lv_iadd hx hb dL_law_472 ?_
    refine va_sld hx hb hX hbl (Nat.not_le.mpr hbl) hS (ix_s (x := 1 + 5 * j) (k := 2) (by omega) hL) dL_law_473 ?_
    refine W.eq (g2 := F0 m 474 ls [.int (xs (1 + 5 * j + 2)), .int (xs (1 + 5 * j + 1)), .ref m0]) (congrArg (fun z => F0 m 474 ls (.int (xs z) :: [.int (xs (1 + 5 * j + 1)), .ref m0])) (ix_sc (x := 1 + 5 * j) (k := 2) (by omega))) ?_
    have hPx : va_P D vwCl (mw m0 a C th (nI n) sp lo ph pr bo mo2 rf gr hd st ch rs) _ := w_PR hP
    have hDx : va_D _ (mw m0 a C th (nI n) sp lo ph pr bo mo2 rf gr hd st ch rs) := w_DR hD
    have hFx := xF hDx hS (fun _ h => h)
    refine va_calll (va_runV (As := [.int (xs (1 + 5 * j + 1)), .int (xs (1 + 5 * j + 2))]) (rest := []) ⟨hx, hb, hml, hown, hts⟩ (m2_slip l D m0 a C n th sp lo ph pr bo mo2 rf gr hd st ch rs hn (xs (1 + 5 * j + 1)) (xs (1 + 5 * j + 2)) hI.1 hI.2.1 _) (cwV 2 hts gL_law_X2_slip rfl rfl rfl (by decide +kernel) ⟨Nat.le_of_ble_eq_true rfl, Nat.le_of_ble_eq_true rfl⟩) ⟨xW_blind, va_recv hKM hPx (ci := 2) (q0 := 0) rfl rfl, xW_at hPx hKM hN hDx⟩ rfl rfl hl.1 rfl (lv_room (Nat.le_of_ble_eq_true rfl)) dL_law_474 ⟨by show _ ≤ 667310; omega, by show _ ≤ 7094139; omega⟩) hS (fun z _ h => hFx z h) hFx (fun r u t H1 locs ht hvm hpo hB hz1 hk1 hS => ?_)
    have hP1 := xB_P hB ht
    obtain ⟨hP, hD⟩ := w_joinR hP hD hk1 hFx hP1 hB.2
    clear hP1 hB hk1 hz1 ht hvm hFx hPx hDx
    rw [if_neg hq.1, if_pos hq.2, if_neg hq.1, if_pos hq.2] at hpo
    obtain ⟨rfl, rfl⟩ := hpo
    replace hP : va_P D vwCl (((cw h0 hw cW n q g sp lo ph pr bo mo rf hd gr st nx) ++ [(o, .inl (cO, 1, .inr (.inl row)))]) ++ mw m0 a C 1 (nI n) sp lo ph pr bo mo2 rf gr hd st ch rs) H1 := hP
    replace hD : va_D (fun z : Nat => s.heap.size ≤ z) (((cw h0 hw cW n q g sp lo ph pr bo mo rf hd gr st nx) ++ [(o, .inl (cO, 1, .inr (.inl row)))]) ++ mw m0 a C 1 (nI n) sp lo ph pr bo mo2 rf gr hd st ch rs) := hD
    refine lv_lstore (lv' := [(6, .long 0), (5, .int 1), (4, .int (nI (1 + 5 * j))), (0, .ref b), (1, .ref h0), (2, .ref m0), (3, .ref o)]) hx hb dL_law_477 hl (by decide) rfl (fun ls hl => ?_)
    refine lv_aload_n hx hb dL_law_479 rfl (lv_at hl 5 rfl) ?_
    have hPx : va_P D vwCl (mw m0 a C 1 (nI n) sp lo ph pr bo mo2 rf gr hd st ch rs) _ := w_PR hP
    have hDx : va_D _ (mw m0 a C 1 (nI n) sp lo ph pr bo mo2 rf gr hd st ch rs) := w_DR hD
    refine vp_callSi (W.runV (As := []) (rest := []) ⟨hx, hb, hml, hown, hts⟩ (m2_thrown l D m0 a C n 1 sp lo ph pr bo mo2 rf gr hd st ch rs hn) (cwV 0 hts gL_law_X2_thrown rfl rfl rfl (by decide +kernel) ⟨Nat.le_of_ble_eq_true rfl, Nat.le_of_ble_eq_true rfl⟩) ⟨xP_blind, va_recv hKM hPx (ci := 2) (q0 := 0) rfl rfl, xP_at hPx hKM hN⟩ rfl rfl hl.1 rfl (lv_room (Nat.le_of_ble_eq_true rfl)) dL_law_480 ⟨by show _ ≤ 667310; omega, by show _ ≤ 7094139; omega⟩) (fun r hr_1 => ?_)
    rw [hr_1]
    clear hPx hDx
    refine lv_iload hx hb dL_law_483 (lv_at hl 1 rfl) ?_
    refine lv_icmp_eq (tgt := 490) hx hb dL_law_485 (by decide) (fun c_2 => ?_) (fun c_2 => absurd rfl c_2)
    refine lv_iload hx hb dL_law_490 (lv_at hl 1 rfl) ?_
    refine lv_if_ne (tgt := 506) hx hb dL_law_492 (by decide) (fun c_3 => ?_) (fun c_3 => absurd c_3 (by decide))
    refine lv_goto (tgt := 790) hx hb dL_law_506 (by decide) ?_
    refine lv_iinc (v := nI (1 + 5 * (j + 1))) (lv' := [(4, .int (nI (1 + 5 * (j + 1)))), (6, .long 0), (5, .int 1), (0, .ref b), (1, .ref h0), (2, .ref m0), (3, .ref o)]) hx hb dL_law_790 hl (k := 2) rfl (i_5 j) (by decide) rfl (fun ls hl => ?_)
    refine lv_goto (tgt := 33) hx hb dL_law_793 (by decide) ?_
    refine W.widen (k := 100 + (j + 1)) (n := 1000 + 6 * (j + 1)) (by omega) (by omega) ?_
    exact hnx _ _ _ _ sp lo ph pr bo mo mo2 rf hd gr st nx ch rs 1 row hdd hP hD hS (INV_same hI) (lv_sub hl [0, 3, 4, 5, 6] rfl)
  · skip
    rw [hu] at hP hD
    replace hP : va_P D vwCl (((cw h0 hw cW n q g sp lo ph pr bo mo rf hd gr st nx) ++ [(o, .inl (cO, 1, .inr (.inl (va_up row 0 (if wOut n (xs (1 + 5 * j + 1)) then 0 else sSlip rf (sp ((xs (1 + 5 * j + 1))).toNatClampNeg) (xs (1 + 5 * j + 2)))))))]) ++ mw m0 a C th (nI n) sp lo ph pr bo mo2 rf gr hd st ch rs) H1 := hP
    replace hD : va_D (fun z : Nat => s.heap.size ≤ z) (((cw h0 hw cW n q g sp lo ph pr bo mo rf hd gr st nx) ++ [(o, .inl (cO, 1, .inr (.inl (va_up row 0 (if wOut n (xs (1 + 5 * j + 1)) then 0 else sSlip rf (sp ((xs (1 + 5 * j + 1))).toNatClampNeg) (xs (1 + 5 * j + 2)))))))]) ++ mw m0 a C th (nI n) sp lo ph pr bo mo2 rf gr hd st ch rs) := hD
    refine lv_istore (lv' := [(5, .int 0), (4, .int (nI (1 + 5 * j))), (0, .ref b), (1, .ref h0), (2, .ref m0), (3, .ref o)]) hx hb dL_law_459 hl (by decide) rfl (fun ls hl => ?_)
    refine lv_aload_n hx hb dL_law_461 rfl (lv_at hl 4 rfl) ?_
    refine lv_aload_n hx hb dL_law_462 rfl (lv_at hl 2 rfl) ?_
    refine lv_iload hx hb dL_law_463 (lv_at hl 1 rfl) ?_
    refine lv_iconst (v := 1) hx hb dL_law_465 (by decide) ?_
    refine lv_iadd hx hb dL_law_466 ?_
    refine va_sld hx hb hX hbl (Nat.not_le.mpr hbl) hS (ix_s (x := 1 + 5 * j) (k := 1) (by omega) hL) dL_law_467 ?_
    refine W.eq (g2 := F0 m 468 ls [.int (xs (1 + 5 * j + 1)), .ref m0]) (congrArg (fun z => F0 m 468 ls (.int (xs z) :: [.ref m0])) (ix_sc (x := 1 + 5 * j) (k := 1) (by omega))) ?_
    refine lv_aload_n hx hb dL_law_468 rfl (lv_at hl 2 rfl) ?_
    refine lv_iload hx hb dL_law_469 (lv_at hl 1 rfl) ?_
    refine lv_iconst (v := 2) hx hb dL_law_471 (by decide) ?_
    refine lv_iadd hx hb dL_law_472 ?_
    refine va_sld hx hb hX hbl (Nat.not_le.mpr hbl) hS (ix_s (x := 1 + 5 * j) (k := 2) (by omega) hL) dL_law_473 ?_
    refine W.eq (g2 := F0 m 474 ls [.int (xs (1 + 5 * j + 2)), .int (xs (1 + 5 * j + 1)), .ref m0]) (congrArg (fun z => F0 m 474 ls (.int (xs z) :: [.int (xs (1 + 5 * j + 1)), .ref m0])) (ix_sc (x := 1 + 5 * j) (k := 2) (by omega))) ?_
    have hPx : va_P D vwCl (mw m0 a C th (nI n) sp lo ph pr bo mo2 rf gr hd st ch rs) _ := w_PR hP
    have hDx : va_D _ (mw m0 a C th (nI n) sp lo ph pr bo mo2 rf gr hd st ch rs) := w_DR hD
    have hFx := xF hDx hS (fun _ h => h)
    refine va_calll (va_runV (As := [.int (xs (1 + 5 * j + 1)), .int (xs (1 + 5 * j + 2))]) (rest := []) ⟨hx, hb, hml, hown, hts⟩ (m2_slip l D m0 a C n th sp lo ph pr bo mo2 rf gr hd st ch rs hn (xs (1 + 5 * j + 1)) (xs (1 + 5 * j + 2)) hI.1 hI.2.1 _) (cwV 2 hts gL_law_X2_slip rfl rfl rfl (by decide +kernel) ⟨Nat.le_of_ble_eq_true rfl, Nat.le_of_ble_eq_true rfl⟩) ⟨xW_blind, va_recv hKM hPx (ci := 2) (q0 := 0) rfl rfl, xW_at hPx hKM hN hDx⟩ rfl rfl hl.1 rfl (lv_room (Nat.le_of_ble_eq_true rfl)) dL_law_474 ⟨by show _ ≤ 667310; omega, by show _ ≤ 7094139; omega⟩) hS (fun z _ h => hFx z h) hFx (fun r u t H1 locs ht hvm hpo hB hz1 hk1 hS => ?_)
    have hP1 := xB_P hB ht
    obtain ⟨hP, hD⟩ := w_joinR hP hD hk1 hFx hP1 hB.2
    clear hP1 hB hk1 hz1 ht hvm hFx hPx hDx
    rw [slip_val hq, slip_th hq] at hpo
    obtain ⟨rfl, rfl⟩ := hpo
    replace hP : va_P D vwCl (((cw h0 hw cW n q g sp lo ph pr bo mo rf hd gr st nx) ++ [(o, .inl (cO, 1, .inr (.inl (va_up row 0 (if wOut n (xs (1 + 5 * j + 1)) then 0 else sSlip rf (sp ((xs (1 + 5 * j + 1))).toNatClampNeg) (xs (1 + 5 * j + 2)))))))]) ++ mw m0 a C 0 (nI n) sp lo ph pr bo mo2 rf gr hd st ch rs) H1 := hP
    replace hD : va_D (fun z : Nat => s.heap.size ≤ z) (((cw h0 hw cW n q g sp lo ph pr bo mo rf hd gr st nx) ++ [(o, .inl (cO, 1, .inr (.inl (va_up row 0 (if wOut n (xs (1 + 5 * j + 1)) then 0 else sSlip rf (sp ((xs (1 + 5 * j + 1))).toNatClampNeg) (xs (1 + 5 * j + 2)))))))]) ++ mw m0 a C 0 (nI n) sp lo ph pr bo mo2 rf gr hd st ch rs) := hD
    refine lv_lstore (lv' := [(6, .long (if wOut n (xs (1 + 5 * j + 1)) then 0 else sSlip rf (sp ((xs (1 + 5 * j + 1))).toNatClampNeg) (xs (1 + 5 * j + 2)))), (5, .int 0), (4, .int (nI (1 + 5 * j))), (0, .ref b), (1, .ref h0), (2, .ref m0), (3, .ref o)]) hx hb dL_law_477 hl (by decide) rfl (fun ls hl => ?_)
    refine lv_aload_n hx hb dL_law_479 rfl (lv_at hl 5 rfl) ?_
    have hPx : va_P D vwCl (mw m0 a C 0 (nI n) sp lo ph pr bo mo2 rf gr hd st ch rs) _ := w_PR hP
    have hDx : va_D _ (mw m0 a C 0 (nI n) sp lo ph pr bo mo2 rf gr hd st ch rs) := w_DR hD
    refine vp_callSi (W.runV (As := []) (rest := []) ⟨hx, hb, hml, hown, hts⟩ (m2_thrown l D m0 a C n 0 sp lo ph pr bo mo2 rf gr hd st ch rs hn) (cwV 0 hts gL_law_X2_thrown rfl rfl rfl (by decide +kernel) ⟨Nat.le_of_ble_eq_true rfl, Nat.le_of_ble_eq_true rfl⟩) ⟨xP_blind, va_recv hKM hPx (ci := 2) (q0 := 0) rfl rfl, xP_at hPx hKM hN⟩ rfl rfl hl.1 rfl (lv_room (Nat.le_of_ble_eq_true rfl)) dL_law_480 ⟨by show _ ≤ 667310; omega, by show _ ≤ 7094139; omega⟩) (fun r hr_4 => ?_)
    rw [hr_4]
    clear hPx hDx
    refine lv_iload hx hb dL_law_483 (lv_at hl 1 rfl) ?_
    refine lv_icmp_eq (tgt := 490) hx hb dL_law_485 (by decide) (fun c_5 => ?_) (fun c_5 => absurd rfl c_5)
    refine lv_iload hx hb dL_law_490 (lv_at hl 1 rfl) ?_
    refine lv_if_ne (tgt := 506) hx hb dL_law_492 (by decide) (fun c_6 => absurd (by decide) c_6) (fun c_6 => ?_)
    refine lv_aload_n hx hb dL_law_495 rfl (lv_at hl 6 rfl) ?_
    refine lv_iconst (v := 0) hx hb dL_law_496 (by decide) ?_
    have hPo := w_PL hP
    refine va_lald (D := D) (f := (va_up row 0 (if wOut n (xs (1 + 5 * j + 1)) then 0 else sSlip rf (sp ((xs (1 + 5 * j + 1))).toNatClampNeg) (xs (1 + 5 * j + 2))))) hx hb hKO hPo (cw h0 hw cW n q g sp lo ph pr bo mo rf hd gr st nx).length 0 ow_at rfl (by unfold vp_in; decide) dL_law_497 ?_
    refine W.eq (g2 := F0 m 498 ls [.long (if wOut n (xs (1 + 5 * j + 1)) then 0 else sSlip rf (sp ((xs (1 + 5 * j + 1))).toNatClampNeg) (xs (1 + 5 * j + 2)))]) rfl ?_
    refine lv_lload hx hb dL_law_498 (lv_at hl 0 rfl) ?_
    refine W.lcmp hx hb dL_law_500 ?_
    refine lv_if_eq (tgt := 506) hx hb dL_law_501 (by decide) (fun c_7 => ?_) (fun c_7 => absurd ((lg_cmp_eq _ _).mpr rfl) c_7)
    refine lv_goto (tgt := 790) hx hb dL_law_506 (by decide) ?_
    refine lv_iinc (v := nI (1 + 5 * (j + 1))) (lv' := [(4, .int (nI (1 + 5 * (j + 1)))), (6, .long (if wOut n (xs (1 + 5 * j + 1)) then 0 else sSlip rf (sp ((xs (1 + 5 * j + 1))).toNatClampNeg) (xs (1 + 5 * j + 2)))), (5, .int 0), (0, .ref b), (1, .ref h0), (2, .ref m0), (3, .ref o)]) hx hb dL_law_790 hl (k := 2) rfl (i_5 j) (by decide) rfl (fun ls hl => ?_)
    refine lv_goto (tgt := 33) hx hb dL_law_793 (by decide) ?_
    refine W.widen (k := 100 + (j + 1)) (n := 1000 + 6 * (j + 1)) (by omega) (by omega) ?_
    exact hnx _ _ _ _ sp lo ph pr bo mo mo2 rf hd gr st nx ch rs 0 (va_up row 0 (if wOut n (xs (1 + 5 * j + 1)) then 0 else sSlip rf (sp ((xs (1 + 5 * j + 1))).toNatClampNeg) (xs (1 + 5 * j + 2)))) hdd hP hD hS (INV_same hI) (lv_sub hl [0, 3, 4, 5, 6] rfl)
set_option maxHeartbeats 4000000 in
set_option maxRecDepth 100000 in
/-- gear -/
theorem lc_gear {p : Program} {l : Launch} {e : Env} {s : State} {m : MethodId} {below : List Frame} {meth : Method} {c : Code} {b L : Nat} {xs : Nat → Int32} {D : va_G} {cW : ClassId} {h0 hw n : Nat} {q : Nat → Nat} {g : Nat → Option Nat} {m0 : Nat} {a : Nat → Nat} {C : Nat → ClassId} {o : Nat} {cO : ClassId} {sa : Nat} (hE : LE p l s m meth c b L xs D cW n q g C cO sa) {j : Nat} (hj : 1 + 5 * j + 5 ≤ L) (hnx : LN p l e s m below meth c b D cW h0 hw n q g m0 a C o cO j) {dd : Drawn} {H : Heap} {locs : List Loc} {ls : Array Slot} {sp : Nat → Int64} {lo ph : Nat → Int32} {pr bo : Nat → Int64} {mo mo2 : Nat → UInt64} {rf : Int64} {hd gr st nx ch rs th : Int32} {row : Nat → Int64} (hdd : s.drawn.sameBut dd lw_cs) (hP : va_P D vwCl (((cw h0 hw cW n q g sp lo ph pr bo mo rf hd gr st nx) ++ [(o, .inl (cO, 1, .inr (.inl row)))]) ++ mw m0 a C th (nI n) sp lo ph pr bo mo2 rf gr hd st ch rs) H) (hD : va_D (fun z : Nat => s.heap.size ≤ z) (((cw h0 hw cW n q g sp lo ph pr bo mo rf hd gr st nx) ++ [(o, .inl (cO, 1, .inr (.inl row)))]) ++ mw m0 a C th (nI n) sp lo ph pr bo mo2 rf gr hd st ch rs)) (hS : va_S (fun z : Nat => s.heap.size ≤ z) s.heap H locs) (hI : INV n j sp pr bo mo mo2 rf hd st nx ch rs) (hl : lv_has ls 9 [(4, .int (nI (1 + 5 * j))), (0, .ref b), (1, .ref h0), (2, .ref m0), (3, .ref o)]) : W p l e room_1 (s.setDrawn dd) m #[Value.ref b] below meth c H locs (100 + j) (1000 + 6 * j) (lw_Z below #[Value.ref b] s) (F0 m 509 ls []) := by
  obtain ⟨hx, hb, hr, hml, hown, hts0, hX0, hbl, hlocks, hKC0, hKM0, hKO0, hN0, hL, hn, h2, hg, hst, hTA⟩ := hE
  have hts := dr_words hts0 dd
  have hN := cN_draw (d := dd) hN0
  have hKC : va_K D vwCl [(cW, .object RX0)] (s.setDrawn dd) := hKC0
  have hKM : va_K D vwCl [(C 1, .long), (C 2, .boolean), (C 3, .int), (C 4, .long), (C 5, .long), (C 6, .double)] (s.setDrawn dd) := hKM0
  have hKO : va_K D vwCl [(cO, .long)] (s.setDrawn dd) := hKO0
  have hX : va_X b L xs (s.setDrawn dd) s.heap := hX0
  refine lv_aload_n hx hb dL_law_509 rfl (lv_at hl 2 rfl) ?_
  have hPx : va_P D vwCl (cw h0 hw cW n q g sp lo ph pr bo mo rf hd gr st nx) _ := w_PL (w_PL hP)
  have hDx : va_D _ (cw h0 hw cW n q g sp lo ph pr bo mo rf hd gr st nx) := w_DL (w_DL hD)
  refine vp_callSi (W.runV (As := []) (rest := []) ⟨hx, hb, hml, hown, hts⟩ (c1_gear l D cW h0 hw n q g sp lo ph pr bo mo rf hd gr st nx hn hg) (cwV 0 hts gL_law_X1_gear rfl rfl rfl (by decide +kernel) ⟨Nat.le_of_ble_eq_true rfl, Nat.le_of_ble_eq_true rfl⟩) ⟨xP_blind, va_recv hKC hPx (ci := 1) (q0 := 0) rfl rfl, xP_at hPx hKC hN⟩ rfl rfl hl.1 rfl (lv_room (Nat.le_of_ble_eq_true rfl)) dL_law_510 ⟨by show _ ≤ 667310; omega, by show _ ≤ 7094139; omega⟩) (fun r hr_1 => ?_)
  rw [hr_1]
  clear hPx hDx
  refine lv_aload_n hx hb dL_law_513 rfl (lv_at hl 3 rfl) ?_
  have hPx : va_P D vwCl (mw m0 a C th (nI n) sp lo ph pr bo mo2 rf gr hd st ch rs) _ := w_PR hP
  have hDx : va_D _ (mw m0 a C th (nI n) sp lo ph pr bo mo2 rf gr hd st ch rs) := w_DR hD
  have hFx := xF hDx hS (fun _ h => h)
  refine va_calli (va_runV (As := []) (rest := [.int gr]) ⟨hx, hb, hml, hown, hts⟩ (m2_gear l D m0 a C n th sp lo ph pr bo mo2 rf gr hd st ch rs hn _) (cwV 0 hts gL_law_X2_gear rfl rfl rfl (by decide +kernel) ⟨Nat.le_of_ble_eq_true rfl, Nat.le_of_ble_eq_true rfl⟩) ⟨xW_blind, va_recv hKM hPx (ci := 2) (q0 := 0) rfl rfl, xW_at hPx hKM hN hDx⟩ rfl rfl hl.1 rfl (lv_room (Nat.le_of_ble_eq_true rfl)) dL_law_514 ⟨by show _ ≤ 667310; omega, by show _ ≤ 7094139; omega⟩) hS (fun z _ h => hFx z h) hFx (fun r u t H1 locs ht hvm hpo hB hz1 hk1 hS => ?_)
  have hP1 := xB_P hB ht
  obtain ⟨hP, hD⟩ := w_joinR hP hD hk1 hFx hP1 hB.2
  clear hP1 hB hk1 hz1 ht hvm hFx hPx hDx
  obtain ⟨hq1, rfl⟩ := hpo
  rw [hq1]
  replace hP : va_P D vwCl (((cw h0 hw cW n q g sp lo ph pr bo mo rf hd gr st nx) ++ [(o, .inl (cO, 1, .inr (.inl row)))]) ++ mw m0 a C 0 (nI n) sp lo ph pr bo mo2 rf gr hd st ch rs) H1 := hP
  replace hD : va_D (fun z : Nat => s.heap.size ≤ z) (((cw h0 hw cW n q g sp lo ph pr bo mo rf hd gr st nx) ++ [(o, .inl (cO, 1, .inr (.inl row)))]) ++ mw m0 a C 0 (nI n) sp lo ph pr bo mo2 rf gr hd st ch rs) := hD
  refine lv_icmp_eq (tgt := 790) hx hb dL_law_517 (by decide) (fun c_2 => ?_) (fun c_2 => absurd rfl c_2)
  refine lv_iinc (v := nI (1 + 5 * (j + 1))) (lv' := [(4, .int (nI (1 + 5 * (j + 1)))), (0, .ref b), (1, .ref h0), (2, .ref m0), (3, .ref o)]) hx hb dL_law_790 hl (k := 0) rfl (i_5 j) (by decide) rfl (fun ls hl => ?_)
  refine lv_goto (tgt := 33) hx hb dL_law_793 (by decide) ?_
  refine W.widen (k := 100 + (j + 1)) (n := 1000 + 6 * (j + 1)) (by omega) (by omega) ?_
  exact hnx _ _ _ _ sp lo ph pr bo mo mo2 rf hd gr st nx ch rs 0 row hdd hP hD hS (INV_same hI) (lv_sub hl [0, 1, 2, 3, 4] rfl)
set_option maxHeartbeats 4000000 in
set_option maxRecDepth 100000 in
/-- lost -/
theorem lc_lost {p : Program} {l : Launch} {e : Env} {s : State} {m : MethodId} {below : List Frame} {meth : Method} {c : Code} {b L : Nat} {xs : Nat → Int32} {D : va_G} {cW : ClassId} {h0 hw n : Nat} {q : Nat → Nat} {g : Nat → Option Nat} {m0 : Nat} {a : Nat → Nat} {C : Nat → ClassId} {o : Nat} {cO : ClassId} {sa : Nat} (hE : LE p l s m meth c b L xs D cW n q g C cO sa) {j : Nat} (hj : 1 + 5 * j + 5 ≤ L) (hnx : LN p l e s m below meth c b D cW h0 hw n q g m0 a C o cO j) {dd : Drawn} {H : Heap} {locs : List Loc} {ls : Array Slot} {sp : Nat → Int64} {lo ph : Nat → Int32} {pr bo : Nat → Int64} {mo mo2 : Nat → UInt64} {rf : Int64} {hd gr st nx ch rs th : Int32} {row : Nat → Int64} (hdd : s.drawn.sameBut dd lw_cs) (hP : va_P D vwCl (((cw h0 hw cW n q g sp lo ph pr bo mo rf hd gr st nx) ++ [(o, .inl (cO, 1, .inr (.inl row)))]) ++ mw m0 a C th (nI n) sp lo ph pr bo mo2 rf gr hd st ch rs) H) (hD : va_D (fun z : Nat => s.heap.size ≤ z) (((cw h0 hw cW n q g sp lo ph pr bo mo rf hd gr st nx) ++ [(o, .inl (cO, 1, .inr (.inl row)))]) ++ mw m0 a C th (nI n) sp lo ph pr bo mo2 rf gr hd st ch rs)) (hS : va_S (fun z : Nat => s.heap.size ≤ z) s.heap H locs) (hI : INV n j sp pr bo mo mo2 rf hd st nx ch rs) (hl : lv_has ls 9 [(4, .int (nI (1 + 5 * j))), (0, .ref b), (1, .ref h0), (2, .ref m0), (3, .ref o)]) : W p l e room_1 (s.setDrawn dd) m #[Value.ref b] below meth c H locs (100 + j) (1000 + 6 * j) (lw_Z below #[Value.ref b] s) (F0 m 522 ls []) := by
  obtain ⟨hx, hb, hr, hml, hown, hts0, hX0, hbl, hlocks, hKC0, hKM0, hKO0, hN0, hL, hn, h2, hg, hst, hTA⟩ := hE
  have hts := dr_words hts0 dd
  have hN := cN_draw (d := dd) hN0
  have hKC : va_K D vwCl [(cW, .object RX0)] (s.setDrawn dd) := hKC0
  have hKM : va_K D vwCl [(C 1, .long), (C 2, .boolean), (C 3, .int), (C 4, .long), (C 5, .long), (C 6, .double)] (s.setDrawn dd) := hKM0
  have hKO : va_K D vwCl [(cO, .long)] (s.setDrawn dd) := hKO0
  have hX : va_X b L xs (s.setDrawn dd) s.heap := hX0
  refine lv_aload_n hx hb dL_law_522 rfl (lv_at hl 2 rfl) ?_
  refine lv_aload_n hx hb dL_law_523 rfl (lv_at hl 1 rfl) ?_
  refine lv_iload hx hb dL_law_524 (lv_at hl 0 rfl) ?_
  refine lv_iconst (v := 1) hx hb dL_law_526 (by decide) ?_
  refine lv_iadd hx hb dL_law_527 ?_
  refine va_sld hx hb hX hbl (Nat.not_le.mpr hbl) hS (ix_s (x := 1 + 5 * j) (k := 1) (by omega) hL) dL_law_528 ?_
  refine W.eq (g2 := F0 m 529 ls [.int (xs (1 + 5 * j + 1)), .ref h0]) (congrArg (fun z => F0 m 529 ls (.int (xs z) :: [.ref h0])) (ix_sc (x := 1 + 5 * j) (k := 1) (by omega))) ?_
  refine lv_aload_n hx hb dL_law_529 rfl (lv_at hl 1 rfl) ?_
  refine lv_iload hx hb dL_law_530 (lv_at hl 0 rfl) ?_
  refine lv_iconst (v := 2) hx hb dL_law_532 (by decide) ?_
  refine lv_iadd hx hb dL_law_533 ?_
  refine va_sld hx hb hX hbl (Nat.not_le.mpr hbl) hS (ix_s (x := 1 + 5 * j) (k := 2) (by omega) hL) dL_law_534 ?_
  refine W.eq (g2 := F0 m 535 ls [.int (xs (1 + 5 * j + 2)), .int (xs (1 + 5 * j + 1)), .ref h0]) (congrArg (fun z => F0 m 535 ls (.int (xs z) :: [.int (xs (1 + 5 * j + 1)), .ref h0])) (ix_sc (x := 1 + 5 * j) (k := 2) (by omega))) ?_
  refine lv_if_eq (tgt := 542) hx hb dL_law_535 (by decide) (fun c_1 => ?_) (fun c_1 => ?_)
  · skip
    refine lv_iconst (v := 0) hx hb dL_law_542 (by decide) ?_
    have hPx : va_P D vwCl (cw h0 hw cW n q g sp lo ph pr bo mo rf hd gr st nx) _ := w_PL (w_PL hP)
    have hDx : va_D _ (cw h0 hw cW n q g sp lo ph pr bo mo rf hd gr st nx) := w_DL (w_DL hD)
    have hFx := xF hDx hS (fun _ h => h)
    refine va_calli (va_runV (As := [.int (xs (1 + 5 * j + 1)), .int 0]) (rest := []) ⟨hx, hb, hml, hown, hts⟩ (c1_lost l D cW h0 hw n q g sp lo ph pr bo mo rf hd gr st nx hn hg (xs (1 + 5 * j + 1)) 0 (by decide) _) (cwV 2 hts gL_law_X1_lost rfl rfl rfl (by decide +kernel) ⟨Nat.le_of_ble_eq_true rfl, Nat.le_of_ble_eq_true rfl⟩) ⟨xW_blind, va_recv hKC hPx (ci := 1) (q0 := 0) rfl rfl, xW_at hPx hKC hN hDx⟩ rfl rfl hl.1 rfl (lv_room (Nat.le_of_ble_eq_true rfl)) dL_law_543 ⟨by show _ ≤ 667310; omega, by show _ ≤ 7094139; omega⟩) hS (fun z _ h => hFx z h) hFx (fun r u t H1 locs ht hvm hpo hB hz1 hk1 hS => ?_)
    have hP1 := xB_P hB ht
    obtain ⟨hP, hD⟩ := w_joinLL hP hD hk1 hFx hP1 hB.2
    clear hP1 hB hk1 hz1 ht hvm hFx hPx hDx
    obtain ⟨rfl, rfl⟩ := hpo
    replace hP : va_P D vwCl (((cw h0 hw cW n q g sp (if wOut n (xs (1 + 5 * j + 1)) then lo else va_up lo ((xs (1 + 5 * j + 1))).toNatClampNeg 0) ph pr bo mo rf hd gr st nx) ++ [(o, .inl (cO, 1, .inr (.inl row)))]) ++ mw m0 a C th (nI n) sp lo ph pr bo mo2 rf gr hd st ch rs) H1 := hP
    replace hD : va_D (fun z : Nat => s.heap.size ≤ z) (((cw h0 hw cW n q g sp (if wOut n (xs (1 + 5 * j + 1)) then lo else va_up lo ((xs (1 + 5 * j + 1))).toNatClampNeg 0) ph pr bo mo rf hd gr st nx) ++ [(o, .inl (cO, 1, .inr (.inl row)))]) ++ mw m0 a C th (nI n) sp lo ph pr bo mo2 rf gr hd st ch rs) := hD
    refine lv_aload_n hx hb dL_law_546 rfl (lv_at hl 3 rfl) ?_
    refine lv_aload_n hx hb dL_law_547 rfl (lv_at hl 1 rfl) ?_
    refine lv_iload hx hb dL_law_548 (lv_at hl 0 rfl) ?_
    refine lv_iconst (v := 1) hx hb dL_law_550 (by decide) ?_
    refine lv_iadd hx hb dL_law_551 ?_
    refine va_sld hx hb hX hbl (Nat.not_le.mpr hbl) hS (ix_s (x := 1 + 5 * j) (k := 1) (by omega) hL) dL_law_552 ?_
    refine W.eq (g2 := F0 m 553 ls [.int (xs (1 + 5 * j + 1)), .ref m0, .int (if wOut n (xs (1 + 5 * j + 1)) then -1 else cnt (va_up lo ((xs (1 + 5 * j + 1))).toNatClampNeg 0) n)]) (congrArg (fun z => F0 m 553 ls (.int (xs z) :: [.ref m0, .int (if wOut n (xs (1 + 5 * j + 1)) then -1 else cnt (va_up lo ((xs (1 + 5 * j + 1))).toNatClampNeg 0) n)])) (ix_sc (x := 1 + 5 * j) (k := 1) (by omega))) ?_
    refine lv_aload_n hx hb dL_law_553 rfl (lv_at hl 1 rfl) ?_
    refine lv_iload hx hb dL_law_554 (lv_at hl 0 rfl) ?_
    refine lv_iconst (v := 2) hx hb dL_law_556 (by decide) ?_
    refine lv_iadd hx hb dL_law_557 ?_
    refine va_sld hx hb hX hbl (Nat.not_le.mpr hbl) hS (ix_s (x := 1 + 5 * j) (k := 2) (by omega) hL) dL_law_558 ?_
    refine W.eq (g2 := F0 m 559 ls [.int (xs (1 + 5 * j + 2)), .int (xs (1 + 5 * j + 1)), .ref m0, .int (if wOut n (xs (1 + 5 * j + 1)) then -1 else cnt (va_up lo ((xs (1 + 5 * j + 1))).toNatClampNeg 0) n)]) (congrArg (fun z => F0 m 559 ls (.int (xs z) :: [.int (xs (1 + 5 * j + 1)), .ref m0, .int (if wOut n (xs (1 + 5 * j + 1)) then -1 else cnt (va_up lo ((xs (1 + 5 * j + 1))).toNatClampNeg 0) n)])) (ix_sc (x := 1 + 5 * j) (k := 2) (by omega))) ?_
    refine lv_if_eq (tgt := 566) hx hb dL_law_559 (by decide) (fun c_2 => ?_) (fun c_2 => absurd c_1 c_2)
    refine lv_iconst (v := 0) hx hb dL_law_566 (by decide) ?_
    have hPx : va_P D vwCl (mw m0 a C th (nI n) sp lo ph pr bo mo2 rf gr hd st ch rs) _ := w_PR hP
    have hDx : va_D _ (mw m0 a C th (nI n) sp lo ph pr bo mo2 rf gr hd st ch rs) := w_DR hD
    have hFx := xF hDx hS (fun _ h => h)
    refine va_calli (va_runV (As := [.int (xs (1 + 5 * j + 1)), .int 0]) (rest := [.int (if wOut n (xs (1 + 5 * j + 1)) then -1 else cnt (va_up lo ((xs (1 + 5 * j + 1))).toNatClampNeg 0) n)]) ⟨hx, hb, hml, hown, hts⟩ (m2_lost l D m0 a C n th sp lo ph pr bo mo2 rf gr hd st ch rs hn (xs (1 + 5 * j + 1)) 0 (by decide) _) (cwV 2 hts gL_law_X2_lost rfl rfl rfl (by decide +kernel) ⟨Nat.le_of_ble_eq_true rfl, Nat.le_of_ble_eq_true rfl⟩) ⟨xW_blind, va_recv hKM hPx (ci := 2) (q0 := 0) rfl rfl, xW_at hPx hKM hN hDx⟩ rfl rfl hl.1 rfl (lv_room (Nat.le_of_ble_eq_true rfl)) dL_law_567 ⟨by show _ ≤ 667310; omega, by show _ ≤ 7094139; omega⟩) hS (fun z _ h => hFx z h) hFx (fun r u t H1 locs ht hvm hpo hB hz1 hk1 hS => ?_)
    have hP1 := xB_P hB ht
    obtain ⟨hP, hD⟩ := w_joinR hP hD hk1 hFx hP1 hB.2
    clear hP1 hB hk1 hz1 ht hvm hFx hPx hDx
    obtain ⟨u1, u2⟩ := u
    dsimp only at hpo hP hD
    obtain ⟨rfl, rfl, rfl⟩ := hpo
    replace hP : va_P D vwCl (((cw h0 hw cW n q g sp (if wOut n (xs (1 + 5 * j + 1)) then lo else va_up lo ((xs (1 + 5 * j + 1))).toNatClampNeg 0) ph pr bo mo rf hd gr st nx) ++ [(o, .inl (cO, 1, .inr (.inl row)))]) ++ mw m0 a C 0 (nI n) sp (if wOut n (xs (1 + 5 * j + 1)) then lo else va_up lo ((xs (1 + 5 * j + 1))).toNatClampNeg 0) ph pr bo mo2 rf gr hd st ch rs) H1 := hP
    replace hD : va_D (fun z : Nat => s.heap.size ≤ z) (((cw h0 hw cW n q g sp (if wOut n (xs (1 + 5 * j + 1)) then lo else va_up lo ((xs (1 + 5 * j + 1))).toNatClampNeg 0) ph pr bo mo rf hd gr st nx) ++ [(o, .inl (cO, 1, .inr (.inl row)))]) ++ mw m0 a C 0 (nI n) sp (if wOut n (xs (1 + 5 * j + 1)) then lo else va_up lo ((xs (1 + 5 * j + 1))).toNatClampNeg 0) ph pr bo mo2 rf gr hd st ch rs) := hD
    refine lv_icmp_eq (tgt := 790) hx hb dL_law_570 (by decide) (fun c_3 => ?_) (fun c_3 => absurd rfl c_3)
    refine lv_iinc (v := nI (1 + 5 * (j + 1))) (lv' := [(4, .int (nI (1 + 5 * (j + 1)))), (0, .ref b), (1, .ref h0), (2, .ref m0), (3, .ref o)]) hx hb dL_law_790 hl (k := 0) rfl (i_5 j) (by decide) rfl (fun ls hl => ?_)
    refine lv_goto (tgt := 33) hx hb dL_law_793 (by decide) ?_
    refine W.widen (k := 100 + (j + 1)) (n := 1000 + 6 * (j + 1)) (by omega) (by omega) ?_
    exact hnx _ _ _ _ sp (if wOut n (xs (1 + 5 * j + 1)) then lo else va_up lo ((xs (1 + 5 * j + 1))).toNatClampNeg 0) ph pr bo mo mo2 rf hd gr st nx ch rs 0 row hdd hP hD hS (INV_same hI) (lv_sub hl [0, 1, 2, 3, 4] rfl)
  · skip
    refine lv_iconst (v := 1) hx hb dL_law_538 (by decide) ?_
    refine lv_goto (tgt := 543) hx hb dL_law_539 (by decide) ?_
    have hPx : va_P D vwCl (cw h0 hw cW n q g sp lo ph pr bo mo rf hd gr st nx) _ := w_PL (w_PL hP)
    have hDx : va_D _ (cw h0 hw cW n q g sp lo ph pr bo mo rf hd gr st nx) := w_DL (w_DL hD)
    have hFx := xF hDx hS (fun _ h => h)
    refine va_calli (va_runV (As := [.int (xs (1 + 5 * j + 1)), .int 1]) (rest := []) ⟨hx, hb, hml, hown, hts⟩ (c1_lost l D cW h0 hw n q g sp lo ph pr bo mo rf hd gr st nx hn hg (xs (1 + 5 * j + 1)) 1 (by decide) _) (cwV 2 hts gL_law_X1_lost rfl rfl rfl (by decide +kernel) ⟨Nat.le_of_ble_eq_true rfl, Nat.le_of_ble_eq_true rfl⟩) ⟨xW_blind, va_recv hKC hPx (ci := 1) (q0 := 0) rfl rfl, xW_at hPx hKC hN hDx⟩ rfl rfl hl.1 rfl (lv_room (Nat.le_of_ble_eq_true rfl)) dL_law_543 ⟨by show _ ≤ 667310; omega, by show _ ≤ 7094139; omega⟩) hS (fun z _ h => hFx z h) hFx (fun r u t H1 locs ht hvm hpo hB hz1 hk1 hS => ?_)
    have hP1 := xB_P hB ht
    obtain ⟨hP, hD⟩ := w_joinLL hP hD hk1 hFx hP1 hB.2
    clear hP1 hB hk1 hz1 ht hvm hFx hPx hDx
    obtain ⟨rfl, rfl⟩ := hpo
    replace hP : va_P D vwCl (((cw h0 hw cW n q g sp (if wOut n (xs (1 + 5 * j + 1)) then lo else va_up lo ((xs (1 + 5 * j + 1))).toNatClampNeg 1) ph pr bo mo rf hd gr st nx) ++ [(o, .inl (cO, 1, .inr (.inl row)))]) ++ mw m0 a C th (nI n) sp lo ph pr bo mo2 rf gr hd st ch rs) H1 := hP
    replace hD : va_D (fun z : Nat => s.heap.size ≤ z) (((cw h0 hw cW n q g sp (if wOut n (xs (1 + 5 * j + 1)) then lo else va_up lo ((xs (1 + 5 * j + 1))).toNatClampNeg 1) ph pr bo mo rf hd gr st nx) ++ [(o, .inl (cO, 1, .inr (.inl row)))]) ++ mw m0 a C th (nI n) sp lo ph pr bo mo2 rf gr hd st ch rs) := hD
    refine lv_aload_n hx hb dL_law_546 rfl (lv_at hl 3 rfl) ?_
    refine lv_aload_n hx hb dL_law_547 rfl (lv_at hl 1 rfl) ?_
    refine lv_iload hx hb dL_law_548 (lv_at hl 0 rfl) ?_
    refine lv_iconst (v := 1) hx hb dL_law_550 (by decide) ?_
    refine lv_iadd hx hb dL_law_551 ?_
    refine va_sld hx hb hX hbl (Nat.not_le.mpr hbl) hS (ix_s (x := 1 + 5 * j) (k := 1) (by omega) hL) dL_law_552 ?_
    refine W.eq (g2 := F0 m 553 ls [.int (xs (1 + 5 * j + 1)), .ref m0, .int (if wOut n (xs (1 + 5 * j + 1)) then -1 else cnt (va_up lo ((xs (1 + 5 * j + 1))).toNatClampNeg 1) n)]) (congrArg (fun z => F0 m 553 ls (.int (xs z) :: [.ref m0, .int (if wOut n (xs (1 + 5 * j + 1)) then -1 else cnt (va_up lo ((xs (1 + 5 * j + 1))).toNatClampNeg 1) n)])) (ix_sc (x := 1 + 5 * j) (k := 1) (by omega))) ?_
    refine lv_aload_n hx hb dL_law_553 rfl (lv_at hl 1 rfl) ?_
    refine lv_iload hx hb dL_law_554 (lv_at hl 0 rfl) ?_
    refine lv_iconst (v := 2) hx hb dL_law_556 (by decide) ?_
    refine lv_iadd hx hb dL_law_557 ?_
    refine va_sld hx hb hX hbl (Nat.not_le.mpr hbl) hS (ix_s (x := 1 + 5 * j) (k := 2) (by omega) hL) dL_law_558 ?_
    refine W.eq (g2 := F0 m 559 ls [.int (xs (1 + 5 * j + 2)), .int (xs (1 + 5 * j + 1)), .ref m0, .int (if wOut n (xs (1 + 5 * j + 1)) then -1 else cnt (va_up lo ((xs (1 + 5 * j + 1))).toNatClampNeg 1) n)]) (congrArg (fun z => F0 m 559 ls (.int (xs z) :: [.int (xs (1 + 5 * j + 1)), .ref m0, .int (if wOut n (xs (1 + 5 * j + 1)) then -1 else cnt (va_up lo ((xs (1 + 5 * j + 1))).toNatClampNeg 1) n)])) (ix_sc (x := 1 + 5 * j) (k := 2) (by omega))) ?_
    refine lv_if_eq (tgt := 566) hx hb dL_law_559 (by decide) (fun c_4 => absurd c_4 c_1) (fun c_4 => ?_)
    refine lv_iconst (v := 1) hx hb dL_law_562 (by decide) ?_
    refine lv_goto (tgt := 567) hx hb dL_law_563 (by decide) ?_
    have hPx : va_P D vwCl (mw m0 a C th (nI n) sp lo ph pr bo mo2 rf gr hd st ch rs) _ := w_PR hP
    have hDx : va_D _ (mw m0 a C th (nI n) sp lo ph pr bo mo2 rf gr hd st ch rs) := w_DR hD
    have hFx := xF hDx hS (fun _ h => h)
    refine va_calli (va_runV (As := [.int (xs (1 + 5 * j + 1)), .int 1]) (rest := [.int (if wOut n (xs (1 + 5 * j + 1)) then -1 else cnt (va_up lo ((xs (1 + 5 * j + 1))).toNatClampNeg 1) n)]) ⟨hx, hb, hml, hown, hts⟩ (m2_lost l D m0 a C n th sp lo ph pr bo mo2 rf gr hd st ch rs hn (xs (1 + 5 * j + 1)) 1 (by decide) _) (cwV 2 hts gL_law_X2_lost rfl rfl rfl (by decide +kernel) ⟨Nat.le_of_ble_eq_true rfl, Nat.le_of_ble_eq_true rfl⟩) ⟨xW_blind, va_recv hKM hPx (ci := 2) (q0 := 0) rfl rfl, xW_at hPx hKM hN hDx⟩ rfl rfl hl.1 rfl (lv_room (Nat.le_of_ble_eq_true rfl)) dL_law_567 ⟨by show _ ≤ 667310; omega, by show _ ≤ 7094139; omega⟩) hS (fun z _ h => hFx z h) hFx (fun r u t H1 locs ht hvm hpo hB hz1 hk1 hS => ?_)
    have hP1 := xB_P hB ht
    obtain ⟨hP, hD⟩ := w_joinR hP hD hk1 hFx hP1 hB.2
    clear hP1 hB hk1 hz1 ht hvm hFx hPx hDx
    obtain ⟨u1, u2⟩ := u
    dsimp only at hpo hP hD
    obtain ⟨rfl, rfl, rfl⟩ := hpo
    replace hP : va_P D vwCl (((cw h0 hw cW n q g sp (if wOut n (xs (1 + 5 * j + 1)) then lo else va_up lo ((xs (1 + 5 * j + 1))).toNatClampNeg 1) ph pr bo mo rf hd gr st nx) ++ [(o, .inl (cO, 1, .inr (.inl row)))]) ++ mw m0 a C 0 (nI n) sp (if wOut n (xs (1 + 5 * j + 1)) then lo else va_up lo ((xs (1 + 5 * j + 1))).toNatClampNeg 1) ph pr bo mo2 rf gr hd st ch rs) H1 := hP
    replace hD : va_D (fun z : Nat => s.heap.size ≤ z) (((cw h0 hw cW n q g sp (if wOut n (xs (1 + 5 * j + 1)) then lo else va_up lo ((xs (1 + 5 * j + 1))).toNatClampNeg 1) ph pr bo mo rf hd gr st nx) ++ [(o, .inl (cO, 1, .inr (.inl row)))]) ++ mw m0 a C 0 (nI n) sp (if wOut n (xs (1 + 5 * j + 1)) then lo else va_up lo ((xs (1 + 5 * j + 1))).toNatClampNeg 1) ph pr bo mo2 rf gr hd st ch rs) := hD
    refine lv_icmp_eq (tgt := 790) hx hb dL_law_570 (by decide) (fun c_5 => ?_) (fun c_5 => absurd rfl c_5)
    refine lv_iinc (v := nI (1 + 5 * (j + 1))) (lv' := [(4, .int (nI (1 + 5 * (j + 1)))), (0, .ref b), (1, .ref h0), (2, .ref m0), (3, .ref o)]) hx hb dL_law_790 hl (k := 0) rfl (i_5 j) (by decide) rfl (fun ls hl => ?_)
    refine lv_goto (tgt := 33) hx hb dL_law_793 (by decide) ?_
    refine W.widen (k := 100 + (j + 1)) (n := 1000 + 6 * (j + 1)) (by omega) (by omega) ?_
    exact hnx _ _ _ _ sp (if wOut n (xs (1 + 5 * j + 1)) then lo else va_up lo ((xs (1 + 5 * j + 1))).toNatClampNeg 1) ph pr bo mo mo2 rf hd gr st nx ch rs 0 row hdd hP hD hS (INV_same hI) (lv_sub hl [0, 1, 2, 3, 4] rfl)
set_option maxHeartbeats 4000000 in
set_option maxRecDepth 100000 in
/-- hold -/
theorem lc_hold {p : Program} {l : Launch} {e : Env} {s : State} {m : MethodId} {below : List Frame} {meth : Method} {c : Code} {b L : Nat} {xs : Nat → Int32} {D : va_G} {cW : ClassId} {h0 hw n : Nat} {q : Nat → Nat} {g : Nat → Option Nat} {m0 : Nat} {a : Nat → Nat} {C : Nat → ClassId} {o : Nat} {cO : ClassId} {sa : Nat} (hE : LE p l s m meth c b L xs D cW n q g C cO sa) {j : Nat} (hj : 1 + 5 * j + 5 ≤ L) (hnx : LN p l e s m below meth c b D cW h0 hw n q g m0 a C o cO j) {dd : Drawn} {H : Heap} {locs : List Loc} {ls : Array Slot} {sp : Nat → Int64} {lo ph : Nat → Int32} {pr bo : Nat → Int64} {mo mo2 : Nat → UInt64} {rf : Int64} {hd gr st nx ch rs th : Int32} {row : Nat → Int64} (hdd : s.drawn.sameBut dd lw_cs) (hP : va_P D vwCl (((cw h0 hw cW n q g sp lo ph pr bo mo rf hd gr st nx) ++ [(o, .inl (cO, 1, .inr (.inl row)))]) ++ mw m0 a C th (nI n) sp lo ph pr bo mo2 rf gr hd st ch rs) H) (hD : va_D (fun z : Nat => s.heap.size ≤ z) (((cw h0 hw cW n q g sp lo ph pr bo mo rf hd gr st nx) ++ [(o, .inl (cO, 1, .inr (.inl row)))]) ++ mw m0 a C th (nI n) sp lo ph pr bo mo2 rf gr hd st ch rs)) (hS : va_S (fun z : Nat => s.heap.size ≤ z) s.heap H locs) (hI : INV n j sp pr bo mo mo2 rf hd st nx ch rs) (hl : lv_has ls 9 [(4, .int (nI (1 + 5 * j))), (0, .ref b), (1, .ref h0), (2, .ref m0), (3, .ref o)]) : W p l e room_1 (s.setDrawn dd) m #[Value.ref b] below meth c H locs (100 + j) (1000 + 6 * j) (lw_Z below #[Value.ref b] s) (F0 m 575 ls []) := by
  obtain ⟨hx, hb, hr, hml, hown, hts0, hX0, hbl, hlocks, hKC0, hKM0, hKO0, hN0, hL, hn, h2, hg, hst, hTA⟩ := hE
  have hts := dr_words hts0 dd
  have hN := cN_draw (d := dd) hN0
  have hKC : va_K D vwCl [(cW, .object RX0)] (s.setDrawn dd) := hKC0
  have hKM : va_K D vwCl [(C 1, .long), (C 2, .boolean), (C 3, .int), (C 4, .long), (C 5, .long), (C 6, .double)] (s.setDrawn dd) := hKM0
  have hKO : va_K D vwCl [(cO, .long)] (s.setDrawn dd) := hKO0
  have hX : va_X b L xs (s.setDrawn dd) s.heap := hX0
  refine lv_aload_n hx hb dL_law_575 rfl (lv_at hl 2 rfl) ?_
  refine lv_aload_n hx hb dL_law_576 rfl (lv_at hl 1 rfl) ?_
  refine lv_iload hx hb dL_law_577 (lv_at hl 0 rfl) ?_
  refine lv_iconst (v := 1) hx hb dL_law_579 (by decide) ?_
  refine lv_iadd hx hb dL_law_580 ?_
  refine va_sld hx hb hX hbl (Nat.not_le.mpr hbl) hS (ix_s (x := 1 + 5 * j) (k := 1) (by omega) hL) dL_law_581 ?_
  refine W.eq (g2 := F0 m 582 ls [.int (xs (1 + 5 * j + 1)), .ref h0]) (congrArg (fun z => F0 m 582 ls (.int (xs z) :: [.ref h0])) (ix_sc (x := 1 + 5 * j) (k := 1) (by omega))) ?_
  refine lv_if_eq (tgt := 589) hx hb dL_law_582 (by decide) (fun c_1 => ?_) (fun c_1 => ?_)
  · skip
    refine lv_iconst (v := 0) hx hb dL_law_589 (by decide) ?_
    have hPx : va_P D vwCl (cw h0 hw cW n q g sp lo ph pr bo mo rf hd gr st nx) _ := w_PL (w_PL hP)
    have hDx : va_D _ (cw h0 hw cW n q g sp lo ph pr bo mo rf hd gr st nx) := w_DL (w_DL hD)
    have hFx := xF hDx hS (fun _ h => h)
    refine va_calli (va_runV (As := [.int 0]) (rest := []) ⟨hx, hb, hml, hown, hts⟩ (c1_hold l D cW h0 hw n q g sp lo ph pr bo mo rf hd gr st nx hn hg 0 _) (cwV 1 hts gL_law_X1_hold rfl rfl rfl (by decide +kernel) ⟨Nat.le_of_ble_eq_true rfl, Nat.le_of_ble_eq_true rfl⟩) ⟨xW_blind, va_recv hKC hPx (ci := 1) (q0 := 0) rfl rfl, xW_at hPx hKC hN hDx⟩ rfl rfl hl.1 rfl (lv_room (Nat.le_of_ble_eq_true rfl)) dL_law_590 ⟨by show _ ≤ 667310; omega, by show _ ≤ 7094139; omega⟩) hS (fun z _ h => hFx z h) hFx (fun r u t H1 locs ht hvm hpo hB hz1 hk1 hS => ?_)
    have hP1 := xB_P hB ht
    obtain ⟨hP, hD⟩ := w_joinLL hP hD hk1 hFx hP1 hB.2
    clear hP1 hB hk1 hz1 ht hvm hFx hPx hDx
    obtain ⟨rfl, rfl⟩ := hpo
    replace hP : va_P D vwCl (((cw h0 hw cW n q g sp lo ph pr bo mo rf (sHold 0 hd rf) gr st nx) ++ [(o, .inl (cO, 1, .inr (.inl row)))]) ++ mw m0 a C th (nI n) sp lo ph pr bo mo2 rf gr hd st ch rs) H1 := hP
    replace hD : va_D (fun z : Nat => s.heap.size ≤ z) (((cw h0 hw cW n q g sp lo ph pr bo mo rf (sHold 0 hd rf) gr st nx) ++ [(o, .inl (cO, 1, .inr (.inl row)))]) ++ mw m0 a C th (nI n) sp lo ph pr bo mo2 rf gr hd st ch rs) := hD
    refine lv_aload_n hx hb dL_law_593 rfl (lv_at hl 3 rfl) ?_
    refine lv_aload_n hx hb dL_law_594 rfl (lv_at hl 1 rfl) ?_
    refine lv_iload hx hb dL_law_595 (lv_at hl 0 rfl) ?_
    refine lv_iconst (v := 1) hx hb dL_law_597 (by decide) ?_
    refine lv_iadd hx hb dL_law_598 ?_
    refine va_sld hx hb hX hbl (Nat.not_le.mpr hbl) hS (ix_s (x := 1 + 5 * j) (k := 1) (by omega) hL) dL_law_599 ?_
    refine W.eq (g2 := F0 m 600 ls [.int (xs (1 + 5 * j + 1)), .ref m0, .int (sHold 0 hd rf)]) (congrArg (fun z => F0 m 600 ls (.int (xs z) :: [.ref m0, .int (sHold 0 hd rf)])) (ix_sc (x := 1 + 5 * j) (k := 1) (by omega))) ?_
    refine lv_if_eq (tgt := 607) hx hb dL_law_600 (by decide) (fun c_2 => ?_) (fun c_2 => absurd c_1 c_2)
    refine lv_iconst (v := 0) hx hb dL_law_607 (by decide) ?_
    have hPx : va_P D vwCl (mw m0 a C th (nI n) sp lo ph pr bo mo2 rf gr hd st ch rs) _ := w_PR hP
    have hDx : va_D _ (mw m0 a C th (nI n) sp lo ph pr bo mo2 rf gr hd st ch rs) := w_DR hD
    have hFx := xF hDx hS (fun _ h => h)
    refine va_calli (va_runV (As := [.int 0]) (rest := [.int (sHold 0 hd rf)]) ⟨hx, hb, hml, hown, hts⟩ (m2_hold l D m0 a C n th sp lo ph pr bo mo2 rf gr hd st ch rs hn 0 _) (cwV 1 hts gL_law_X2_hold rfl rfl rfl (by decide +kernel) ⟨Nat.le_of_ble_eq_true rfl, Nat.le_of_ble_eq_true rfl⟩) ⟨xW_blind, va_recv hKM hPx (ci := 2) (q0 := 0) rfl rfl, xW_at hPx hKM hN hDx⟩ rfl rfl hl.1 rfl (lv_room (Nat.le_of_ble_eq_true rfl)) dL_law_608 ⟨by show _ ≤ 667310; omega, by show _ ≤ 7094139; omega⟩) hS (fun z _ h => hFx z h) hFx (fun r u t H1 locs ht hvm hpo hB hz1 hk1 hS => ?_)
    have hP1 := xB_P hB ht
    obtain ⟨hP, hD⟩ := w_joinR hP hD hk1 hFx hP1 hB.2
    clear hP1 hB hk1 hz1 ht hvm hFx hPx hDx
    obtain ⟨u1, u2⟩ := u
    dsimp only at hpo hP hD
    obtain ⟨rfl, rfl, rfl⟩ := hpo
    replace hP : va_P D vwCl (((cw h0 hw cW n q g sp lo ph pr bo mo rf (sHold 0 hd rf) gr st nx) ++ [(o, .inl (cO, 1, .inr (.inl row)))]) ++ mw m0 a C 0 (nI n) sp lo ph pr bo mo2 rf gr (sHold 0 hd rf) st ch rs) H1 := hP
    replace hD : va_D (fun z : Nat => s.heap.size ≤ z) (((cw h0 hw cW n q g sp lo ph pr bo mo rf (sHold 0 hd rf) gr st nx) ++ [(o, .inl (cO, 1, .inr (.inl row)))]) ++ mw m0 a C 0 (nI n) sp lo ph pr bo mo2 rf gr (sHold 0 hd rf) st ch rs) := hD
    refine lv_icmp_eq (tgt := 790) hx hb dL_law_611 (by decide) (fun c_3 => ?_) (fun c_3 => absurd rfl c_3)
    refine lv_iinc (v := nI (1 + 5 * (j + 1))) (lv' := [(4, .int (nI (1 + 5 * (j + 1)))), (0, .ref b), (1, .ref h0), (2, .ref m0), (3, .ref o)]) hx hb dL_law_790 hl (k := 0) rfl (i_5 j) (by decide) rfl (fun ls hl => ?_)
    refine lv_goto (tgt := 33) hx hb dL_law_793 (by decide) ?_
    refine W.widen (k := 100 + (j + 1)) (n := 1000 + 6 * (j + 1)) (by omega) (by omega) ?_
    exact hnx _ _ _ _ sp lo ph pr bo mo mo2 rf (sHold 0 hd rf) gr st nx ch rs 0 row hdd hP hD hS (INV_hold hI) (lv_sub hl [0, 1, 2, 3, 4] rfl)
  · skip
    refine lv_iconst (v := 1) hx hb dL_law_585 (by decide) ?_
    refine lv_goto (tgt := 590) hx hb dL_law_586 (by decide) ?_
    have hPx : va_P D vwCl (cw h0 hw cW n q g sp lo ph pr bo mo rf hd gr st nx) _ := w_PL (w_PL hP)
    have hDx : va_D _ (cw h0 hw cW n q g sp lo ph pr bo mo rf hd gr st nx) := w_DL (w_DL hD)
    have hFx := xF hDx hS (fun _ h => h)
    refine va_calli (va_runV (As := [.int 1]) (rest := []) ⟨hx, hb, hml, hown, hts⟩ (c1_hold l D cW h0 hw n q g sp lo ph pr bo mo rf hd gr st nx hn hg 1 _) (cwV 1 hts gL_law_X1_hold rfl rfl rfl (by decide +kernel) ⟨Nat.le_of_ble_eq_true rfl, Nat.le_of_ble_eq_true rfl⟩) ⟨xW_blind, va_recv hKC hPx (ci := 1) (q0 := 0) rfl rfl, xW_at hPx hKC hN hDx⟩ rfl rfl hl.1 rfl (lv_room (Nat.le_of_ble_eq_true rfl)) dL_law_590 ⟨by show _ ≤ 667310; omega, by show _ ≤ 7094139; omega⟩) hS (fun z _ h => hFx z h) hFx (fun r u t H1 locs ht hvm hpo hB hz1 hk1 hS => ?_)
    have hP1 := xB_P hB ht
    obtain ⟨hP, hD⟩ := w_joinLL hP hD hk1 hFx hP1 hB.2
    clear hP1 hB hk1 hz1 ht hvm hFx hPx hDx
    obtain ⟨rfl, rfl⟩ := hpo
    replace hP : va_P D vwCl (((cw h0 hw cW n q g sp lo ph pr bo mo rf (sHold 1 hd rf) gr st nx) ++ [(o, .inl (cO, 1, .inr (.inl row)))]) ++ mw m0 a C th (nI n) sp lo ph pr bo mo2 rf gr hd st ch rs) H1 := hP
    replace hD : va_D (fun z : Nat => s.heap.size ≤ z) (((cw h0 hw cW n q g sp lo ph pr bo mo rf (sHold 1 hd rf) gr st nx) ++ [(o, .inl (cO, 1, .inr (.inl row)))]) ++ mw m0 a C th (nI n) sp lo ph pr bo mo2 rf gr hd st ch rs) := hD
    refine lv_aload_n hx hb dL_law_593 rfl (lv_at hl 3 rfl) ?_
    refine lv_aload_n hx hb dL_law_594 rfl (lv_at hl 1 rfl) ?_
    refine lv_iload hx hb dL_law_595 (lv_at hl 0 rfl) ?_
    refine lv_iconst (v := 1) hx hb dL_law_597 (by decide) ?_
    refine lv_iadd hx hb dL_law_598 ?_
    refine va_sld hx hb hX hbl (Nat.not_le.mpr hbl) hS (ix_s (x := 1 + 5 * j) (k := 1) (by omega) hL) dL_law_599 ?_
    refine W.eq (g2 := F0 m 600 ls [.int (xs (1 + 5 * j + 1)), .ref m0, .int (sHold 1 hd rf)]) (congrArg (fun z => F0 m 600 ls (.int (xs z) :: [.ref m0, .int (sHold 1 hd rf)])) (ix_sc (x := 1 + 5 * j) (k := 1) (by omega))) ?_
    refine lv_if_eq (tgt := 607) hx hb dL_law_600 (by decide) (fun c_4 => absurd c_4 c_1) (fun c_4 => ?_)
    refine lv_iconst (v := 1) hx hb dL_law_603 (by decide) ?_
    refine lv_goto (tgt := 608) hx hb dL_law_604 (by decide) ?_
    have hPx : va_P D vwCl (mw m0 a C th (nI n) sp lo ph pr bo mo2 rf gr hd st ch rs) _ := w_PR hP
    have hDx : va_D _ (mw m0 a C th (nI n) sp lo ph pr bo mo2 rf gr hd st ch rs) := w_DR hD
    have hFx := xF hDx hS (fun _ h => h)
    refine va_calli (va_runV (As := [.int 1]) (rest := [.int (sHold 1 hd rf)]) ⟨hx, hb, hml, hown, hts⟩ (m2_hold l D m0 a C n th sp lo ph pr bo mo2 rf gr hd st ch rs hn 1 _) (cwV 1 hts gL_law_X2_hold rfl rfl rfl (by decide +kernel) ⟨Nat.le_of_ble_eq_true rfl, Nat.le_of_ble_eq_true rfl⟩) ⟨xW_blind, va_recv hKM hPx (ci := 2) (q0 := 0) rfl rfl, xW_at hPx hKM hN hDx⟩ rfl rfl hl.1 rfl (lv_room (Nat.le_of_ble_eq_true rfl)) dL_law_608 ⟨by show _ ≤ 667310; omega, by show _ ≤ 7094139; omega⟩) hS (fun z _ h => hFx z h) hFx (fun r u t H1 locs ht hvm hpo hB hz1 hk1 hS => ?_)
    have hP1 := xB_P hB ht
    obtain ⟨hP, hD⟩ := w_joinR hP hD hk1 hFx hP1 hB.2
    clear hP1 hB hk1 hz1 ht hvm hFx hPx hDx
    obtain ⟨u1, u2⟩ := u
    dsimp only at hpo hP hD
    obtain ⟨rfl, rfl, rfl⟩ := hpo
    replace hP : va_P D vwCl (((cw h0 hw cW n q g sp lo ph pr bo mo rf (sHold 1 hd rf) gr st nx) ++ [(o, .inl (cO, 1, .inr (.inl row)))]) ++ mw m0 a C 0 (nI n) sp lo ph pr bo mo2 rf gr (sHold 1 hd rf) st ch rs) H1 := hP
    replace hD : va_D (fun z : Nat => s.heap.size ≤ z) (((cw h0 hw cW n q g sp lo ph pr bo mo rf (sHold 1 hd rf) gr st nx) ++ [(o, .inl (cO, 1, .inr (.inl row)))]) ++ mw m0 a C 0 (nI n) sp lo ph pr bo mo2 rf gr (sHold 1 hd rf) st ch rs) := hD
    refine lv_icmp_eq (tgt := 790) hx hb dL_law_611 (by decide) (fun c_5 => ?_) (fun c_5 => absurd rfl c_5)
    refine lv_iinc (v := nI (1 + 5 * (j + 1))) (lv' := [(4, .int (nI (1 + 5 * (j + 1)))), (0, .ref b), (1, .ref h0), (2, .ref m0), (3, .ref o)]) hx hb dL_law_790 hl (k := 0) rfl (i_5 j) (by decide) rfl (fun ls hl => ?_)
    refine lv_goto (tgt := 33) hx hb dL_law_793 (by decide) ?_
    refine W.widen (k := 100 + (j + 1)) (n := 1000 + 6 * (j + 1)) (by omega) (by omega) ?_
    exact hnx _ _ _ _ sp lo ph pr bo mo mo2 rf (sHold 1 hd rf) gr st nx ch rs 0 row hdd hP hD hS (INV_hold hI) (lv_sub hl [0, 1, 2, 3, 4] rfl)
set_option maxHeartbeats 4000000 in
set_option maxRecDepth 100000 in
/-- wish -/
theorem lc_wish {p : Program} {l : Launch} {e : Env} {s : State} {m : MethodId} {below : List Frame} {meth : Method} {c : Code} {b L : Nat} {xs : Nat → Int32} {D : va_G} {cW : ClassId} {h0 hw n : Nat} {q : Nat → Nat} {g : Nat → Option Nat} {m0 : Nat} {a : Nat → Nat} {C : Nat → ClassId} {o : Nat} {cO : ClassId} {sa : Nat} (hE : LE p l s m meth c b L xs D cW n q g C cO sa) {j : Nat} (hj : 1 + 5 * j + 5 ≤ L) (hnx : LN p l e s m below meth c b D cW h0 hw n q g m0 a C o cO j) {dd : Drawn} {H : Heap} {locs : List Loc} {ls : Array Slot} {sp : Nat → Int64} {lo ph : Nat → Int32} {pr bo : Nat → Int64} {mo mo2 : Nat → UInt64} {rf : Int64} {hd gr st nx ch rs th : Int32} {row : Nat → Int64} (hdd : s.drawn.sameBut dd lw_cs) (hP : va_P D vwCl (((cw h0 hw cW n q g sp lo ph pr bo mo rf hd gr st nx) ++ [(o, .inl (cO, 1, .inr (.inl row)))]) ++ mw m0 a C th (nI n) sp lo ph pr bo mo2 rf gr hd st ch rs) H) (hD : va_D (fun z : Nat => s.heap.size ≤ z) (((cw h0 hw cW n q g sp lo ph pr bo mo rf hd gr st nx) ++ [(o, .inl (cO, 1, .inr (.inl row)))]) ++ mw m0 a C th (nI n) sp lo ph pr bo mo2 rf gr hd st ch rs)) (hS : va_S (fun z : Nat => s.heap.size ≤ z) s.heap H locs) (hI : INV n j sp pr bo mo mo2 rf hd st nx ch rs) (hl : lv_has ls 9 [(4, .int (nI (1 + 5 * j))), (0, .ref b), (1, .ref h0), (2, .ref m0), (3, .ref o)]) : W p l e room_1 (s.setDrawn dd) m #[Value.ref b] below meth c H locs (100 + j) (1000 + 6 * j) (lw_Z below #[Value.ref b] s) (F0 m 616 ls []) := by
  obtain ⟨hx, hb, hr, hml, hown, hts0, hX0, hbl, hlocks, hKC0, hKM0, hKO0, hN0, hL, hn, h2, hg, hst, hTA⟩ := hE
  have hts := dr_words hts0 dd
  have hN := cN_draw (d := dd) hN0
  have hKC : va_K D vwCl [(cW, .object RX0)] (s.setDrawn dd) := hKC0
  have hKM : va_K D vwCl [(C 1, .long), (C 2, .boolean), (C 3, .int), (C 4, .long), (C 5, .long), (C 6, .double)] (s.setDrawn dd) := hKM0
  have hKO : va_K D vwCl [(cO, .long)] (s.setDrawn dd) := hKO0
  have hX : va_X b L xs (s.setDrawn dd) s.heap := hX0
  refine lv_aload_n hx hb dL_law_616 rfl (lv_at hl 2 rfl) ?_
  refine lv_aload_n hx hb dL_law_617 rfl (lv_at hl 1 rfl) ?_
  refine lv_iload hx hb dL_law_618 (lv_at hl 0 rfl) ?_
  refine lv_iconst (v := 1) hx hb dL_law_620 (by decide) ?_
  refine lv_iadd hx hb dL_law_621 ?_
  refine va_sld hx hb hX hbl (Nat.not_le.mpr hbl) hS (ix_s (x := 1 + 5 * j) (k := 1) (by omega) hL) dL_law_622 ?_
  refine W.eq (g2 := F0 m 623 ls [.int (xs (1 + 5 * j + 1)), .ref h0]) (congrArg (fun z => F0 m 623 ls (.int (xs z) :: [.ref h0])) (ix_sc (x := 1 + 5 * j) (k := 1) (by omega))) ?_
  have hPx : va_P D vwCl (cw h0 hw cW n q g sp lo ph pr bo mo rf hd gr st nx) _ := w_PL (w_PL hP)
  have hDx : va_D _ (cw h0 hw cW n q g sp lo ph pr bo mo rf hd gr st nx) := w_DL (w_DL hD)
  have hFx := xF hDx hS (fun _ h => h)
  refine va_calli (va_runV (As := [.int (xs (1 + 5 * j + 1))]) (rest := []) ⟨hx, hb, hml, hown, hts⟩ (c1_wish l D cW h0 hw n q g sp lo ph pr bo mo rf hd gr st nx hn hg (xs (1 + 5 * j + 1)) _) (cwV 1 hts gL_law_X1_wish rfl rfl rfl (by decide +kernel) ⟨Nat.le_of_ble_eq_true rfl, Nat.le_of_ble_eq_true rfl⟩) ⟨xW_blind, va_recv hKC hPx (ci := 1) (q0 := 0) rfl rfl, xW_at hPx hKC hN hDx⟩ rfl rfl hl.1 rfl (lv_room (Nat.le_of_ble_eq_true rfl)) dL_law_623 ⟨by show _ ≤ 667310; omega, by show _ ≤ 7094139; omega⟩) hS (fun z _ h => hFx z h) hFx (fun r u t H1 locs ht hvm hpo hB hz1 hk1 hS => ?_)
  have hP1 := xB_P hB ht
  obtain ⟨hP, hD⟩ := w_joinLL hP hD hk1 hFx hP1 hB.2
  clear hP1 hB hk1 hz1 ht hvm hFx hPx hDx
  obtain ⟨u1, u2⟩ := u
  dsimp only at hpo hP hD
  obtain ⟨rfl, rfl, rfl⟩ := hpo
  replace hP : va_P D vwCl (((cw h0 hw cW n q g sp lo ph pr bo mo rf hd (if sWish (xs (1 + 5 * j + 1)) rf = 1 then (xs (1 + 5 * j + 1)) else gr) st (if sWish (xs (1 + 5 * j + 1)) rf = 1 then st + 10 else nx)) ++ [(o, .inl (cO, 1, .inr (.inl row)))]) ++ mw m0 a C th (nI n) sp lo ph pr bo mo2 rf gr hd st ch rs) H1 := hP
  replace hD : va_D (fun z : Nat => s.heap.size ≤ z) (((cw h0 hw cW n q g sp lo ph pr bo mo rf hd (if sWish (xs (1 + 5 * j + 1)) rf = 1 then (xs (1 + 5 * j + 1)) else gr) st (if sWish (xs (1 + 5 * j + 1)) rf = 1 then st + 10 else nx)) ++ [(o, .inl (cO, 1, .inr (.inl row)))]) ++ mw m0 a C th (nI n) sp lo ph pr bo mo2 rf gr hd st ch rs) := hD
  refine lv_aload_n hx hb dL_law_626 rfl (lv_at hl 3 rfl) ?_
  refine lv_aload_n hx hb dL_law_627 rfl (lv_at hl 1 rfl) ?_
  refine lv_iload hx hb dL_law_628 (lv_at hl 0 rfl) ?_
  refine lv_iconst (v := 1) hx hb dL_law_630 (by decide) ?_
  refine lv_iadd hx hb dL_law_631 ?_
  refine va_sld hx hb hX hbl (Nat.not_le.mpr hbl) hS (ix_s (x := 1 + 5 * j) (k := 1) (by omega) hL) dL_law_632 ?_
  refine W.eq (g2 := F0 m 633 ls [.int (xs (1 + 5 * j + 1)), .ref m0, .int (sWish (xs (1 + 5 * j + 1)) rf)]) (congrArg (fun z => F0 m 633 ls (.int (xs z) :: [.ref m0, .int (sWish (xs (1 + 5 * j + 1)) rf)])) (ix_sc (x := 1 + 5 * j) (k := 1) (by omega))) ?_
  have hPx : va_P D vwCl (mw m0 a C th (nI n) sp lo ph pr bo mo2 rf gr hd st ch rs) _ := w_PR hP
  have hDx : va_D _ (mw m0 a C th (nI n) sp lo ph pr bo mo2 rf gr hd st ch rs) := w_DR hD
  have hFx := xF hDx hS (fun _ h => h)
  refine va_calli (va_runV (As := [.int (xs (1 + 5 * j + 1))]) (rest := [.int (sWish (xs (1 + 5 * j + 1)) rf)]) ⟨hx, hb, hml, hown, hts⟩ (m2_wish l D m0 a C n th sp lo ph pr bo mo2 rf gr hd st ch rs hn (xs (1 + 5 * j + 1)) _) (cwV 1 hts gL_law_X2_wish rfl rfl rfl (by decide +kernel) ⟨Nat.le_of_ble_eq_true rfl, Nat.le_of_ble_eq_true rfl⟩) ⟨xW_blind, va_recv hKM hPx (ci := 2) (q0 := 0) rfl rfl, xW_at hPx hKM hN hDx⟩ rfl rfl hl.1 rfl (lv_room (Nat.le_of_ble_eq_true rfl)) dL_law_633 ⟨by show _ ≤ 667310; omega, by show _ ≤ 7094139; omega⟩) hS (fun z _ h => hFx z h) hFx (fun r u t H1 locs ht hvm hpo hB hz1 hk1 hS => ?_)
  have hP1 := xB_P hB ht
  obtain ⟨hP, hD⟩ := w_joinR hP hD hk1 hFx hP1 hB.2
  clear hP1 hB hk1 hz1 ht hvm hFx hPx hDx
  obtain ⟨u1, u2, u3, u4⟩ := u
  dsimp only at hpo hP hD
  obtain ⟨rfl, rfl, rfl, rfl, rfl⟩ := hpo
  replace hP : va_P D vwCl (((cw h0 hw cW n q g sp lo ph pr bo mo rf hd (if sWish (xs (1 + 5 * j + 1)) rf = 1 then (xs (1 + 5 * j + 1)) else gr) st (if sWish (xs (1 + 5 * j + 1)) rf = 1 then st + 10 else nx)) ++ [(o, .inl (cO, 1, .inr (.inl row)))]) ++ mw m0 a C 0 (nI n) sp lo ph pr bo mo2 rf (if sWish (xs (1 + 5 * j + 1)) rf = 1 then (xs (1 + 5 * j + 1)) else gr) hd st (if sWish (xs (1 + 5 * j + 1)) rf = 1 then st else ch) (if sWish (xs (1 + 5 * j + 1)) rf = 1 then 10 else rs)) H1 := hP
  replace hD : va_D (fun z : Nat => s.heap.size ≤ z) (((cw h0 hw cW n q g sp lo ph pr bo mo rf hd (if sWish (xs (1 + 5 * j + 1)) rf = 1 then (xs (1 + 5 * j + 1)) else gr) st (if sWish (xs (1 + 5 * j + 1)) rf = 1 then st + 10 else nx)) ++ [(o, .inl (cO, 1, .inr (.inl row)))]) ++ mw m0 a C 0 (nI n) sp lo ph pr bo mo2 rf (if sWish (xs (1 + 5 * j + 1)) rf = 1 then (xs (1 + 5 * j + 1)) else gr) hd st (if sWish (xs (1 + 5 * j + 1)) rf = 1 then st else ch) (if sWish (xs (1 + 5 * j + 1)) rf = 1 then 10 else rs)) := hD
  refine lv_icmp_eq (tgt := 790) hx hb dL_law_636 (by decide) (fun c_1 => ?_) (fun c_1 => absurd rfl c_1)
  refine lv_iinc (v := nI (1 + 5 * (j + 1))) (lv' := [(4, .int (nI (1 + 5 * (j + 1)))), (0, .ref b), (1, .ref h0), (2, .ref m0), (3, .ref o)]) hx hb dL_law_790 hl (k := 0) rfl (i_5 j) (by decide) rfl (fun ls hl => ?_)
  refine lv_goto (tgt := 33) hx hb dL_law_793 (by decide) ?_
  refine W.widen (k := 100 + (j + 1)) (n := 1000 + 6 * (j + 1)) (by omega) (by omega) ?_
  exact hnx _ _ _ _ sp lo ph pr bo mo mo2 rf hd (if sWish (xs (1 + 5 * j + 1)) rf = 1 then (xs (1 + 5 * j + 1)) else gr) st (if sWish (xs (1 + 5 * j + 1)) rf = 1 then st + 10 else nx) (if sWish (xs (1 + 5 * j + 1)) rf = 1 then st else ch) (if sWish (xs (1 + 5 * j + 1)) rf = 1 then 10 else rs) 0 row hdd hP hD hS (INV_wish hI) (lv_sub hl [0, 1, 2, 3, 4] rfl)
set_option maxHeartbeats 4000000 in
set_option maxRecDepth 100000 in
/-- reference -/
theorem lc_reference {p : Program} {l : Launch} {e : Env} {s : State} {m : MethodId} {below : List Frame} {meth : Method} {c : Code} {b L : Nat} {xs : Nat → Int32} {D : va_G} {cW : ClassId} {h0 hw n : Nat} {q : Nat → Nat} {g : Nat → Option Nat} {m0 : Nat} {a : Nat → Nat} {C : Nat → ClassId} {o : Nat} {cO : ClassId} {sa : Nat} (hE : LE p l s m meth c b L xs D cW n q g C cO sa) {j : Nat} (hj : 1 + 5 * j + 5 ≤ L) (hnx : LN p l e s m below meth c b D cW h0 hw n q g m0 a C o cO j) {dd : Drawn} {H : Heap} {locs : List Loc} {ls : Array Slot} {sp : Nat → Int64} {lo ph : Nat → Int32} {pr bo : Nat → Int64} {mo mo2 : Nat → UInt64} {rf : Int64} {hd gr st nx ch rs th : Int32} {row : Nat → Int64} (hdd : s.drawn.sameBut dd lw_cs) (hP : va_P D vwCl (((cw h0 hw cW n q g sp lo ph pr bo mo rf hd gr st nx) ++ [(o, .inl (cO, 1, .inr (.inl row)))]) ++ mw m0 a C th (nI n) sp lo ph pr bo mo2 rf gr hd st ch rs) H) (hD : va_D (fun z : Nat => s.heap.size ≤ z) (((cw h0 hw cW n q g sp lo ph pr bo mo rf hd gr st nx) ++ [(o, .inl (cO, 1, .inr (.inl row)))]) ++ mw m0 a C th (nI n) sp lo ph pr bo mo2 rf gr hd st ch rs)) (hS : va_S (fun z : Nat => s.heap.size ≤ z) s.heap H locs) (hI : INV n j sp pr bo mo mo2 rf hd st nx ch rs) (hl : lv_has ls 9 [(4, .int (nI (1 + 5 * j))), (0, .ref b), (1, .ref h0), (2, .ref m0), (3, .ref o)]) : W p l e room_1 (s.setDrawn dd) m #[Value.ref b] below meth c H locs (100 + j) (1000 + 6 * j) (lw_Z below #[Value.ref b] s) (F0 m 641 ls []) := by
  obtain ⟨hx, hb, hr, hml, hown, hts0, hX0, hbl, hlocks, hKC0, hKM0, hKO0, hN0, hL, hn, h2, hg, hst, hTA⟩ := hE
  have hts := dr_words hts0 dd
  have hN := cN_draw (d := dd) hN0
  have hKC : va_K D vwCl [(cW, .object RX0)] (s.setDrawn dd) := hKC0
  have hKM : va_K D vwCl [(C 1, .long), (C 2, .boolean), (C 3, .int), (C 4, .long), (C 5, .long), (C 6, .double)] (s.setDrawn dd) := hKM0
  have hKO : va_K D vwCl [(cO, .long)] (s.setDrawn dd) := hKO0
  have hX : va_X b L xs (s.setDrawn dd) s.heap := hX0
  refine lv_aload_n hx hb dL_law_641 rfl (lv_at hl 2 rfl) ?_
  have hPx : va_P D vwCl (cw h0 hw cW n q g sp lo ph pr bo mo rf hd gr st nx) _ := w_PL (w_PL hP)
  have hDx : va_D _ (cw h0 hw cW n q g sp lo ph pr bo mo rf hd gr st nx) := w_DL (w_DL hD)
  refine vp_callSl (W.runV (As := []) (rest := []) ⟨hx, hb, hml, hown, hts⟩ (c1_reference l D cW h0 hw n q g sp lo ph pr bo mo rf hd gr st nx hn hg) (cwV 0 hts gL_law_X1_reference rfl rfl rfl (by decide +kernel) ⟨Nat.le_of_ble_eq_true rfl, Nat.le_of_ble_eq_true rfl⟩) ⟨xP_blind, va_recv hKC hPx (ci := 1) (q0 := 0) rfl rfl, xP_at hPx hKC hN⟩ rfl rfl hl.1 rfl (lv_room (Nat.le_of_ble_eq_true rfl)) dL_law_642 ⟨by show _ ≤ 667310; omega, by show _ ≤ 7094139; omega⟩) (fun r hr_1 => ?_)
  rw [hr_1]
  clear hPx hDx
  refine lv_aload_n hx hb dL_law_645 rfl (lv_at hl 3 rfl) ?_
  have hPx : va_P D vwCl (mw m0 a C th (nI n) sp lo ph pr bo mo2 rf gr hd st ch rs) _ := w_PR hP
  have hDx : va_D _ (mw m0 a C th (nI n) sp lo ph pr bo mo2 rf gr hd st ch rs) := w_DR hD
  have hFx := xF hDx hS (fun _ h => h)
  refine va_calll (va_runV (As := []) (rest := [.long rf]) ⟨hx, hb, hml, hown, hts⟩ (m2_reference l D m0 a C n th sp lo ph pr bo mo2 rf gr hd st ch rs hn _) (cwV 0 hts gL_law_X2_reference rfl rfl rfl (by decide +kernel) ⟨Nat.le_of_ble_eq_true rfl, Nat.le_of_ble_eq_true rfl⟩) ⟨xW_blind, va_recv hKM hPx (ci := 2) (q0 := 0) rfl rfl, xW_at hPx hKM hN hDx⟩ rfl rfl hl.1 rfl (lv_room (Nat.le_of_ble_eq_true rfl)) dL_law_646 ⟨by show _ ≤ 667310; omega, by show _ ≤ 7094139; omega⟩) hS (fun z _ h => hFx z h) hFx (fun r u t H1 locs ht hvm hpo hB hz1 hk1 hS => ?_)
  have hP1 := xB_P hB ht
  obtain ⟨hP, hD⟩ := w_joinR hP hD hk1 hFx hP1 hB.2
  clear hP1 hB hk1 hz1 ht hvm hFx hPx hDx
  obtain ⟨hq1, rfl⟩ := hpo
  rw [hq1]
  replace hP : va_P D vwCl (((cw h0 hw cW n q g sp lo ph pr bo mo rf hd gr st nx) ++ [(o, .inl (cO, 1, .inr (.inl row)))]) ++ mw m0 a C 0 (nI n) sp lo ph pr bo mo2 rf gr hd st ch rs) H1 := hP
  replace hD : va_D (fun z : Nat => s.heap.size ≤ z) (((cw h0 hw cW n q g sp lo ph pr bo mo rf hd gr st nx) ++ [(o, .inl (cO, 1, .inr (.inl row)))]) ++ mw m0 a C 0 (nI n) sp lo ph pr bo mo2 rf gr hd st ch rs) := hD
  refine W.lcmp hx hb dL_law_649 ?_
  refine lv_if_eq (tgt := 790) hx hb dL_law_650 (by decide) (fun c_2 => ?_) (fun c_2 => absurd ((lg_cmp_eq _ _).mpr rfl) c_2)
  refine lv_iinc (v := nI (1 + 5 * (j + 1))) (lv' := [(4, .int (nI (1 + 5 * (j + 1)))), (0, .ref b), (1, .ref h0), (2, .ref m0), (3, .ref o)]) hx hb dL_law_790 hl (k := 0) rfl (i_5 j) (by decide) rfl (fun ls hl => ?_)
  refine lv_goto (tgt := 33) hx hb dL_law_793 (by decide) ?_
  refine W.widen (k := 100 + (j + 1)) (n := 1000 + 6 * (j + 1)) (by omega) (by omega) ?_
  exact hnx _ _ _ _ sp lo ph pr bo mo mo2 rf hd gr st nx ch rs 0 row hdd hP hD hS (INV_same hI) (lv_sub hl [0, 1, 2, 3, 4] rfl)
set_option maxHeartbeats 4000000 in
set_option maxRecDepth 100000 in
/-- plant -/
theorem lc_plant {p : Program} {l : Launch} {e : Env} {s : State} {m : MethodId} {below : List Frame} {meth : Method} {c : Code} {b L : Nat} {xs : Nat → Int32} {D : va_G} {cW : ClassId} {h0 hw n : Nat} {q : Nat → Nat} {g : Nat → Option Nat} {m0 : Nat} {a : Nat → Nat} {C : Nat → ClassId} {o : Nat} {cO : ClassId} {sa : Nat} (hE : LE p l s m meth c b L xs D cW n q g C cO sa) {j : Nat} (hj : 1 + 5 * j + 5 ≤ L) (hnx : LN p l e s m below meth c b D cW h0 hw n q g m0 a C o cO j) {dd : Drawn} {H : Heap} {locs : List Loc} {ls : Array Slot} {sp : Nat → Int64} {lo ph : Nat → Int32} {pr bo : Nat → Int64} {mo mo2 : Nat → UInt64} {rf : Int64} {hd gr st nx ch rs th : Int32} {row : Nat → Int64} (hdd : s.drawn.sameBut dd lw_cs) (hP : va_P D vwCl (((cw h0 hw cW n q g sp lo ph pr bo mo rf hd gr st nx) ++ [(o, .inl (cO, 1, .inr (.inl row)))]) ++ mw m0 a C th (nI n) sp lo ph pr bo mo2 rf gr hd st ch rs) H) (hD : va_D (fun z : Nat => s.heap.size ≤ z) (((cw h0 hw cW n q g sp lo ph pr bo mo rf hd gr st nx) ++ [(o, .inl (cO, 1, .inr (.inl row)))]) ++ mw m0 a C th (nI n) sp lo ph pr bo mo2 rf gr hd st ch rs)) (hS : va_S (fun z : Nat => s.heap.size ≤ z) s.heap H locs) (hI : INV n j sp pr bo mo mo2 rf hd st nx ch rs) (hl : lv_has ls 9 [(4, .int (nI (1 + 5 * j))), (0, .ref b), (1, .ref h0), (2, .ref m0), (3, .ref o)]) : W p l e room_1 (s.setDrawn dd) m #[Value.ref b] below meth c H locs (100 + j) (1000 + 6 * j) (lw_Z below #[Value.ref b] s) (F0 m 655 ls []) := by
  obtain ⟨hx, hb, hr, hml, hown, hts0, hX0, hbl, hlocks, hKC0, hKM0, hKO0, hN0, hL, hn, h2, hg, hst, hTA⟩ := hE
  have hts := dr_words hts0 dd
  have hN := cN_draw (d := dd) hN0
  have hKC : va_K D vwCl [(cW, .object RX0)] (s.setDrawn dd) := hKC0
  have hKM : va_K D vwCl [(C 1, .long), (C 2, .boolean), (C 3, .int), (C 4, .long), (C 5, .long), (C 6, .double)] (s.setDrawn dd) := hKM0
  have hKO : va_K D vwCl [(cO, .long)] (s.setDrawn dd) := hKO0
  have hX : va_X b L xs (s.setDrawn dd) s.heap := hX0
  have hfd := plant_fd (w := xs (1 + 5 * j + 1)) hn hI.2.2.2.2.2.1
  refine lv_aload_n hx hb dL_law_655 rfl (lv_at hl 2 rfl) ?_
  refine lv_aload_n hx hb dL_law_656 rfl (lv_at hl 1 rfl) ?_
  refine lv_iload hx hb dL_law_657 (lv_at hl 0 rfl) ?_
  refine lv_iconst (v := 1) hx hb dL_law_659 (by decide) ?_
  refine lv_iadd hx hb dL_law_660 ?_
  refine va_sld hx hb hX hbl (Nat.not_le.mpr hbl) hS (ix_s (x := 1 + 5 * j) (k := 1) (by omega) hL) dL_law_661 ?_
  refine W.eq (g2 := F0 m 662 ls [.int (xs (1 + 5 * j + 1)), .ref h0]) (congrArg (fun z => F0 m 662 ls (.int (xs z) :: [.ref h0])) (ix_sc (x := 1 + 5 * j) (k := 1) (by omega))) ?_
  have hPx : va_P D vwCl (cw h0 hw cW n q g sp lo ph pr bo mo rf hd gr st nx) _ := w_PL (w_PL hP)
  have hDx : va_D _ (cw h0 hw cW n q g sp lo ph pr bo mo rf hd gr st nx) := w_DL (w_DL hD)
  refine vp_callSd (W.runV (As := [.int (xs (1 + 5 * j + 1))]) (rest := []) ⟨hx, hb, hml, hown, hts⟩ (c1_plant l D cW h0 hw n q g sp lo ph pr bo mo rf hd gr st nx hn hg (xs (1 + 5 * j + 1))) (cwV 1 hts gL_law_X1_plant rfl rfl rfl (by decide +kernel) ⟨Nat.le_of_ble_eq_true rfl, Nat.le_of_ble_eq_true rfl⟩) ⟨xP_blind, va_recv hKC hPx (ci := 1) (q0 := 0) rfl rfl, xP_at hPx hKC hN⟩ rfl rfl hl.1 rfl (lv_room (Nat.le_of_ble_eq_true rfl)) dL_law_662 ⟨by show _ ≤ 667310; omega, by show _ ≤ 7094139; omega⟩) (fun r hr_1 => ?_)
  rw [hr_1]
  clear hPx hDx
  refine lv_dstore (lv' := [(5, .double (if wOut n (xs (1 + 5 * j + 1)) then FP.dconst0 else mo ((xs (1 + 5 * j + 1))).toNatClampNeg)), (4, .int (nI (1 + 5 * j))), (0, .ref b), (1, .ref h0), (2, .ref m0), (3, .ref o)]) hx hb dL_law_665 hl (by decide) rfl (fun ls hl => ?_)
  refine lv_aload_n hx hb dL_law_667 rfl (lv_at hl 4 rfl) ?_
  refine lv_aload_n hx hb dL_law_668 rfl (lv_at hl 2 rfl) ?_
  refine lv_iload hx hb dL_law_669 (lv_at hl 1 rfl) ?_
  refine lv_iconst (v := 1) hx hb dL_law_671 (by decide) ?_
  refine lv_iadd hx hb dL_law_672 ?_
  refine va_sld hx hb hX hbl (Nat.not_le.mpr hbl) hS (ix_s (x := 1 + 5 * j) (k := 1) (by omega) hL) dL_law_673 ?_
  refine W.eq (g2 := F0 m 674 ls [.int (xs (1 + 5 * j + 1)), .ref m0]) (congrArg (fun z => F0 m 674 ls (.int (xs z) :: [.ref m0])) (ix_sc (x := 1 + 5 * j) (k := 1) (by omega))) ?_
  have hPx : va_P D vwCl (mw m0 a C th (nI n) sp lo ph pr bo mo2 rf gr hd st ch rs) _ := w_PR hP
  have hDx : va_D _ (mw m0 a C th (nI n) sp lo ph pr bo mo2 rf gr hd st ch rs) := w_DR hD
  have hFx := xF hDx hS (fun _ h => h)
  refine va_calld (va_runV (As := [.int (xs (1 + 5 * j + 1))]) (rest := []) ⟨hx, hb, hml, hown, hts⟩ (m2_plant l D m0 a C n th sp lo ph pr bo mo2 rf gr hd st ch rs hn (xs (1 + 5 * j + 1)) _) (cwV 1 hts gL_law_X2_plant rfl rfl rfl (by decide +kernel) ⟨Nat.le_of_ble_eq_true rfl, Nat.le_of_ble_eq_true rfl⟩) ⟨xW_blind, va_recv hKM hPx (ci := 2) (q0 := 0) rfl rfl, xW_at hPx hKM hN hDx⟩ rfl rfl hl.1 rfl (lv_room (Nat.le_of_ble_eq_true rfl)) dL_law_674 ⟨by show _ ≤ 667310; omega, by show _ ≤ 7094139; omega⟩) hS (fun z _ h => hFx z h) hFx (fun r u t H1 locs ht hvm hpo hB hz1 hk1 hS => ?_)
  have hP1 := xB_P hB ht
  obtain ⟨hP, hD⟩ := w_joinR hP hD hk1 hFx hP1 hB.2
  clear hP1 hB hk1 hz1 ht hvm hFx hPx hDx
  obtain ⟨rfl, rfl⟩ := hpo
  replace hP : va_P D vwCl (((cw h0 hw cW n q g sp lo ph pr bo mo rf hd gr st nx) ++ [(o, .inl (cO, 1, .inr (.inl row)))]) ++ mw m0 a C 0 (nI n) sp lo ph pr bo mo2 rf gr hd st ch rs) H1 := hP
  replace hD : va_D (fun z : Nat => s.heap.size ≤ z) (((cw h0 hw cW n q g sp lo ph pr bo mo rf hd gr st nx) ++ [(o, .inl (cO, 1, .inr (.inl row)))]) ++ mw m0 a C 0 (nI n) sp lo ph pr bo mo2 rf gr hd st ch rs) := hD
  refine lv_dstore (lv' := [(7, .double (if wOut n (xs (1 + 5 * j + 1)) then FP.dconst0 else mo2 ((xs (1 + 5 * j + 1))).toNatClampNeg)), (5, .double (if wOut n (xs (1 + 5 * j + 1)) then FP.dconst0 else mo ((xs (1 + 5 * j + 1))).toNatClampNeg)), (4, .int (nI (1 + 5 * j))), (0, .ref b), (1, .ref h0), (2, .ref m0), (3, .ref o)]) hx hb dL_law_677 hl (by decide) rfl (fun ls hl => ?_)
  refine lv_dload hx hb dL_law_679 (lv_at hl 1 rfl) ?_
  refine lv_dload hx hb dL_law_681 (lv_at hl 0 rfl) ?_
  refine lv_dcmp hx hb dL_law_683 ?_
  refine lv_if_eq (tgt := 705) hx hb dL_law_684 (by decide) (fun c_2 => ?_) (fun c_2 => ?_)
  · skip
    refine lv_goto (tgt := 790) hx hb dL_law_705 (by decide) ?_
    refine lv_iinc (v := nI (1 + 5 * (j + 1))) (lv' := [(4, .int (nI (1 + 5 * (j + 1)))), (7, .double (if wOut n (xs (1 + 5 * j + 1)) then FP.dconst0 else mo2 ((xs (1 + 5 * j + 1))).toNatClampNeg)), (5, .double (if wOut n (xs (1 + 5 * j + 1)) then FP.dconst0 else mo ((xs (1 + 5 * j + 1))).toNatClampNeg)), (0, .ref b), (1, .ref h0), (2, .ref m0), (3, .ref o)]) hx hb dL_law_790 hl (k := 2) rfl (i_5 j) (by decide) rfl (fun ls hl => ?_)
    refine lv_goto (tgt := 33) hx hb dL_law_793 (by decide) ?_
    refine W.widen (k := 100 + (j + 1)) (n := 1000 + 6 * (j + 1)) (by omega) (by omega) ?_
    exact hnx _ _ _ _ sp lo ph pr bo mo mo2 rf hd gr st nx ch rs 0 row hdd hP hD hS (INV_same hI) (lv_sub hl [0, 3, 4, 5, 6] rfl)
  · skip
    refine lv_dload hx hb dL_law_687 (lv_at hl 1 rfl) ?_
    refine lv_dload hx hb dL_law_689 (lv_at hl 1 rfl) ?_
    refine lv_dcmp hx hb dL_law_691 ?_
    refine lv_if_eq (tgt := 703) hx hb dL_law_692 (by decide) (fun c_3 => absurd ((congrArg (fun z => Op.cmpValue z CmpOp.l) (fd_dcmp rfl hfd.symm)).trans c_3) c_2) (fun c_3 => ?_)
    refine lv_dload hx hb dL_law_695 (lv_at hl 0 rfl) ?_
    refine lv_dload hx hb dL_law_697 (lv_at hl 0 rfl) ?_
    refine lv_dcmp hx hb dL_law_699 ?_
    refine lv_if_ne (tgt := 705) hx hb dL_law_700 (by decide) (fun c_4 => ?_) (fun c_4 => absurd ((congrArg (fun z => Op.cmpValue z CmpOp.l) (fd_dcmp hfd rfl)).trans c_4) c_2)
    refine lv_goto (tgt := 790) hx hb dL_law_705 (by decide) ?_
    refine lv_iinc (v := nI (1 + 5 * (j + 1))) (lv' := [(4, .int (nI (1 + 5 * (j + 1)))), (7, .double (if wOut n (xs (1 + 5 * j + 1)) then FP.dconst0 else mo2 ((xs (1 + 5 * j + 1))).toNatClampNeg)), (5, .double (if wOut n (xs (1 + 5 * j + 1)) then FP.dconst0 else mo ((xs (1 + 5 * j + 1))).toNatClampNeg)), (0, .ref b), (1, .ref h0), (2, .ref m0), (3, .ref o)]) hx hb dL_law_790 hl (k := 2) rfl (i_5 j) (by decide) rfl (fun ls hl => ?_)
    refine lv_goto (tgt := 33) hx hb dL_law_793 (by decide) ?_
    refine W.widen (k := 100 + (j + 1)) (n := 1000 + 6 * (j + 1)) (by omega) (by omega) ?_
    exact hnx _ _ _ _ sp lo ph pr bo mo mo2 rf hd gr st nx ch rs 0 row hdd hP hD hS (INV_same hI) (lv_sub hl [0, 3, 4, 5, 6] rfl)
set_option maxHeartbeats 4000000 in
set_option maxRecDepth 100000 in
/-- bound -/
theorem lc_bound {p : Program} {l : Launch} {e : Env} {s : State} {m : MethodId} {below : List Frame} {meth : Method} {c : Code} {b L : Nat} {xs : Nat → Int32} {D : va_G} {cW : ClassId} {h0 hw n : Nat} {q : Nat → Nat} {g : Nat → Option Nat} {m0 : Nat} {a : Nat → Nat} {C : Nat → ClassId} {o : Nat} {cO : ClassId} {sa : Nat} (hE : LE p l s m meth c b L xs D cW n q g C cO sa) {j : Nat} (hj : 1 + 5 * j + 5 ≤ L) (hnx : LN p l e s m below meth c b D cW h0 hw n q g m0 a C o cO j) {dd : Drawn} {H : Heap} {locs : List Loc} {ls : Array Slot} {sp : Nat → Int64} {lo ph : Nat → Int32} {pr bo : Nat → Int64} {mo mo2 : Nat → UInt64} {rf : Int64} {hd gr st nx ch rs th : Int32} {row : Nat → Int64} (hdd : s.drawn.sameBut dd lw_cs) (hP : va_P D vwCl (((cw h0 hw cW n q g sp lo ph pr bo mo rf hd gr st nx) ++ [(o, .inl (cO, 1, .inr (.inl row)))]) ++ mw m0 a C th (nI n) sp lo ph pr bo mo2 rf gr hd st ch rs) H) (hD : va_D (fun z : Nat => s.heap.size ≤ z) (((cw h0 hw cW n q g sp lo ph pr bo mo rf hd gr st nx) ++ [(o, .inl (cO, 1, .inr (.inl row)))]) ++ mw m0 a C th (nI n) sp lo ph pr bo mo2 rf gr hd st ch rs)) (hS : va_S (fun z : Nat => s.heap.size ≤ z) s.heap H locs) (hI : INV n j sp pr bo mo mo2 rf hd st nx ch rs) (hl : lv_has ls 9 [(4, .int (nI (1 + 5 * j))), (0, .ref b), (1, .ref h0), (2, .ref m0), (3, .ref o)]) : W p l e room_1 (s.setDrawn dd) m #[Value.ref b] below meth c H locs (100 + j) (1000 + 6 * j) (lw_Z below #[Value.ref b] s) (F0 m 708 ls []) := by
  obtain ⟨hx, hb, hr, hml, hown, hts0, hX0, hbl, hlocks, hKC0, hKM0, hKO0, hN0, hL, hn, h2, hg, hst, hTA⟩ := hE
  have hm1 : (.constantLong RL 27 (4294967295) : Cond) ∈ wsL_law := by decide +kernel
  have hts := dr_words hts0 dd
  have hN := cN_draw (d := dd) hN0
  have hKC : va_K D vwCl [(cW, .object RX0)] (s.setDrawn dd) := hKC0
  have hKM : va_K D vwCl [(C 1, .long), (C 2, .boolean), (C 3, .int), (C 4, .long), (C 5, .long), (C 6, .double)] (s.setDrawn dd) := hKM0
  have hKO : va_K D vwCl [(cO, .long)] (s.setDrawn dd) := hKO0
  have hX : va_X b L xs (s.setDrawn dd) s.heap := hX0
  refine lv_aload_n hx hb dL_law_708 rfl (lv_at hl 2 rfl) ?_
  refine lv_aload_n hx hb dL_law_709 rfl (lv_at hl 1 rfl) ?_
  refine lv_iload hx hb dL_law_710 (lv_at hl 0 rfl) ?_
  refine lv_iconst (v := 1) hx hb dL_law_712 (by decide) ?_
  refine lv_iadd hx hb dL_law_713 ?_
  refine va_sld hx hb hX hbl (Nat.not_le.mpr hbl) hS (ix_s (x := 1 + 5 * j) (k := 1) (by omega) hL) dL_law_714 ?_
  refine W.eq (g2 := F0 m 715 ls [.int (xs (1 + 5 * j + 1)), .ref h0]) (congrArg (fun z => F0 m 715 ls (.int (xs z) :: [.ref h0])) (ix_sc (x := 1 + 5 * j) (k := 1) (by omega))) ?_
  refine lv_aload_n hx hb dL_law_715 rfl (lv_at hl 1 rfl) ?_
  refine lv_iload hx hb dL_law_716 (lv_at hl 0 rfl) ?_
  refine lv_iconst (v := 2) hx hb dL_law_718 (by decide) ?_
  refine lv_iadd hx hb dL_law_719 ?_
  refine va_sld hx hb hX hbl (Nat.not_le.mpr hbl) hS (ix_s (x := 1 + 5 * j) (k := 2) (by omega) hL) dL_law_720 ?_
  refine W.eq (g2 := F0 m 721 ls [.int (xs (1 + 5 * j + 2)), .int (xs (1 + 5 * j + 1)), .ref h0]) (congrArg (fun z => F0 m 721 ls (.int (xs z) :: [.int (xs (1 + 5 * j + 1)), .ref h0])) (ix_sc (x := 1 + 5 * j) (k := 2) (by omega))) ?_
  refine lv_i2l hx hb dL_law_721 rfl ?_
  refine lv_bipush (v := 32) hx hb dL_law_722 (by decide) ?_
  refine lv_lshl (v := lhi (xs (1 + 5 * j + 2))) hx hb dL_law_724 rfl ?_
  refine lv_aload_n hx hb dL_law_725 rfl (lv_at hl 1 rfl) ?_
  refine lv_iload hx hb dL_law_726 (lv_at hl 0 rfl) ?_
  refine lv_iconst (v := 3) hx hb dL_law_728 (by decide) ?_
  refine lv_iadd hx hb dL_law_729 ?_
  refine va_sld hx hb hX hbl (Nat.not_le.mpr hbl) hS (ix_s (x := 1 + 5 * j) (k := 3) (by omega) hL) dL_law_730 ?_
  refine W.eq (g2 := F0 m 731 ls [.int (xs (1 + 5 * j + 3)), .long (lhi (xs (1 + 5 * j + 2))), .int (xs (1 + 5 * j + 1)), .ref h0]) (congrArg (fun z => F0 m 731 ls (.int (xs z) :: [.long (lhi (xs (1 + 5 * j + 2))), .int (xs (1 + 5 * j + 1)), .ref h0])) (ix_sc (x := 1 + 5 * j) (k := 3) (by omega))) ?_
  refine lv_i2l hx hb dL_law_731 rfl ?_
  refine lv_ldc2 hx hb hown (hts _ hm1) dL_law_732 ?_
  refine lv_land hx hb dL_law_735 ?_
  refine lv_lor hx hb dL_law_736 ?_
  refine W.eq (g2 := F0 m 737 ls [.long (lg (xs (1 + 5 * j + 2)) (xs (1 + 5 * j + 3))), .int (xs (1 + 5 * j + 1)), .ref h0]) rfl ?_
  have hPx : va_P D vwCl (cw h0 hw cW n q g sp lo ph pr bo mo rf hd gr st nx) _ := w_PL (w_PL hP)
  have hDx : va_D _ (cw h0 hw cW n q g sp lo ph pr bo mo rf hd gr st nx) := w_DL (w_DL hD)
  have hFx := xF hDx hS (fun _ h => h)
  refine va_calli (va_runV (As := [.int (xs (1 + 5 * j + 1)), .long (lg (xs (1 + 5 * j + 2)) (xs (1 + 5 * j + 3)))]) (rest := []) ⟨hx, hb, hml, hown, hts⟩ (c1_bound l D cW h0 hw n q g sp lo ph pr bo mo rf hd gr st nx hn hg (xs (1 + 5 * j + 1)) (lg (xs (1 + 5 * j + 2)) (xs (1 + 5 * j + 3))) _) (cwV 2 hts gL_law_X1_bound rfl rfl rfl (by decide +kernel) ⟨Nat.le_of_ble_eq_true rfl, Nat.le_of_ble_eq_true rfl⟩) ⟨xW_blind, va_recv hKC hPx (ci := 1) (q0 := 0) rfl rfl, xW_at hPx hKC hN hDx⟩ rfl rfl hl.1 rfl (lv_room (Nat.le_of_ble_eq_true rfl)) dL_law_737 ⟨by show _ ≤ 667310; omega, by show _ ≤ 7094139; omega⟩) hS (fun z _ h => hFx z h) hFx (fun r u t H1 locs ht hvm hpo hB hz1 hk1 hS => ?_)
  have hP1 := xB_P hB ht
  obtain ⟨hP, hD⟩ := w_joinLL hP hD hk1 hFx hP1 hB.2
  clear hP1 hB hk1 hz1 ht hvm hFx hPx hDx
  obtain ⟨u1, u2⟩ := u
  dsimp only at hpo hP hD
  rw [cMin_eq] at hpo
  obtain ⟨rfl, rfl, rfl⟩ := hpo
  replace hP : va_P D vwCl (((cw h0 hw cW n q g sp lo ph (gW n (xs (1 + 5 * j + 1)) (lg (xs (1 + 5 * j + 2)) (xs (1 + 5 * j + 3))) 200 pr (mMin (pr ((xs (1 + 5 * j + 1))).toNatClampNeg) (lg (xs (1 + 5 * j + 2)) (xs (1 + 5 * j + 3))))) (gW n (xs (1 + 5 * j + 1)) (lg (xs (1 + 5 * j + 2)) (xs (1 + 5 * j + 3))) 200 bo (lg (xs (1 + 5 * j + 2)) (xs (1 + 5 * j + 3)))) mo rf hd gr st nx) ++ [(o, .inl (cO, 1, .inr (.inl row)))]) ++ mw m0 a C th (nI n) sp lo ph pr bo mo2 rf gr hd st ch rs) H1 := hP
  replace hD : va_D (fun z : Nat => s.heap.size ≤ z) (((cw h0 hw cW n q g sp lo ph (gW n (xs (1 + 5 * j + 1)) (lg (xs (1 + 5 * j + 2)) (xs (1 + 5 * j + 3))) 200 pr (mMin (pr ((xs (1 + 5 * j + 1))).toNatClampNeg) (lg (xs (1 + 5 * j + 2)) (xs (1 + 5 * j + 3))))) (gW n (xs (1 + 5 * j + 1)) (lg (xs (1 + 5 * j + 2)) (xs (1 + 5 * j + 3))) 200 bo (lg (xs (1 + 5 * j + 2)) (xs (1 + 5 * j + 3)))) mo rf hd gr st nx) ++ [(o, .inl (cO, 1, .inr (.inl row)))]) ++ mw m0 a C th (nI n) sp lo ph pr bo mo2 rf gr hd st ch rs) := hD
  refine lv_aload_n hx hb dL_law_740 rfl (lv_at hl 3 rfl) ?_
  refine lv_aload_n hx hb dL_law_741 rfl (lv_at hl 1 rfl) ?_
  refine lv_iload hx hb dL_law_742 (lv_at hl 0 rfl) ?_
  refine lv_iconst (v := 1) hx hb dL_law_744 (by decide) ?_
  refine lv_iadd hx hb dL_law_745 ?_
  refine va_sld hx hb hX hbl (Nat.not_le.mpr hbl) hS (ix_s (x := 1 + 5 * j) (k := 1) (by omega) hL) dL_law_746 ?_
  refine W.eq (g2 := F0 m 747 ls [.int (xs (1 + 5 * j + 1)), .ref m0, .int (fW n (xs (1 + 5 * j + 1)) (lg (xs (1 + 5 * j + 2)) (xs (1 + 5 * j + 3))) 200)]) (congrArg (fun z => F0 m 747 ls (.int (xs z) :: [.ref m0, .int (fW n (xs (1 + 5 * j + 1)) (lg (xs (1 + 5 * j + 2)) (xs (1 + 5 * j + 3))) 200)])) (ix_sc (x := 1 + 5 * j) (k := 1) (by omega))) ?_
  refine lv_aload_n hx hb dL_law_747 rfl (lv_at hl 1 rfl) ?_
  refine lv_iload hx hb dL_law_748 (lv_at hl 0 rfl) ?_
  refine lv_iconst (v := 2) hx hb dL_law_750 (by decide) ?_
  refine lv_iadd hx hb dL_law_751 ?_
  refine va_sld hx hb hX hbl (Nat.not_le.mpr hbl) hS (ix_s (x := 1 + 5 * j) (k := 2) (by omega) hL) dL_law_752 ?_
  refine W.eq (g2 := F0 m 753 ls [.int (xs (1 + 5 * j + 2)), .int (xs (1 + 5 * j + 1)), .ref m0, .int (fW n (xs (1 + 5 * j + 1)) (lg (xs (1 + 5 * j + 2)) (xs (1 + 5 * j + 3))) 200)]) (congrArg (fun z => F0 m 753 ls (.int (xs z) :: [.int (xs (1 + 5 * j + 1)), .ref m0, .int (fW n (xs (1 + 5 * j + 1)) (lg (xs (1 + 5 * j + 2)) (xs (1 + 5 * j + 3))) 200)])) (ix_sc (x := 1 + 5 * j) (k := 2) (by omega))) ?_
  refine lv_i2l hx hb dL_law_753 rfl ?_
  refine lv_bipush (v := 32) hx hb dL_law_754 (by decide) ?_
  refine lv_lshl (v := lhi (xs (1 + 5 * j + 2))) hx hb dL_law_756 rfl ?_
  refine lv_aload_n hx hb dL_law_757 rfl (lv_at hl 1 rfl) ?_
  refine lv_iload hx hb dL_law_758 (lv_at hl 0 rfl) ?_
  refine lv_iconst (v := 3) hx hb dL_law_760 (by decide) ?_
  refine lv_iadd hx hb dL_law_761 ?_
  refine va_sld hx hb hX hbl (Nat.not_le.mpr hbl) hS (ix_s (x := 1 + 5 * j) (k := 3) (by omega) hL) dL_law_762 ?_
  refine W.eq (g2 := F0 m 763 ls [.int (xs (1 + 5 * j + 3)), .long (lhi (xs (1 + 5 * j + 2))), .int (xs (1 + 5 * j + 1)), .ref m0, .int (fW n (xs (1 + 5 * j + 1)) (lg (xs (1 + 5 * j + 2)) (xs (1 + 5 * j + 3))) 200)]) (congrArg (fun z => F0 m 763 ls (.int (xs z) :: [.long (lhi (xs (1 + 5 * j + 2))), .int (xs (1 + 5 * j + 1)), .ref m0, .int (fW n (xs (1 + 5 * j + 1)) (lg (xs (1 + 5 * j + 2)) (xs (1 + 5 * j + 3))) 200)])) (ix_sc (x := 1 + 5 * j) (k := 3) (by omega))) ?_
  refine lv_i2l hx hb dL_law_763 rfl ?_
  refine lv_ldc2 hx hb hown (hts _ hm1) dL_law_764 ?_
  refine lv_land hx hb dL_law_767 ?_
  refine lv_lor hx hb dL_law_768 ?_
  refine W.eq (g2 := F0 m 769 ls [.long (lg (xs (1 + 5 * j + 2)) (xs (1 + 5 * j + 3))), .int (xs (1 + 5 * j + 1)), .ref m0, .int (fW n (xs (1 + 5 * j + 1)) (lg (xs (1 + 5 * j + 2)) (xs (1 + 5 * j + 3))) 200)]) rfl ?_
  have hPx : va_P D vwCl (mw m0 a C th (nI n) sp lo ph pr bo mo2 rf gr hd st ch rs) _ := w_PR hP
  have hDx : va_D _ (mw m0 a C th (nI n) sp lo ph pr bo mo2 rf gr hd st ch rs) := w_DR hD
  have hFx := xF hDx hS (fun _ h => h)
  refine va_calli (va_runV (As := [.int (xs (1 + 5 * j + 1)), .long (lg (xs (1 + 5 * j + 2)) (xs (1 + 5 * j + 3)))]) (rest := [.int (fW n (xs (1 + 5 * j + 1)) (lg (xs (1 + 5 * j + 2)) (xs (1 + 5 * j + 3))) 200)]) ⟨hx, hb, hml, hown, hts⟩ (m2_bound l D m0 a C n th sp lo ph pr bo mo2 rf gr hd st ch rs hn (xs (1 + 5 * j + 1)) (lg (xs (1 + 5 * j + 2)) (xs (1 + 5 * j + 3))) _) (cwV 2 hts gL_law_X2_bound rfl rfl rfl (by decide +kernel) ⟨Nat.le_of_ble_eq_true rfl, Nat.le_of_ble_eq_true rfl⟩) ⟨xW_blind, va_recv hKM hPx (ci := 2) (q0 := 0) rfl rfl, xW_at hPx hKM hN hDx⟩ rfl rfl hl.1 rfl (lv_room (Nat.le_of_ble_eq_true rfl)) dL_law_769 ⟨by show _ ≤ 667310; omega, by show _ ≤ 7094139; omega⟩) hS (fun z _ h => hFx z h) hFx (fun r u t H1 locs ht hvm hpo hB hz1 hk1 hS => ?_)
  have hP1 := xB_P hB ht
  obtain ⟨hP, hD⟩ := w_joinR hP hD hk1 hFx hP1 hB.2
  clear hP1 hB hk1 hz1 ht hvm hFx hPx hDx
  obtain ⟨u1, u2, u3⟩ := u
  dsimp only at hpo hP hD
  obtain ⟨rfl, rfl, rfl, rfl⟩ := hpo
  replace hP : va_P D vwCl (((cw h0 hw cW n q g sp lo ph (gW n (xs (1 + 5 * j + 1)) (lg (xs (1 + 5 * j + 2)) (xs (1 + 5 * j + 3))) 200 pr (mMin (pr ((xs (1 + 5 * j + 1))).toNatClampNeg) (lg (xs (1 + 5 * j + 2)) (xs (1 + 5 * j + 3))))) (gW n (xs (1 + 5 * j + 1)) (lg (xs (1 + 5 * j + 2)) (xs (1 + 5 * j + 3))) 200 bo (lg (xs (1 + 5 * j + 2)) (xs (1 + 5 * j + 3)))) mo rf hd gr st nx) ++ [(o, .inl (cO, 1, .inr (.inl row)))]) ++ mw m0 a C 0 (nI n) sp lo ph (gW n (xs (1 + 5 * j + 1)) (lg (xs (1 + 5 * j + 2)) (xs (1 + 5 * j + 3))) 200 pr (mMin (pr ((xs (1 + 5 * j + 1))).toNatClampNeg) (lg (xs (1 + 5 * j + 2)) (xs (1 + 5 * j + 3))))) (gW n (xs (1 + 5 * j + 1)) (lg (xs (1 + 5 * j + 2)) (xs (1 + 5 * j + 3))) 200 bo (lg (xs (1 + 5 * j + 2)) (xs (1 + 5 * j + 3)))) mo2 rf gr hd st ch rs) H1 := hP
  replace hD : va_D (fun z : Nat => s.heap.size ≤ z) (((cw h0 hw cW n q g sp lo ph (gW n (xs (1 + 5 * j + 1)) (lg (xs (1 + 5 * j + 2)) (xs (1 + 5 * j + 3))) 200 pr (mMin (pr ((xs (1 + 5 * j + 1))).toNatClampNeg) (lg (xs (1 + 5 * j + 2)) (xs (1 + 5 * j + 3))))) (gW n (xs (1 + 5 * j + 1)) (lg (xs (1 + 5 * j + 2)) (xs (1 + 5 * j + 3))) 200 bo (lg (xs (1 + 5 * j + 2)) (xs (1 + 5 * j + 3)))) mo rf hd gr st nx) ++ [(o, .inl (cO, 1, .inr (.inl row)))]) ++ mw m0 a C 0 (nI n) sp lo ph (gW n (xs (1 + 5 * j + 1)) (lg (xs (1 + 5 * j + 2)) (xs (1 + 5 * j + 3))) 200 pr (mMin (pr ((xs (1 + 5 * j + 1))).toNatClampNeg) (lg (xs (1 + 5 * j + 2)) (xs (1 + 5 * j + 3))))) (gW n (xs (1 + 5 * j + 1)) (lg (xs (1 + 5 * j + 2)) (xs (1 + 5 * j + 3))) 200 bo (lg (xs (1 + 5 * j + 2)) (xs (1 + 5 * j + 3)))) mo2 rf gr hd st ch rs) := hD
  refine lv_icmp_eq (tgt := 790) hx hb dL_law_772 (by decide) (fun c_1 => ?_) (fun c_1 => absurd rfl c_1)
  refine lv_iinc (v := nI (1 + 5 * (j + 1))) (lv' := [(4, .int (nI (1 + 5 * (j + 1)))), (0, .ref b), (1, .ref h0), (2, .ref m0), (3, .ref o)]) hx hb dL_law_790 hl (k := 0) rfl (i_5 j) (by decide) rfl (fun ls hl => ?_)
  refine lv_goto (tgt := 33) hx hb dL_law_793 (by decide) ?_
  refine W.widen (k := 100 + (j + 1)) (n := 1000 + 6 * (j + 1)) (by omega) (by omega) ?_
  exact hnx _ _ _ _ sp lo ph (gW n (xs (1 + 5 * j + 1)) (lg (xs (1 + 5 * j + 2)) (xs (1 + 5 * j + 3))) 200 pr (mMin (pr ((xs (1 + 5 * j + 1))).toNatClampNeg) (lg (xs (1 + 5 * j + 2)) (xs (1 + 5 * j + 3))))) (gW n (xs (1 + 5 * j + 1)) (lg (xs (1 + 5 * j + 2)) (xs (1 + 5 * j + 3))) 200 bo (lg (xs (1 + 5 * j + 2)) (xs (1 + 5 * j + 3)))) mo mo2 rf hd gr st nx ch rs 0 row hdd hP hD hS (INV_bound hI) (lv_sub hl [0, 1, 2, 3, 4] rfl)
set_option maxHeartbeats 4000000 in
set_option maxRecDepth 100000 in
/-- mode -/
theorem lc_mode {p : Program} {l : Launch} {e : Env} {s : State} {m : MethodId} {below : List Frame} {meth : Method} {c : Code} {b L : Nat} {xs : Nat → Int32} {D : va_G} {cW : ClassId} {h0 hw n : Nat} {q : Nat → Nat} {g : Nat → Option Nat} {m0 : Nat} {a : Nat → Nat} {C : Nat → ClassId} {o : Nat} {cO : ClassId} {sa : Nat} (hE : LE p l s m meth c b L xs D cW n q g C cO sa) {j : Nat} (hj : 1 + 5 * j + 5 ≤ L) (hnx : LN p l e s m below meth c b D cW h0 hw n q g m0 a C o cO j) {dd : Drawn} {H : Heap} {locs : List Loc} {ls : Array Slot} {sp : Nat → Int64} {lo ph : Nat → Int32} {pr bo : Nat → Int64} {mo mo2 : Nat → UInt64} {rf : Int64} {hd gr st nx ch rs th : Int32} {row : Nat → Int64} (hdd : s.drawn.sameBut dd lw_cs) (hP : va_P D vwCl (((cw h0 hw cW n q g sp lo ph pr bo mo rf hd gr st nx) ++ [(o, .inl (cO, 1, .inr (.inl row)))]) ++ mw m0 a C th (nI n) sp lo ph pr bo mo2 rf gr hd st ch rs) H) (hD : va_D (fun z : Nat => s.heap.size ≤ z) (((cw h0 hw cW n q g sp lo ph pr bo mo rf hd gr st nx) ++ [(o, .inl (cO, 1, .inr (.inl row)))]) ++ mw m0 a C th (nI n) sp lo ph pr bo mo2 rf gr hd st ch rs)) (hS : va_S (fun z : Nat => s.heap.size ≤ z) s.heap H locs) (hI : INV n j sp pr bo mo mo2 rf hd st nx ch rs) (hl : lv_has ls 9 [(4, .int (nI (1 + 5 * j))), (0, .ref b), (1, .ref h0), (2, .ref m0), (3, .ref o)]) : W p l e room_1 (s.setDrawn dd) m #[Value.ref b] below meth c H locs (100 + j) (1000 + 6 * j) (lw_Z below #[Value.ref b] s) (F0 m 777 ls []) := by
  obtain ⟨hx, hb, hr, hml, hown, hts0, hX0, hbl, hlocks, hKC0, hKM0, hKO0, hN0, hL, hn, h2, hg, hst, hTA⟩ := hE
  have hts := dr_words hts0 dd
  have hN := cN_draw (d := dd) hN0
  have hKC : va_K D vwCl [(cW, .object RX0)] (s.setDrawn dd) := hKC0
  have hKM : va_K D vwCl [(C 1, .long), (C 2, .boolean), (C 3, .int), (C 4, .long), (C 5, .long), (C 6, .double)] (s.setDrawn dd) := hKM0
  have hKO : va_K D vwCl [(cO, .long)] (s.setDrawn dd) := hKO0
  have hX : va_X b L xs (s.setDrawn dd) s.heap := hX0
  refine lv_aload_n hx hb dL_law_777 rfl (lv_at hl 2 rfl) ?_
  have hPx : va_P D vwCl (cw h0 hw cW n q g sp lo ph pr bo mo rf hd gr st nx) _ := w_PL (w_PL hP)
  have hDx : va_D _ (cw h0 hw cW n q g sp lo ph pr bo mo rf hd gr st nx) := w_DL (w_DL hD)
  refine vp_callSi (W.runV (As := []) (rest := []) ⟨hx, hb, hml, hown, hts⟩ (c1_mode l D cW h0 hw n q g sp lo ph pr bo mo rf hd gr st nx hn hg) (cwV 0 hts gL_law_X1_mode rfl rfl rfl (by decide +kernel) ⟨Nat.le_of_ble_eq_true rfl, Nat.le_of_ble_eq_true rfl⟩) ⟨xP_blind, va_recv hKC hPx (ci := 1) (q0 := 0) rfl rfl, xP_at hPx hKC hN⟩ rfl rfl hl.1 rfl (lv_room (Nat.le_of_ble_eq_true rfl)) dL_law_778 ⟨by show _ ≤ 667310; omega, by show _ ≤ 7094139; omega⟩) (fun r hr_1 => ?_)
  rw [hr_1]
  clear hPx hDx
  refine lv_aload_n hx hb dL_law_781 rfl (lv_at hl 3 rfl) ?_
  have hPx : va_P D vwCl (mw m0 a C th (nI n) sp lo ph pr bo mo2 rf gr hd st ch rs) _ := w_PR hP
  have hDx : va_D _ (mw m0 a C th (nI n) sp lo ph pr bo mo2 rf gr hd st ch rs) := w_DR hD
  have hFx := xF hDx hS (fun _ h => h)
  refine va_calli (va_runV (As := []) (rest := [.int (if hd = 0 then (if cnt lo n ≤ 0 then 0 else 1) else 2)]) ⟨hx, hb, hml, hown, hts⟩ (m2_mode l D m0 a C n th sp lo ph pr bo mo2 rf gr hd st ch rs hn _) (cwV 0 hts gL_law_X2_mode rfl rfl rfl (by decide +kernel) ⟨Nat.le_of_ble_eq_true rfl, Nat.le_of_ble_eq_true rfl⟩) ⟨xW_blind, va_recv hKM hPx (ci := 2) (q0 := 0) rfl rfl, xW_at hPx hKM hN hDx⟩ rfl rfl hl.1 rfl (lv_room (Nat.le_of_ble_eq_true rfl)) dL_law_782 ⟨by show _ ≤ 667310; omega, by show _ ≤ 7094139; omega⟩) hS (fun z _ h => hFx z h) hFx (fun r u t H1 locs ht hvm hpo hB hz1 hk1 hS => ?_)
  have hP1 := xB_P hB ht
  obtain ⟨hP, hD⟩ := w_joinR hP hD hk1 hFx hP1 hB.2
  clear hP1 hB hk1 hz1 ht hvm hFx hPx hDx
  obtain ⟨rfl, rfl⟩ := hpo
  replace hP : va_P D vwCl (((cw h0 hw cW n q g sp lo ph pr bo mo rf hd gr st nx) ++ [(o, .inl (cO, 1, .inr (.inl row)))]) ++ mw m0 a C 0 (nI n) sp lo ph pr bo mo2 rf gr hd st ch rs) H1 := hP
  replace hD : va_D (fun z : Nat => s.heap.size ≤ z) (((cw h0 hw cW n q g sp lo ph pr bo mo rf hd gr st nx) ++ [(o, .inl (cO, 1, .inr (.inl row)))]) ++ mw m0 a C 0 (nI n) sp lo ph pr bo mo2 rf gr hd st ch rs) := hD
  refine lv_icmp_eq (tgt := 790) hx hb dL_law_785 (by decide) (fun c_2 => ?_) (fun c_2 => absurd rfl c_2)
  refine lv_iinc (v := nI (1 + 5 * (j + 1))) (lv' := [(4, .int (nI (1 + 5 * (j + 1)))), (0, .ref b), (1, .ref h0), (2, .ref m0), (3, .ref o)]) hx hb dL_law_790 hl (k := 0) rfl (i_5 j) (by decide) rfl (fun ls hl => ?_)
  refine lv_goto (tgt := 33) hx hb dL_law_793 (by decide) ?_
  refine W.widen (k := 100 + (j + 1)) (n := 1000 + 6 * (j + 1)) (by omega) (by omega) ?_
  exact hnx _ _ _ _ sp lo ph pr bo mo mo2 rf hd gr st nx ch rs 0 row hdd hP hD hS (INV_same hI) (lv_sub hl [0, 1, 2, 3, 4] rfl)
set_option maxHeartbeats 4000000 in
set_option maxRecDepth 100000 in
/-- no call -/
theorem lc_none {p : Program} {l : Launch} {e : Env} {s : State} {m : MethodId} {below : List Frame} {meth : Method} {c : Code} {b L : Nat} {xs : Nat → Int32} {D : va_G} {cW : ClassId} {h0 hw n : Nat} {q : Nat → Nat} {g : Nat → Option Nat} {m0 : Nat} {a : Nat → Nat} {C : Nat → ClassId} {o : Nat} {cO : ClassId} {sa : Nat} (hE : LE p l s m meth c b L xs D cW n q g C cO sa) {j : Nat} (hj : 1 + 5 * j + 5 ≤ L) (hnx : LN p l e s m below meth c b D cW h0 hw n q g m0 a C o cO j) {dd : Drawn} {H : Heap} {locs : List Loc} {ls : Array Slot} {sp : Nat → Int64} {lo ph : Nat → Int32} {pr bo : Nat → Int64} {mo mo2 : Nat → UInt64} {rf : Int64} {hd gr st nx ch rs th : Int32} {row : Nat → Int64} (hdd : s.drawn.sameBut dd lw_cs) (hP : va_P D vwCl (((cw h0 hw cW n q g sp lo ph pr bo mo rf hd gr st nx) ++ [(o, .inl (cO, 1, .inr (.inl row)))]) ++ mw m0 a C th (nI n) sp lo ph pr bo mo2 rf gr hd st ch rs) H) (hD : va_D (fun z : Nat => s.heap.size ≤ z) (((cw h0 hw cW n q g sp lo ph pr bo mo rf hd gr st nx) ++ [(o, .inl (cO, 1, .inr (.inl row)))]) ++ mw m0 a C th (nI n) sp lo ph pr bo mo2 rf gr hd st ch rs)) (hS : va_S (fun z : Nat => s.heap.size ≤ z) s.heap H locs) (hI : INV n j sp pr bo mo mo2 rf hd st nx ch rs) (hl : lv_has ls 9 [(4, .int (nI (1 + 5 * j))), (0, .ref b), (1, .ref h0), (2, .ref m0), (3, .ref o)]) : W p l e room_1 (s.setDrawn dd) m #[Value.ref b] below meth c H locs (100 + j) (1000 + 6 * j) (lw_Z below #[Value.ref b] s) (F0 m 790 ls []) := by
  obtain ⟨hx, hb, hr, hml, hown, hts0, hX0, hbl, hlocks, hKC0, hKM0, hKO0, hN0, hL, hn, h2, hg, hst, hTA⟩ := hE
  have hts := dr_words hts0 dd
  have hN := cN_draw (d := dd) hN0
  have hKC : va_K D vwCl [(cW, .object RX0)] (s.setDrawn dd) := hKC0
  have hKM : va_K D vwCl [(C 1, .long), (C 2, .boolean), (C 3, .int), (C 4, .long), (C 5, .long), (C 6, .double)] (s.setDrawn dd) := hKM0
  have hKO : va_K D vwCl [(cO, .long)] (s.setDrawn dd) := hKO0
  have hX : va_X b L xs (s.setDrawn dd) s.heap := hX0
  refine lv_iinc (v := nI (1 + 5 * (j + 1))) (lv' := [(4, .int (nI (1 + 5 * (j + 1)))), (0, .ref b), (1, .ref h0), (2, .ref m0), (3, .ref o)]) hx hb dL_law_790 hl (k := 0) rfl (i_5 j) (by decide) rfl (fun ls hl => ?_)
  refine lv_goto (tgt := 33) hx hb dL_law_793 (by decide) ?_
  refine W.widen (k := 100 + (j + 1)) (n := 1000 + 6 * (j + 1)) (by omega) (by omega) ?_
  exact hnx _ _ _ _ sp lo ph pr bo mo mo2 rf hd gr st nx ch rs th row hdd hP hD hS (INV_same hI) (lv_sub hl [0, 1, 2, 3, 4] rfl)
