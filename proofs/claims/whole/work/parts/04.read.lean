/-! ===== the car: methods that only read ===== -/
set_option maxHeartbeats 4000000 in
set_option maxRecDepth 100000 in
/-- isWithin -/
theorem c1_within (l : Launch) (v x y : Int64) : Met l yX1_isWithin wsX1_isWithin ({ frames := 0, cells := 0, slots := 0, locals := 0 }) (va_Pc [.long v, .long x, .long y] (fun _ => True)) (vp_Si (fun r : Int32 => (r = 1 ∧ ¬ v < x ∧ ¬ y < v) ∨ (r = 0 ∧ (v < x ∨ y < v)))) 0 0 (fun _ => False) := by
  refine Met.ofW (cc := cX1_isWithin) (maxL := 6) (ret := (some .boolean)) (by decide) rfl ?_
  intro p e s m args below meth c s₁ B hml hv
  obtain ⟨rfl, -⟩ := hv
  have hx := B.exec
  have hb := B.bytes
  have hr := B.returns
  have hts := atoms_spec (ws := wsX1_isWithin) B.pre
  have hown : s.vm.findClass RX1 = some m.cls := findClass_of_methodNamed B.named
  have hlocks := B.notSynchronized
  have hl := lv_entry ([.long v, .long x, .long y]) (n := 6) (Nat.le_of_ble_eq_true rfl)
  rw [lg_entry_eq]
  generalize (lg_sl ([.long v, .long x, .long y]) ++ List.replicate (6 - (lg_sl ([.long v, .long x, .long y])).length) Slot.unset).toArray = ls at hl ⊢
  replace hl : lv_has ls 6 [(0, .long v), (2, .long x), (4, .long y)] := hl
  refine lv_lload_n hx hb dX1_isWithin_0 rfl (lv_at hl 0 rfl) ?_
  refine lv_lload_n hx hb dX1_isWithin_1 rfl (lv_at hl 1 rfl) ?_
  refine W.lcmp hx hb dX1_isWithin_2 ?_
  refine lv_if_lt (tgt := 17) hx hb dX1_isWithin_3 (by decide) (fun c_1 => ?_) (fun c_1 => ?_)
  · skip
    replace c_1 := (lg_cmp_lt _ _).mp c_1
    refine lv_iconst (v := 0) hx hb dX1_isWithin_17 (by decide) ?_
    exact W.zret (v := 0) (ty := .boolean) hx hb hr rfl (fun t ht hW => ⟨_, rfl, by first | (simp [c_1]; done) | (simp [c_1]; rfl), ht⟩) (fun q h => absurd h List.not_mem_nil) dX1_isWithin_18
  · skip
    replace c_1 := mt (lg_cmp_lt _ _).mpr c_1
    refine lv_lload_n hx hb dX1_isWithin_6 rfl (lv_at hl 0 rfl) ?_
    refine lv_lload hx hb dX1_isWithin_7 (lv_at hl 2 rfl) ?_
    refine W.lcmp hx hb dX1_isWithin_9 ?_
    refine lv_if_gt (tgt := 17) hx hb dX1_isWithin_10 (by decide) (fun c_2 => ?_) (fun c_2 => ?_)
    · skip
      replace c_2 := (lg_cmp_gt _ _).mp c_2
      refine lv_iconst (v := 0) hx hb dX1_isWithin_17 (by decide) ?_
      exact W.zret (v := 0) (ty := .boolean) hx hb hr rfl (fun t ht hW => ⟨_, rfl, by first | (simp [c_1, c_2]; done) | (simp [c_1, c_2]; rfl), ht⟩) (fun q h => absurd h List.not_mem_nil) dX1_isWithin_18
    · skip
      replace c_2 := mt (lg_cmp_gt _ _).mpr c_2
      refine lv_iconst (v := 1) hx hb dX1_isWithin_13 (by decide) ?_
      refine lv_goto (tgt := 18) hx hb dX1_isWithin_14 (by decide) ?_
      exact W.zret (v := 1) (ty := .boolean) hx hb hr rfl (fun t ht hW => ⟨_, rfl, by first | (simp [c_1, c_2]; done) | (simp [c_1, c_2]; rfl), ht⟩) (fun q h => absurd h List.not_mem_nil) dX1_isWithin_18
set_option maxHeartbeats 4000000 in
set_option maxRecDepth 100000 in
/-- find of no wheel -/
theorem c1_find_out (l : Launch) (D : va_G) (cW : ClassId) (h0 hw n : Nat) (q : Nat → Nat) (g : Nat → Option Nat) (sp : Nat → Int64) (lo ph : Nat → Int32) (pr bo : Nat → Int64) (mo : Nat → UInt64) (rf : Int64) (hd gr st nx : Int32) (hn : n ≤ 8) (hg : ∀ i, i < n → g i = some (q i)) (w : Int32) (hwo : wOut n w) : Met l yX1_find wsX1_find ({ frames := 0, cells := 0, slots := 0, locals := 0 }) (va_Pc [.ref h0, .int w] (xP D [(cW, .object RX0)] (cw h0 hw cW n q g sp lo ph pr bo mo rf hd gr st nx))) (va_Sq (fun r : Option Nat => r = none)) 0 0 (fun _ => False) := by
  refine Met.ofW (cc := cX1_find) (maxL := 2) (ret := (some (.object "GearBrake$Wheel"))) (by decide) rfl ?_
  intro p e s m args below meth c s₁ B hml hv
  obtain ⟨rfl, hP, hK, hN⟩ := hv
  have hx := B.exec
  have hb := B.bytes
  have hr := B.returns
  have hts := atoms_spec (ws := wsX1_find) B.pre
  have hown : s.vm.findClass RX1 = some m.cls := findClass_of_methodNamed B.named
  have hlocks := B.notSynchronized
  have hm1 : (.fieldLink RX1 11 "GearBrake" "wheels" "[LGearBrake$Wheel;" : Cond) ∈ wsX1_find := by decide +kernel
  have hl := lv_entry ([.ref h0, .int w]) (n := 2) (Nat.le_of_ble_eq_true rfl)
  rw [lg_entry_eq]
  generalize (lg_sl ([.ref h0, .int w]) ++ List.replicate (2 - (lg_sl ([.ref h0, .int w])).length) Slot.unset).toArray = ls at hl ⊢
  replace hl : lv_has ls 2 [(0, .ref h0), (1, .int w)] := hl
  refine lv_iload_n hx hb dX1_find_0 rfl (lv_at hl 1 rfl) ?_
  refine lv_iconst (v := 1) hx hb dX1_find_1 (by decide) ?_
  refine lv_icmp_lt (tgt := 25) hx hb dX1_find_2 (by decide) (fun c_1 => ?_) (fun c_1 => ?_)
  · skip
    refine lv_null hx hb dX1_find_25 ?_
    exact W.aret (v := .null) hx hb hr (Or.inl ⟨_, rfl⟩) (Or.inl rfl) (fun t ht hW => ⟨none, rfl, rfl, ht⟩) (fun q h => absurd h List.not_mem_nil) dX1_find_26
  · skip
    refine lv_iload_n hx hb dX1_find_5 rfl (lv_at hl 1 rfl) ?_
    refine lv_aload_n hx hb dX1_find_6 rfl (lv_at hl 0 rfl) ?_
    refine va_get (D := D) (ci := 1) (v := .ref hw) (C := RX1) (T := TX1) (N := 6) hx hb hts (by decide +kernel) hown hK hP 0 rfl rfl 0 (by decide) (hts _ hm1) (fun _ h9 => h9) rfl dX1_find_7 ?_
    refine va_alen (D := D) (x := (n, .inr (.inr (.inr (.inr g))))) (v := nI n) hx hb hK hP 1 0 rfl rfl rfl dX1_find_10 ?_
    refine lv_icmp_gt (tgt := 25) hx hb dX1_find_11 (by decide) (fun c_2 => ?_) (fun c_2 => ?_)
    · skip
      refine lv_null hx hb dX1_find_25 ?_
      exact W.aret (v := .null) hx hb hr (Or.inl ⟨_, rfl⟩) (Or.inl rfl) (fun t ht hW => ⟨none, rfl, rfl, ht⟩) (fun q h => absurd h List.not_mem_nil) dX1_find_26
    · skip
      exact (hwo.elim c_1 c_2).elim
set_option maxHeartbeats 4000000 in
set_option maxRecDepth 100000 in
/-- find of wheel i + 1 -/
theorem c1_find_in (l : Launch) (D : va_G) (cW : ClassId) (h0 hw n : Nat) (q : Nat → Nat) (g : Nat → Option Nat) (sp : Nat → Int64) (lo ph : Nat → Int32) (pr bo : Nat → Int64) (mo : Nat → UInt64) (rf : Int64) (hd gr st nx : Int32) (hn : n ≤ 8) (hg : ∀ i, i < n → g i = some (q i)) (i : Nat) (hi : i < n) : Met l yX1_find wsX1_find ({ frames := 0, cells := 0, slots := 0, locals := 0 }) (va_Pc [.ref h0, .int (nI (i + 1))] (xP D [(cW, .object RX0)] (cw h0 hw cW n q g sp lo ph pr bo mo rf hd gr st nx))) (va_Sq (fun r : Option Nat => r = some (q i))) 0 0 (fun _ => False) := by
  refine Met.ofW (cc := cX1_find) (maxL := 2) (ret := (some (.object "GearBrake$Wheel"))) (by decide) rfl ?_
  intro p e s m args below meth c s₁ B hml hv
  obtain ⟨rfl, hP, hK, hN⟩ := hv
  have hx := B.exec
  have hb := B.bytes
  have hr := B.returns
  have hts := atoms_spec (ws := wsX1_find) B.pre
  have hown : s.vm.findClass RX1 = some m.cls := findClass_of_methodNamed B.named
  have hlocks := B.notSynchronized
  have hm1 : (.fieldLink RX1 11 "GearBrake" "wheels" "[LGearBrake$Wheel;" : Cond) ∈ wsX1_find := by decide +kernel
  have hl := lv_entry ([.ref h0, .int (nI (i + 1))]) (n := 2) (Nat.le_of_ble_eq_true rfl)
  rw [lg_entry_eq]
  generalize (lg_sl ([.ref h0, .int (nI (i + 1))]) ++ List.replicate (2 - (lg_sl ([.ref h0, .int (nI (i + 1))])).length) Slot.unset).toArray = ls at hl ⊢
  replace hl : lv_has ls 2 [(0, .ref h0), (1, .int (nI (i + 1)))] := hl
  refine lv_iload_n hx hb dX1_find_0 rfl (lv_at hl 1 rfl) ?_
  refine lv_iconst (v := 1) hx hb dX1_find_1 (by decide) ?_
  refine lv_icmp_lt (tgt := 25) hx hb dX1_find_2 (by decide) (fun c_1 => absurd (Or.inl c_1) (wOut_in hn hi)) (fun c_1 => ?_)
  refine lv_iload_n hx hb dX1_find_5 rfl (lv_at hl 1 rfl) ?_
  refine lv_aload_n hx hb dX1_find_6 rfl (lv_at hl 0 rfl) ?_
  refine va_get (D := D) (ci := 1) (v := .ref hw) (C := RX1) (T := TX1) (N := 6) hx hb hts (by decide +kernel) hown hK hP 0 rfl rfl 0 (by decide) (hts _ hm1) (fun _ h9 => h9) rfl dX1_find_7 ?_
  refine va_alen (D := D) (x := (n, .inr (.inr (.inr (.inr g))))) (v := nI n) hx hb hK hP 1 0 rfl rfl rfl dX1_find_10 ?_
  refine lv_icmp_gt (tgt := 25) hx hb dX1_find_11 (by decide) (fun c_2 => absurd (Or.inr c_2) (wOut_in hn hi)) (fun c_2 => ?_)
  refine lv_aload_n hx hb dX1_find_14 rfl (lv_at hl 0 rfl) ?_
  refine va_get (D := D) (ci := 1) (v := .ref hw) (C := RX1) (T := TX1) (N := 6) hx hb hts (by decide +kernel) hown hK hP 0 rfl rfl 0 (by decide) (hts _ hm1) (fun _ h9 => h9) rfl dX1_find_15 ?_
  refine lv_iload_n hx hb dX1_find_18 rfl (lv_at hl 1 rfl) ?_
  refine lv_iconst (v := 1) hx hb dX1_find_19 (by decide) ?_
  refine lv_isub hx hb dX1_find_20 ?_
  refine va_aldq (D := D) hx hb hK hP 1 0 rfl rfl (ix_pred hn hi) dX1_find_21 ?_
  refine W.eq (g2 := F0 m 22 ls [.ref (q i)]) (by rw [ix_predc hn hi, hg i hi]; rfl) ?_
  refine lv_goto (tgt := 26) hx hb dX1_find_22 (by decide) ?_
  exact W.aret (v := .ref (q i)) hx hb hr (Or.inl ⟨_, rfl⟩) (Or.inr ⟨_, rfl⟩) (fun t ht hW => ⟨some (q i), rfl, rfl, ht⟩) (fun q h => absurd h List.not_mem_nil) dX1_find_26
set_option maxHeartbeats 4000000 in
set_option maxRecDepth 100000 in
/-- countLost -/
theorem c1_countLost (l : Launch) (D : va_G) (cW : ClassId) (h0 hw n : Nat) (q : Nat → Nat) (g : Nat → Option Nat) (sp : Nat → Int64) (lo ph : Nat → Int32) (pr bo : Nat → Int64) (mo : Nat → UInt64) (rf : Int64) (hd gr st nx : Int32) (hn : n ≤ 8) (hg : ∀ i, i < n → g i = some (q i)) : Met l yX1_countLost wsX1_countLost ({ frames := 0, cells := 0, slots := 0, locals := 0 }) (va_Pc [.ref h0] (xP D [(cW, .object RX0)] (cw h0 hw cW n q g sp lo ph pr bo mo rf hd gr st nx))) (vp_Si (fun r : Int32 => r = cnt lo n)) 0 0 (fun _ => False) := by
  refine Met.ofW (cc := cX1_countLost) (maxL := 3) (ret := (some .int)) (by decide) rfl ?_
  intro p e s m args below meth c s₁ B hml hv
  obtain ⟨rfl, hP, hK, hN⟩ := hv
  have hx := B.exec
  have hb := B.bytes
  have hr := B.returns
  have hts := atoms_spec (ws := wsX1_countLost) B.pre
  have hown : s.vm.findClass RX1 = some m.cls := findClass_of_methodNamed B.named
  have hlocks := B.notSynchronized
  have hm1 : (.fieldLink RX1 11 "GearBrake" "wheels" "[LGearBrake$Wheel;" : Cond) ∈ wsX1_countLost := by decide +kernel
  have hl := lv_entry ([.ref h0]) (n := 3) (Nat.le_of_ble_eq_true rfl)
  rw [lg_entry_eq]
  generalize (lg_sl ([.ref h0]) ++ List.replicate (3 - (lg_sl ([.ref h0])).length) Slot.unset).toArray = ls at hl ⊢
  replace hl : lv_has ls 3 [(0, .ref h0)] := hl
  refine lv_iconst (v := 0) hx hb dX1_countLost_0 (by decide) ?_
  refine lv_istore_n (lv' := [(1, .int 0), (0, .ref h0)]) hx hb dX1_countLost_1 rfl hl (by decide) rfl (fun ls hl => ?_)
  refine lv_iconst (v := 0) hx hb dX1_countLost_2 (by decide) ?_
  refine lv_istore_n (lv' := [(2, .int 0), (1, .int 0), (0, .ref h0)]) hx hb dX1_countLost_3 rfl hl (by decide) rfl (fun ls hl => ?_)
  obtain ⟨j, hI⟩ : ∃ (j : Nat), j ≤ n ∧ lv_has ls 3 [(2, .int (nI j)), (1, .int (cnt lo j)), (0, .ref h0)] := ⟨0, Nat.zero_le _, by exact lv_sub hl [0, 1, 2] rfl⟩
  obtain ⟨d, hjd⟩ : ∃ d, j + d = n := ⟨n - j, by omega⟩
  clear hl
  induction d generalizing ls j with
  | zero =>
    obtain ⟨hjn, hl⟩ := hI
    have hjn : j = n := by omega
    rw [hjn] at hl
    refine lv_iload_n hx hb dX1_countLost_4 rfl (lv_at hl 0 rfl) ?_
    refine lv_aload_n hx hb dX1_countLost_5 rfl (lv_at hl 2 rfl) ?_
    refine va_get (D := D) (ci := 1) (v := .ref hw) (C := RX1) (T := TX1) (N := 6) hx hb hts (by decide +kernel) hown hK hP 0 rfl rfl 0 (by decide) (hts _ hm1) (fun _ h9 => h9) rfl dX1_countLost_6 ?_
    refine va_alen (D := D) (x := (n, .inr (.inr (.inr (.inr g))))) (v := nI n) hx hb hK hP 1 0 rfl rfl rfl dX1_countLost_9 ?_
    refine lv_icmp_ge (tgt := 34) hx hb dX1_countLost_10 (by decide) (fun c_1 => ?_) (fun c_1 => absurd (nI_le (Nat.le_refl n) (by omega)) c_1)
    refine lv_iload_n hx hb dX1_countLost_34 rfl (lv_at hl 1 rfl) ?_
    exact W.iret (v := (cnt lo n)) hx hb hr (fun t ht hW => ⟨_, rfl, rfl, ht⟩) (fun q h => absurd h List.not_mem_nil) dX1_countLost_35
  | succ d ih =>
    obtain ⟨hjn, hl⟩ := hI
    have hlt : j < n := by omega
    refine lv_iload_n hx hb dX1_countLost_4 rfl (lv_at hl 0 rfl) ?_
    refine lv_aload_n hx hb dX1_countLost_5 rfl (lv_at hl 2 rfl) ?_
    refine va_get (D := D) (ci := 1) (v := .ref hw) (C := RX1) (T := TX1) (N := 6) hx hb hts (by decide +kernel) hown hK hP 0 rfl rfl 0 (by decide) (hts _ hm1) (fun _ h9 => h9) rfl dX1_countLost_6 ?_
    refine va_alen (D := D) (x := (n, .inr (.inr (.inr (.inr g))))) (v := nI n) hx hb hK hP 1 0 rfl rfl rfl dX1_countLost_9 ?_
    refine lv_icmp_ge (tgt := 34) hx hb dX1_countLost_10 (by decide) (fun c_2 => absurd c_2 (nI_ge hlt (by omega))) (fun c_2 => ?_)
    refine lv_aload_n hx hb dX1_countLost_13 rfl (lv_at hl 2 rfl) ?_
    refine va_get (D := D) (ci := 1) (v := .ref hw) (C := RX1) (T := TX1) (N := 6) hx hb hts (by decide +kernel) hown hK hP 0 rfl rfl 0 (by decide) (hts _ hm1) (fun _ h9 => h9) rfl dX1_countLost_14 ?_
    refine lv_iload_n hx hb dX1_countLost_17 rfl (lv_at hl 0 rfl) ?_
    refine va_aldq (D := D) hx hb hK hP 1 0 rfl rfl (ix_n hn hlt) dX1_countLost_18 ?_
    refine W.eq (g2 := F0 m 19 ls [.ref (q j)]) (by rw [ix_nc hn hlt, hg j hlt]; rfl) ?_
    refine va_getN (D := D) (ci := 0) (v := .int (lo (j + 1))) (C := RX0) (T := TX0) (N := 6) hx hb hts (by decide +kernel) hown hK hP (j + 2) (cw_at hlt) rfl 1 (by decide) (va_Nw.use rfl hN.2.1) (fun _ h9 => h9) rfl dX1_countLost_19 ?_
    refine lv_if_eq (tgt := 28) hx hb dX1_countLost_22 (by decide) (fun c_3 => ?_) (fun c_3 => ?_)
    · skip
      refine lv_iinc (v := nI (j + 1)) (lv' := [(2, .int (nI (j + 1))), (1, .int (cnt lo j)), (0, .ref h0)]) hx hb dX1_countLost_28 hl (k := 0) rfl (nI_1 j) (by decide) rfl (fun ls hl => ?_)
      refine lv_goto (tgt := 4) hx hb dX1_countLost_31 (by decide) ?_
      exact ih _ (j + 1) ⟨by omega, by rw [show cnt lo (j + 1) = cnt lo j from by simp [cnt, c_3]]; exact lv_sub hl [0, 1, 2] rfl⟩ (by omega)
    · skip
      refine lv_iinc (v := (cnt lo j) + 1) (lv' := [(1, .int ((cnt lo j) + 1)), (2, .int (nI j)), (0, .ref h0)]) hx hb dX1_countLost_25 hl (k := 1) rfl rfl (by decide) rfl (fun ls hl => ?_)
      refine lv_iinc (v := nI (j + 1)) (lv' := [(2, .int (nI (j + 1))), (1, .int ((cnt lo j) + 1)), (0, .ref h0)]) hx hb dX1_countLost_28 hl (k := 1) rfl (nI_1 j) (by decide) rfl (fun ls hl => ?_)
      refine lv_goto (tgt := 4) hx hb dX1_countLost_31 (by decide) ?_
      exact ih _ (j + 1) ⟨by omega, by rw [show cnt lo (j + 1) = (cnt lo j) + 1 from by simp [cnt, c_3]]; exact lv_sub hl [0, 1, 2] rfl⟩ (by omega)
set_option maxHeartbeats 4000000 in
set_option maxRecDepth 100000 in
/-- greatestSpeed -/
theorem c1_greatest (l : Launch) (D : va_G) (cW : ClassId) (h0 hw n : Nat) (q : Nat → Nat) (g : Nat → Option Nat) (sp : Nat → Int64) (lo ph : Nat → Int32) (pr bo : Nat → Int64) (mo : Nat → UInt64) (rf : Int64) (hd gr st nx : Int32) (hn : n ≤ 8) (hg : ∀ i, i < n → g i = some (q i)) : Met l yX1_greatestSpeed wsX1_greatestSpeed ({ frames := 1, cells := 0, slots := 0, locals := 23 }) (va_Pc [.ref h0] (xP D [(cW, .object RX0)] (cw h0 hw cW n q g sp lo ph pr bo mo rf hd gr st nx))) (vp_Sl (fun r : Int64 => r = cTop lo sp n)) 0 0 (fun _ => False) := by
  refine Met.ofW (cc := cX1_greatestSpeed) (maxL := 4) (ret := (some .long)) (by decide) rfl ?_
  intro p e s m args below meth c s₁ B hml hv
  obtain ⟨rfl, hP, hK, hN⟩ := hv
  have hx := B.exec
  have hb := B.bytes
  have hr := B.returns
  have hts := atoms_spec (ws := wsX1_greatestSpeed) B.pre
  have hown : s.vm.findClass RX1 = some m.cls := findClass_of_methodNamed B.named
  have hlocks := B.notSynchronized
  have hm1 : (.fieldLink RX1 11 "GearBrake" "wheels" "[LGearBrake$Wheel;" : Cond) ∈ wsX1_greatestSpeed := by decide +kernel
  have hm2 : (.methodLink RX1 122 Lib.MathLoose.max_long.x : Cond) ∈ wsX1_greatestSpeed := by decide +kernel
  have hm3 : (.static Lib.MathLoose.max_long.x : Cond) ∈ wsX1_greatestSpeed := by decide +kernel
  have hm4 : (.initialized "java/lang/Math" : Cond) ∈ wsX1_greatestSpeed := by decide +kernel
  have hm5 : (.code Lib.MathLoose.max_long.x Lib.MathLoose.max_long.code 4 (some .long) : Cond) ∈ wsX1_greatestSpeed := by decide +kernel
  have hl := lv_entry ([.ref h0]) (n := 4) (Nat.le_of_ble_eq_true rfl)
  rw [lg_entry_eq]
  generalize (lg_sl ([.ref h0]) ++ List.replicate (4 - (lg_sl ([.ref h0])).length) Slot.unset).toArray = ls at hl ⊢
  replace hl : lv_has ls 4 [(0, .ref h0)] := hl
  refine lv_lconst (v := 0) hx hb dX1_greatestSpeed_0 (by decide) ?_
  refine lv_lstore_n (lv' := [(1, .long 0), (0, .ref h0)]) hx hb dX1_greatestSpeed_1 rfl hl (by decide) rfl (fun ls hl => ?_)
  refine lv_iconst (v := 0) hx hb dX1_greatestSpeed_2 (by decide) ?_
  refine lv_istore_n (lv' := [(3, .int 0), (1, .long 0), (0, .ref h0)]) hx hb dX1_greatestSpeed_3 rfl hl (by decide) rfl (fun ls hl => ?_)
  obtain ⟨j, hI⟩ : ∃ (j : Nat), j ≤ n ∧ lv_has ls 4 [(3, .int (nI j)), (1, .long (cTop lo sp j)), (0, .ref h0)] := ⟨0, Nat.zero_le _, by exact lv_sub hl [0, 1, 2] rfl⟩
  obtain ⟨d, hjd⟩ : ∃ d, j + d = n := ⟨n - j, by omega⟩
  clear hl
  induction d generalizing ls j with
  | zero =>
    obtain ⟨hjn, hl⟩ := hI
    have hjn : j = n := by omega
    rw [hjn] at hl
    refine lv_iload_n hx hb dX1_greatestSpeed_4 rfl (lv_at hl 0 rfl) ?_
    refine lv_aload_n hx hb dX1_greatestSpeed_5 rfl (lv_at hl 2 rfl) ?_
    refine va_get (D := D) (ci := 1) (v := .ref hw) (C := RX1) (T := TX1) (N := 6) hx hb hts (by decide +kernel) hown hK hP 0 rfl rfl 0 (by decide) (hts _ hm1) (fun _ h9 => h9) rfl dX1_greatestSpeed_6 ?_
    refine va_alen (D := D) (x := (n, .inr (.inr (.inr (.inr g))))) (v := nI n) hx hb hK hP 1 0 rfl rfl rfl dX1_greatestSpeed_9 ?_
    refine lv_icmp_ge (tgt := 45) hx hb dX1_greatestSpeed_10 (by decide) (fun c_1 => ?_) (fun c_1 => absurd (nI_le (Nat.le_refl n) (by omega)) c_1)
    refine lv_lload_n hx hb dX1_greatestSpeed_45 rfl (lv_at hl 1 rfl) ?_
    exact W.lret (v := (cTop lo sp n)) hx hb hr (fun t ht hW => ⟨_, rfl, rfl, ht⟩) (fun q h => absurd h List.not_mem_nil) dX1_greatestSpeed_46
  | succ d ih =>
    obtain ⟨hjn, hl⟩ := hI
    have hlt : j < n := by omega
    refine lv_iload_n hx hb dX1_greatestSpeed_4 rfl (lv_at hl 0 rfl) ?_
    refine lv_aload_n hx hb dX1_greatestSpeed_5 rfl (lv_at hl 2 rfl) ?_
    refine va_get (D := D) (ci := 1) (v := .ref hw) (C := RX1) (T := TX1) (N := 6) hx hb hts (by decide +kernel) hown hK hP 0 rfl rfl 0 (by decide) (hts _ hm1) (fun _ h9 => h9) rfl dX1_greatestSpeed_6 ?_
    refine va_alen (D := D) (x := (n, .inr (.inr (.inr (.inr g))))) (v := nI n) hx hb hK hP 1 0 rfl rfl rfl dX1_greatestSpeed_9 ?_
    refine lv_icmp_ge (tgt := 45) hx hb dX1_greatestSpeed_10 (by decide) (fun c_2 => absurd c_2 (nI_ge hlt (by omega))) (fun c_2 => ?_)
    refine lv_aload_n hx hb dX1_greatestSpeed_13 rfl (lv_at hl 2 rfl) ?_
    refine va_get (D := D) (ci := 1) (v := .ref hw) (C := RX1) (T := TX1) (N := 6) hx hb hts (by decide +kernel) hown hK hP 0 rfl rfl 0 (by decide) (hts _ hm1) (fun _ h9 => h9) rfl dX1_greatestSpeed_14 ?_
    refine lv_iload_n hx hb dX1_greatestSpeed_17 rfl (lv_at hl 0 rfl) ?_
    refine va_aldq (D := D) hx hb hK hP 1 0 rfl rfl (ix_n hn hlt) dX1_greatestSpeed_18 ?_
    refine W.eq (g2 := F0 m 19 ls [.ref (q j)]) (by rw [ix_nc hn hlt, hg j hlt]; rfl) ?_
    refine va_getN (D := D) (ci := 0) (v := .int (lo (j + 1))) (C := RX0) (T := TX0) (N := 6) hx hb hts (by decide +kernel) hown hK hP (j + 2) (cw_at hlt) rfl 1 (by decide) (va_Nw.use rfl hN.2.1) (fun _ h9 => h9) rfl dX1_greatestSpeed_19 ?_
    refine lv_if_ne (tgt := 39) hx hb dX1_greatestSpeed_22 (by decide) (fun c_3 => ?_) (fun c_3 => ?_)
    · skip
      refine lv_iinc (v := nI (j + 1)) (lv' := [(3, .int (nI (j + 1))), (1, .long (cTop lo sp j)), (0, .ref h0)]) hx hb dX1_greatestSpeed_39 hl (k := 0) rfl (nI_1 j) (by decide) rfl (fun ls hl => ?_)
      refine lv_goto (tgt := 4) hx hb dX1_greatestSpeed_42 (by decide) ?_
      exact ih _ (j + 1) ⟨by omega, by rw [show cTop lo sp (j + 1) = cTop lo sp j from by simp only [cTop]; simp [c_3]]; exact lv_sub hl [0, 1, 2] rfl⟩ (by omega)
    · skip
      refine lv_lload_n hx hb dX1_greatestSpeed_25 rfl (lv_at hl 1 rfl) ?_
      refine lv_aload_n hx hb dX1_greatestSpeed_26 rfl (lv_at hl 2 rfl) ?_
      refine va_get (D := D) (ci := 1) (v := .ref hw) (C := RX1) (T := TX1) (N := 6) hx hb hts (by decide +kernel) hown hK hP 0 rfl rfl 0 (by decide) (hts _ hm1) (fun _ h9 => h9) rfl dX1_greatestSpeed_27 ?_
      refine lv_iload_n hx hb dX1_greatestSpeed_30 rfl (lv_at hl 0 rfl) ?_
      refine va_aldq (D := D) hx hb hK hP 1 0 rfl rfl (ix_n hn hlt) dX1_greatestSpeed_31 ?_
      refine W.eq (g2 := F0 m 32 ls [.ref (q j), .long (cTop lo sp j)]) (by rw [ix_nc hn hlt, hg j hlt]; rfl) ?_
      refine va_getN (D := D) (ci := 0) (v := .long (sp (j + 1))) (C := RX0) (T := TX0) (N := 6) hx hb hts (by decide +kernel) hown hK hP (j + 2) (cw_at hlt) rfl 0 (by decide) (va_Nw.use rfl hN.1) (fun _ h9 => h9) rfl dX1_greatestSpeed_32 ?_
      refine va_mmax_long hx hb (by rw [hml]; exact hl.1.symm) hown (hts _ hm2) (hts _ hm3) (hts _ hm4) (hts _ hm5) (Nat.le_of_ble_eq_true rfl) (Nat.le_of_ble_eq_true rfl) (Nat.le_of_ble_eq_true rfl) (Nat.le_of_ble_eq_true rfl) dX1_greatestSpeed_35 ?_
      refine lv_lstore_n (lv' := [(1, .long (if (sp (j + 1)) < (cTop lo sp j) then (cTop lo sp j) else (sp (j + 1)))), (3, .int (nI j)), (0, .ref h0)]) hx hb dX1_greatestSpeed_38 rfl hl (by decide) rfl (fun ls hl => ?_)
      refine lv_iinc (v := nI (j + 1)) (lv' := [(3, .int (nI (j + 1))), (1, .long (if (sp (j + 1)) < (cTop lo sp j) then (cTop lo sp j) else (sp (j + 1)))), (0, .ref h0)]) hx hb dX1_greatestSpeed_39 hl (k := 1) rfl (nI_1 j) (by decide) rfl (fun ls hl => ?_)
      refine lv_goto (tgt := 4) hx hb dX1_greatestSpeed_42 (by decide) ?_
      exact ih _ (j + 1) ⟨by omega, by rw [show cTop lo sp (j + 1) = if (sp (j + 1)) < (cTop lo sp j) then (cTop lo sp j) else (sp (j + 1)) from by simp only [cTop]; simp [c_3]]; exact lv_sub hl [0, 1, 2] rfl⟩ (by omega)
