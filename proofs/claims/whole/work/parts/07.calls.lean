/-! ===== the car: the calls that write ===== -/
set_option maxHeartbeats 4000000 in
set_option maxRecDepth 100000 in
/-- wheel -/
theorem c1_wheel (l : Launch) (D : va_G) (cW : ClassId) (h0 hw n : Nat) (q : Nat → Nat) (g : Nat → Option Nat) (sp : Nat → Int64) (lo ph : Nat → Int32) (pr bo : Nat → Int64) (mo : Nat → UInt64) (rf : Int64) (hd gr st nx : Int32) (hn : n ≤ 8) (hg : ∀ i, i < n → g i = some (q i)) (w : Int32) (v : Int64) (sz : Nat) : Met l yX1_wheel wsX1_wheel ({ frames := 1, cells := 0, slots := 0, locals := 25 }) (va_Pc [.ref h0, .int w, .long v] (xW D [(cW, .object RX0)] (cw h0 hw cW n q g sp lo ph pr bo mo rf hd gr st nx) sz)) (va_Qi (fun (r : Int32) (u : (Nat → Int64)) => r = fW n w v 1000 ∧ u = gW n w v 1000 sp v) (fun (u : (Nat → Int64)) => xB D [(cW, .object RX0)] (va_A (cw h0 hw cW n q g sp lo ph pr bo mo rf hd gr st nx) sz) (cw h0 hw cW n q g u lo ph pr bo mo rf hd gr st nx)) (va_A (cw h0 hw cW n q g sp lo ph pr bo mo rf hd gr st nx) sz)) 0 0 (va_A (cw h0 hw cW n q g sp lo ph pr bo mo rf hd gr st nx) sz) := by
  rcases w_io n w hn with hwo | ⟨i, hi, rfl⟩
  · skip
    refine Met.ofW (cc := cX1_wheel) (maxL := 5) (ret := (some .int)) (by decide) rfl ?_
    intro p e s m args below meth c s₁ B hml hv
    obtain ⟨rfl, hsz, ⟨hP, hK, hN⟩, hDt⟩ := hv
    have hx := B.exec
    have hb := B.bytes
    have hr := B.returns
    have hts := atoms_spec (ws := wsX1_wheel) B.pre
    have hown : s.vm.findClass RX1 = some m.cls := findClass_of_methodNamed B.named
    have hlocks := B.notSynchronized
    subst hsz
    have hD := hDt.self (sz := s.heap.size)
    generalize hAe : va_A (cw h0 hw cW n q g sp lo ph pr bo mo rf hd gr st nx) s.heap.size = A at hD ⊢
    have hA : ∀ q : Nat, s.heap.size ≤ q → A q := fun q h => by rw [← hAe]; exact Or.inr h
    have hS : va_S A s.heap s.heap [] := va_S.rf
    have hl := lv_entry ([.ref h0, .int w, .long v]) (n := 5) (Nat.le_of_ble_eq_true rfl)
    rw [lg_entry_eq]
    generalize (lg_sl ([.ref h0, .int w, .long v]) ++ List.replicate (5 - (lg_sl ([.ref h0, .int w, .long v])).length) Slot.unset).toArray = ls at hl ⊢
    replace hl : lv_has ls 5 [(0, .ref h0), (1, .int w), (2, .long v)] := hl
    refine lv_aload_n hx hb dX1_wheel_0 rfl (lv_at hl 0 rfl) ?_
    refine lv_iload_n hx hb dX1_wheel_1 rfl (lv_at hl 1 rfl) ?_
    refine va_csq (W.runV (As := [.int w]) (rest := []) ⟨hx, hb, hml, hown, hts⟩ (c1_find_out l D cW h0 hw n q g sp lo ph pr bo mo rf hd gr st nx hn hg w hwo) (cwV 1 hts gX1_wheel_X1_find rfl rfl rfl (by decide +kernel) ⟨Nat.le_of_ble_eq_true rfl, Nat.le_of_ble_eq_true rfl⟩) ⟨xP_blind, va_recv hK hP (ci := 1) (q0 := 0) rfl rfl, xP_at hP hK hN⟩ rfl rfl hl.1 rfl (lv_room (Nat.le_of_ble_eq_true rfl)) dX1_wheel_2 ⟨Nat.le_of_ble_eq_true rfl, Nat.le_of_ble_eq_true rfl⟩) (fun r_1 hr_2 => ?_)
    subst hr_2
    refine W.eq (g2 := F0 m 5 ls [.null]) rfl ?_
    refine lv_astoreN (lv' := [(4, .null), (0, .ref h0), (1, .int w), (2, .long v)]) hx hb dX1_wheel_5 hl (by decide) rfl (fun ls hl => ?_)
    refine lv_aloadN hx hb dX1_wheel_7 (lv_at hl 0 rfl) ?_
    refine lv_ifnonnullN hx hb dX1_wheel_9 ?_
    refine lv_iconst (v := (-1)) hx hb dX1_wheel_12 (by decide) ?_
    exact W.iret (v := (-1)) hx hb hr (fun t ht hW => ⟨⟨_, (sp), rfl, ⟨by simp [fW, gW, hwo], by simp [fW, gW, hwo]⟩, xB_end hP hK hN hD ht hW⟩, hS.F ht⟩) hS.2.2 dX1_wheel_13
  · skip
    refine Met.ofW (cc := cX1_wheel) (maxL := 5) (ret := (some .int)) (by decide) rfl ?_
    intro p e s m args below meth c s₁ B hml hv
    obtain ⟨rfl, hsz, ⟨hP, hK, hN⟩, hDt⟩ := hv
    have hx := B.exec
    have hb := B.bytes
    have hr := B.returns
    have hts := atoms_spec (ws := wsX1_wheel) B.pre
    have hown : s.vm.findClass RX1 = some m.cls := findClass_of_methodNamed B.named
    have hlocks := B.notSynchronized
    have hm1 : (.constantLong RX1 24 (1000) : Cond) ∈ wsX1_wheel := by decide +kernel
    subst hsz
    have hD := hDt.self (sz := s.heap.size)
    generalize hAe : va_A (cw h0 hw cW n q g sp lo ph pr bo mo rf hd gr st nx) s.heap.size = A at hD ⊢
    have hA : ∀ q : Nat, s.heap.size ≤ q → A q := fun q h => by rw [← hAe]; exact Or.inr h
    have hS : va_S A s.heap s.heap [] := va_S.rf
    have hl := lv_entry ([.ref h0, .int (nI (i + 1)), .long v]) (n := 5) (Nat.le_of_ble_eq_true rfl)
    rw [lg_entry_eq]
    generalize (lg_sl ([.ref h0, .int (nI (i + 1)), .long v]) ++ List.replicate (5 - (lg_sl ([.ref h0, .int (nI (i + 1)), .long v])).length) Slot.unset).toArray = ls at hl ⊢
    replace hl : lv_has ls 5 [(0, .ref h0), (1, .int (nI (i + 1))), (2, .long v)] := hl
    refine lv_aload_n hx hb dX1_wheel_0 rfl (lv_at hl 0 rfl) ?_
    refine lv_iload_n hx hb dX1_wheel_1 rfl (lv_at hl 1 rfl) ?_
    refine va_csq (W.runV (As := [.int (nI (i + 1))]) (rest := []) ⟨hx, hb, hml, hown, hts⟩ (c1_find_in l D cW h0 hw n q g sp lo ph pr bo mo rf hd gr st nx hn hg i hi) (cwV 1 hts gX1_wheel_X1_find rfl rfl rfl (by decide +kernel) ⟨Nat.le_of_ble_eq_true rfl, Nat.le_of_ble_eq_true rfl⟩) ⟨xP_blind, va_recv hK hP (ci := 1) (q0 := 0) rfl rfl, xP_at hP hK hN⟩ rfl rfl hl.1 rfl (lv_room (Nat.le_of_ble_eq_true rfl)) dX1_wheel_2 ⟨Nat.le_of_ble_eq_true rfl, Nat.le_of_ble_eq_true rfl⟩) (fun r_1 hr_2 => ?_)
    subst hr_2
    refine W.eq (g2 := F0 m 5 ls [.ref (q i)]) rfl ?_
    refine lv_astore (lv' := [(4, .ref (q i)), (0, .ref h0), (1, .int (nI (i + 1))), (2, .long v)]) hx hb dX1_wheel_5 hl (by decide) rfl (fun ls hl => ?_)
    refine lv_aload hx hb dX1_wheel_7 (lv_at hl 0 rfl) ?_
    refine lv_ifnonnull (tgt := 14) hx hb dX1_wheel_9 (by decide) ?_
    refine lv_lload_n hx hb dX1_wheel_14 rfl (lv_at hl 3 rfl) ?_
    refine lv_lconst (v := 0) hx hb dX1_wheel_15 (by decide) ?_
    refine lv_ldc2 hx hb hown (hts _ hm1) dX1_wheel_16 ?_
    refine vp_callSi (W.runS (As := [.long v, .long 0, .long 1000]) (rest := []) ⟨hx, hb, hml, hown, hts⟩ (c1_within l v 0 1000) (va_cwS 3 hts gX1_wheel_X1_isWithin rfl rfl rfl (by decide +kernel) ⟨Nat.le_of_ble_eq_true rfl, Nat.le_of_ble_eq_true rfl⟩) ⟨fun _ _ _ _ h => h, fun _ _ _ => ⟨rfl, trivial⟩⟩ rfl rfl hl.1 rfl (lv_room (Nat.le_of_ble_eq_true rfl)) dX1_wheel_19 ⟨Nat.le_of_ble_eq_true rfl, Nat.le_of_ble_eq_true rfl⟩) (fun r_3 hr_4 => ?_)
    rcases hr_4 with ⟨rfl, k_5, k_6⟩ | ⟨rfl, k_5⟩
    · skip
      refine lv_if_ne (tgt := 28) hx hb dX1_wheel_22 (by decide) (fun c_7 => ?_) (fun c_7 => absurd c_7 (by decide))
      refine lv_aload hx hb dX1_wheel_28 (lv_at hl 0 rfl) ?_
      refine lv_lload_n hx hb dX1_wheel_30 rfl (lv_at hl 3 rfl) ?_
      refine va_putN (D := D) (ci := 0) (v := .long v) (ty := .long) (C := RX0) (T := TX0) (N := 6) hx hb hts (by decide +kernel) tyX0 tyX0_ok nmX0 hown hK hP hD hS (i + 2) (cw_at hi) rfl 0 (by decide) (va_Nw.use rfl hN.1) (fun _ h9 => h9) rfl (by decide +kernel) rfl rfl (Nat.le_of_ble_eq_true rfl) dX1_wheel_31 (fun H locs hP hD hS => ?_)
      replace hP : va_P D vwCl (cw h0 hw cW n q g (va_up sp (i + 1) v) lo ph pr bo mo rf hd gr st nx) H := w_P (cw_sp v) hP
      replace hD : va_D A (cw h0 hw cW n q g (va_up sp (i + 1) v) lo ph pr bo mo rf hd gr st nx) := w_D (cw_sp v) hD
      refine lv_iconst (v := 1) hx hb dX1_wheel_34 (by decide) ?_
      exact W.iret (v := 1) hx hb hr (fun t ht hW => ⟨⟨_, (va_up sp (i + 1) v), rfl, ⟨by simp [fW, gW, wOut_in hn hi, wIx hn hi, k_5, k_6], by simp [fW, gW, wOut_in hn hi, wIx hn hi, k_5, k_6]⟩, xB_end hP hK hN hD ht hW⟩, hS.F ht⟩) hS.2.2 dX1_wheel_35
    · skip
      refine lv_if_ne (tgt := 28) hx hb dX1_wheel_22 (by decide) (fun c_8 => absurd (by decide) c_8) (fun c_8 => ?_)
      refine lv_bipush (v := (-2)) hx hb dX1_wheel_25 (by decide) ?_
      exact W.iret (v := (-2)) hx hb hr (fun t ht hW => ⟨⟨_, (sp), rfl, ⟨by simp [fW, gW, wOut_in hn hi, wIx hn hi, k_5], by simp [fW, gW, wOut_in hn hi, wIx hn hi, k_5]⟩, xB_end hP hK hN hD ht hW⟩, hS.F ht⟩) hS.2.2 dX1_wheel_27
set_option maxHeartbeats 4000000 in
set_option maxRecDepth 100000 in
/-- bound -/
theorem c1_bound (l : Launch) (D : va_G) (cW : ClassId) (h0 hw n : Nat) (q : Nat → Nat) (g : Nat → Option Nat) (sp : Nat → Int64) (lo ph : Nat → Int32) (pr bo : Nat → Int64) (mo : Nat → UInt64) (rf : Int64) (hd gr st nx : Int32) (hn : n ≤ 8) (hg : ∀ i, i < n → g i = some (q i)) (w : Int32) (v : Int64) (sz : Nat) : Met l yX1_bound wsX1_bound ({ frames := 2, cells := 0, slots := 0, locals := 45 }) (va_Pc [.ref h0, .int w, .long v] (xW D [(cW, .object RX0)] (cw h0 hw cW n q g sp lo ph pr bo mo rf hd gr st nx) sz)) (va_Qi (fun (r : Int32) (u : (Nat → Int64) × (Nat → Int64)) => r = fW n w v 200 ∧ u.1 = gW n w v 200 bo v ∧ u.2 = gW n w v 200 pr (cMin (pr w.toNatClampNeg) v)) (fun (u : (Nat → Int64) × (Nat → Int64)) => xB D [(cW, .object RX0)] (va_A (cw h0 hw cW n q g sp lo ph pr bo mo rf hd gr st nx) sz) (cw h0 hw cW n q g sp lo ph u.2 u.1 mo rf hd gr st nx)) (va_A (cw h0 hw cW n q g sp lo ph pr bo mo rf hd gr st nx) sz)) 0 0 (va_A (cw h0 hw cW n q g sp lo ph pr bo mo rf hd gr st nx) sz) := by
  rcases w_io n w hn with hwo | ⟨i, hi, rfl⟩
  · skip
    refine Met.ofW (cc := cX1_bound) (maxL := 5) (ret := (some .int)) (by decide) rfl ?_
    intro p e s m args below meth c s₁ B hml hv
    obtain ⟨rfl, hsz, ⟨hP, hK, hN⟩, hDt⟩ := hv
    have hx := B.exec
    have hb := B.bytes
    have hr := B.returns
    have hts := atoms_spec (ws := wsX1_bound) B.pre
    have hown : s.vm.findClass RX1 = some m.cls := findClass_of_methodNamed B.named
    have hlocks := B.notSynchronized
    subst hsz
    have hD := hDt.self (sz := s.heap.size)
    generalize hAe : va_A (cw h0 hw cW n q g sp lo ph pr bo mo rf hd gr st nx) s.heap.size = A at hD ⊢
    have hA : ∀ q : Nat, s.heap.size ≤ q → A q := fun q h => by rw [← hAe]; exact Or.inr h
    have hS : va_S A s.heap s.heap [] := va_S.rf
    have hl := lv_entry ([.ref h0, .int w, .long v]) (n := 5) (Nat.le_of_ble_eq_true rfl)
    rw [lg_entry_eq]
    generalize (lg_sl ([.ref h0, .int w, .long v]) ++ List.replicate (5 - (lg_sl ([.ref h0, .int w, .long v])).length) Slot.unset).toArray = ls at hl ⊢
    replace hl : lv_has ls 5 [(0, .ref h0), (1, .int w), (2, .long v)] := hl
    refine lv_aload_n hx hb dX1_bound_0 rfl (lv_at hl 0 rfl) ?_
    refine lv_iload_n hx hb dX1_bound_1 rfl (lv_at hl 1 rfl) ?_
    refine va_csq (W.runV (As := [.int w]) (rest := []) ⟨hx, hb, hml, hown, hts⟩ (c1_find_out l D cW h0 hw n q g sp lo ph pr bo mo rf hd gr st nx hn hg w hwo) (cwV 1 hts gX1_bound_X1_find rfl rfl rfl (by decide +kernel) ⟨Nat.le_of_ble_eq_true rfl, Nat.le_of_ble_eq_true rfl⟩) ⟨xP_blind, va_recv hK hP (ci := 1) (q0 := 0) rfl rfl, xP_at hP hK hN⟩ rfl rfl hl.1 rfl (lv_room (Nat.le_of_ble_eq_true rfl)) dX1_bound_2 ⟨Nat.le_of_ble_eq_true rfl, Nat.le_of_ble_eq_true rfl⟩) (fun r_1 hr_2 => ?_)
    subst hr_2
    refine W.eq (g2 := F0 m 5 ls [.null]) rfl ?_
    refine lv_astoreN (lv' := [(4, .null), (0, .ref h0), (1, .int w), (2, .long v)]) hx hb dX1_bound_5 hl (by decide) rfl (fun ls hl => ?_)
    refine lv_aloadN hx hb dX1_bound_7 (lv_at hl 0 rfl) ?_
    refine lv_ifnonnullN hx hb dX1_bound_9 ?_
    refine lv_iconst (v := (-1)) hx hb dX1_bound_12 (by decide) ?_
    exact W.iret (v := (-1)) hx hb hr (fun t ht hW => ⟨⟨_, (bo, pr), rfl, ⟨by simp [fW, hwo], by simp [gW, hwo], by simp [gW, hwo]⟩, xB_end hP hK hN hD ht hW⟩, hS.F ht⟩) hS.2.2 dX1_bound_13
  · skip
    refine Met.ofW (cc := cX1_bound) (maxL := 5) (ret := (some .int)) (by decide) rfl ?_
    intro p e s m args below meth c s₁ B hml hv
    obtain ⟨rfl, hsz, ⟨hP, hK, hN⟩, hDt⟩ := hv
    have hx := B.exec
    have hb := B.bytes
    have hr := B.returns
    have hts := atoms_spec (ws := wsX1_bound) B.pre
    have hown : s.vm.findClass RX1 = some m.cls := findClass_of_methodNamed B.named
    have hlocks := B.notSynchronized
    have hm1 : (.constantLong RX1 115 (200) : Cond) ∈ wsX1_bound := by decide +kernel
    have hm2 : (.initialized RX0 : Cond) ∈ wsX1_bound := by decide +kernel
    have hm3 : (.instanceMethod yX0_press : Cond) ∈ wsX1_bound := by decide +kernel
    have hm4 : (.selects RX0 yX0_press yX0_press : Cond) ∈ wsX1_bound := by decide +kernel
    subst hsz
    have hD := hDt.self (sz := s.heap.size)
    generalize hAe : va_A (cw h0 hw cW n q g sp lo ph pr bo mo rf hd gr st nx) s.heap.size = A at hD ⊢
    have hA : ∀ q : Nat, s.heap.size ≤ q → A q := fun q h => by rw [← hAe]; exact Or.inr h
    have hS : va_S A s.heap s.heap [] := va_S.rf
    have hl := lv_entry ([.ref h0, .int (nI (i + 1)), .long v]) (n := 5) (Nat.le_of_ble_eq_true rfl)
    rw [lg_entry_eq]
    generalize (lg_sl ([.ref h0, .int (nI (i + 1)), .long v]) ++ List.replicate (5 - (lg_sl ([.ref h0, .int (nI (i + 1)), .long v])).length) Slot.unset).toArray = ls at hl ⊢
    replace hl : lv_has ls 5 [(0, .ref h0), (1, .int (nI (i + 1))), (2, .long v)] := hl
    refine lv_aload_n hx hb dX1_bound_0 rfl (lv_at hl 0 rfl) ?_
    refine lv_iload_n hx hb dX1_bound_1 rfl (lv_at hl 1 rfl) ?_
    refine va_csq (W.runV (As := [.int (nI (i + 1))]) (rest := []) ⟨hx, hb, hml, hown, hts⟩ (c1_find_in l D cW h0 hw n q g sp lo ph pr bo mo rf hd gr st nx hn hg i hi) (cwV 1 hts gX1_bound_X1_find rfl rfl rfl (by decide +kernel) ⟨Nat.le_of_ble_eq_true rfl, Nat.le_of_ble_eq_true rfl⟩) ⟨xP_blind, va_recv hK hP (ci := 1) (q0 := 0) rfl rfl, xP_at hP hK hN⟩ rfl rfl hl.1 rfl (lv_room (Nat.le_of_ble_eq_true rfl)) dX1_bound_2 ⟨Nat.le_of_ble_eq_true rfl, Nat.le_of_ble_eq_true rfl⟩) (fun r_1 hr_2 => ?_)
    subst hr_2
    refine W.eq (g2 := F0 m 5 ls [.ref (q i)]) rfl ?_
    refine lv_astore (lv' := [(4, .ref (q i)), (0, .ref h0), (1, .int (nI (i + 1))), (2, .long v)]) hx hb dX1_bound_5 hl (by decide) rfl (fun ls hl => ?_)
    refine lv_aload hx hb dX1_bound_7 (lv_at hl 0 rfl) ?_
    refine lv_ifnonnull (tgt := 14) hx hb dX1_bound_9 (by decide) ?_
    refine lv_lload_n hx hb dX1_bound_14 rfl (lv_at hl 3 rfl) ?_
    refine lv_lconst (v := 0) hx hb dX1_bound_15 (by decide) ?_
    refine lv_ldc2 hx hb hown (hts _ hm1) dX1_bound_16 ?_
    refine vp_callSi (W.runS (As := [.long v, .long 0, .long 200]) (rest := []) ⟨hx, hb, hml, hown, hts⟩ (c1_within l v 0 200) (va_cwS 3 hts gX1_bound_X1_isWithin rfl rfl rfl (by decide +kernel) ⟨Nat.le_of_ble_eq_true rfl, Nat.le_of_ble_eq_true rfl⟩) ⟨fun _ _ _ _ h => h, fun _ _ _ => ⟨rfl, trivial⟩⟩ rfl rfl hl.1 rfl (lv_room (Nat.le_of_ble_eq_true rfl)) dX1_bound_19 ⟨Nat.le_of_ble_eq_true rfl, Nat.le_of_ble_eq_true rfl⟩) (fun r_3 hr_4 => ?_)
    rcases hr_4 with ⟨rfl, k_5, k_6⟩ | ⟨rfl, k_5⟩
    · skip
      refine lv_if_ne (tgt := 28) hx hb dX1_bound_22 (by decide) (fun c_7 => ?_) (fun c_7 => absurd c_7 (by decide))
      refine lv_aload hx hb dX1_bound_28 (lv_at hl 0 rfl) ?_
      refine lv_lload_n hx hb dX1_bound_30 rfl (lv_at hl 3 rfl) ?_
      refine va_putN (D := D) (ci := 0) (v := .long v) (ty := .long) (C := RX0) (T := TX0) (N := 6) hx hb hts (by decide +kernel) tyX0 tyX0_ok nmX0 hown hK hP hD hS (i + 2) (cw_at hi) rfl 4 (by decide) (va_Nw.use rfl hN.2.2.2.2.1) (fun _ h9 => h9) rfl (by decide +kernel) rfl rfl (Nat.le_of_ble_eq_true rfl) dX1_bound_31 (fun H locs hP hD hS => ?_)
      replace hP : va_P D vwCl (cw h0 hw cW n q g sp lo ph pr (va_up bo (i + 1) v) mo rf hd gr st nx) H := w_P (cw_bo v) hP
      replace hD : va_D A (cw h0 hw cW n q g sp lo ph pr (va_up bo (i + 1) v) mo rf hd gr st nx) := w_D (cw_bo v) hD
      refine lv_aload hx hb dX1_bound_34 (lv_at hl 0 rfl) ?_
      refine lv_aload hx hb dX1_bound_36 (lv_at hl 0 rfl) ?_
      refine va_getN (D := D) (ci := 0) (v := .long (pr (i + 1))) (C := RX0) (T := TX0) (N := 6) hx hb hts (by decide +kernel) hown hK hP (i + 2) (cw_at hi) rfl 3 (by decide) (va_Nw.use rfl hN.2.2.2.1) (fun _ h9 => h9) rfl dX1_bound_38 ?_
      have hF := xF hD hS hA
      refine va_callv (va_runVN (As := [.long (pr (i + 1))]) (rest := []) ⟨hx, hb, hml, hown, hts⟩ (c0_press l D cW h0 hw n q g sp lo ph pr (va_up bo (i + 1) v) mo rf hd gr st nx hn hg i hi (pr (i + 1)) _) ⟨va_cnB 1 hts gX1_bound_X0_press_n86 rfl rfl rfl hN.2.2.2.2.2.2.2.2.2 (hts _ hm2) (by decide +kernel) ⟨Nat.le_of_ble_eq_true rfl, Nat.le_of_ble_eq_true rfl⟩, (hts _ hm3), (hts _ hm4)⟩ ⟨xW_blind, va_recv hK hP (ci := 0) (q0 := (i + 2)) rfl (cw_at hi), xW_at hP hK hN hD⟩ rfl rfl hl.1 rfl (lv_room (Nat.le_of_ble_eq_true rfl)) dX1_bound_41 ⟨Nat.le_of_ble_eq_true rfl, Nat.le_of_ble_eq_true rfl⟩) hS (fun q _ h => hF q h) hF (fun u t H locs ht hvm hpo hB hz1 hk1 hS => ?_)
      obtain ⟨hP, hD⟩ := xB_use hB ht hF
      rw [hpo] at hP hD
      clear hB hk1 hz1 ht hvm
      replace hP : va_P D vwCl (cw h0 hw cW n q g sp lo ph (va_up pr (i + 1) (cMin (pr (i + 1)) ((va_up bo (i + 1) v) (i + 1)))) (va_up bo (i + 1) v) mo rf hd gr st nx) H := hP
      replace hD : va_D A (cw h0 hw cW n q g sp lo ph (va_up pr (i + 1) (cMin (pr (i + 1)) ((va_up bo (i + 1) v) (i + 1)))) (va_up bo (i + 1) v) mo rf hd gr st nx) := hD
      refine lv_iconst (v := 1) hx hb dX1_bound_44 (by decide) ?_
      exact W.iret (v := 1) hx hb hr (fun t ht hW => ⟨⟨_, (va_up bo (i + 1) v, va_up pr (i + 1) (cMin (pr (i + 1)) ((va_up bo (i + 1) v) (i + 1)))), rfl, ⟨by simp [fW, wOut_in hn hi, wIx hn hi, k_5, k_6], by simp [gW, wOut_in hn hi, wIx hn hi, k_5, k_6], by simp [gW, va_up_self, wOut_in hn hi, wIx hn hi, k_5, k_6]⟩, xB_end hP hK hN hD ht hW⟩, hS.F ht⟩) hS.2.2 dX1_bound_45
    · skip
      refine lv_if_ne (tgt := 28) hx hb dX1_bound_22 (by decide) (fun c_8 => absurd (by decide) c_8) (fun c_8 => ?_)
      refine lv_bipush (v := (-2)) hx hb dX1_bound_25 (by decide) ?_
      exact W.iret (v := (-2)) hx hb hr (fun t ht hW => ⟨⟨_, (bo, pr), rfl, ⟨by simp [fW, wOut_in hn hi, wIx hn hi, k_5], by simp [gW, wOut_in hn hi, wIx hn hi, k_5], by simp [gW, va_up_self, wOut_in hn hi, wIx hn hi, k_5]⟩, xB_end hP hK hN hD ht hW⟩, hS.F ht⟩) hS.2.2 dX1_bound_27
set_option maxHeartbeats 4000000 in
set_option maxRecDepth 100000 in
/-- lost -/
theorem c1_lost (l : Launch) (D : va_G) (cW : ClassId) (h0 hw n : Nat) (q : Nat → Nat) (g : Nat → Option Nat) (sp : Nat → Int64) (lo ph : Nat → Int32) (pr bo : Nat → Int64) (mo : Nat → UInt64) (rf : Int64) (hd gr st nx : Int32) (hn : n ≤ 8) (hg : ∀ i, i < n → g i = some (q i)) (w on : Int32) (hon : on = 0 ∨ on = 1) (sz : Nat) : Met l yX1_lost wsX1_lost ({ frames := 1, cells := 0, slots := 0, locals := 25 }) (va_Pc [.ref h0, .int w, .int on] (xW D [(cW, .object RX0)] (cw h0 hw cW n q g sp lo ph pr bo mo rf hd gr st nx) sz)) (va_Qi (fun (r : Int32) (u : (Nat → Int32)) => r = (if wOut n w then -1 else cnt (va_up lo w.toNatClampNeg on) n) ∧ u = if wOut n w then lo else va_up lo w.toNatClampNeg on) (fun (u : (Nat → Int32)) => xB D [(cW, .object RX0)] (va_A (cw h0 hw cW n q g sp lo ph pr bo mo rf hd gr st nx) sz) (cw h0 hw cW n q g sp u ph pr bo mo rf hd gr st nx)) (va_A (cw h0 hw cW n q g sp lo ph pr bo mo rf hd gr st nx) sz)) 0 0 (va_A (cw h0 hw cW n q g sp lo ph pr bo mo rf hd gr st nx) sz) := by
  rcases w_io n w hn with hwo | ⟨i, hi, rfl⟩
  · skip
    refine Met.ofW (cc := cX1_lost) (maxL := 4) (ret := (some .int)) (by decide) rfl ?_
    intro p e s m args below meth c s₁ B hml hv
    obtain ⟨rfl, hsz, ⟨hP, hK, hN⟩, hDt⟩ := hv
    have hx := B.exec
    have hb := B.bytes
    have hr := B.returns
    have hts := atoms_spec (ws := wsX1_lost) B.pre
    have hown : s.vm.findClass RX1 = some m.cls := findClass_of_methodNamed B.named
    have hlocks := B.notSynchronized
    subst hsz
    have hD := hDt.self (sz := s.heap.size)
    generalize hAe : va_A (cw h0 hw cW n q g sp lo ph pr bo mo rf hd gr st nx) s.heap.size = A at hD ⊢
    have hA : ∀ q : Nat, s.heap.size ≤ q → A q := fun q h => by rw [← hAe]; exact Or.inr h
    have hS : va_S A s.heap s.heap [] := va_S.rf
    have hl := lv_entry ([.ref h0, .int w, .int on]) (n := 4) (Nat.le_of_ble_eq_true rfl)
    rw [lg_entry_eq]
    generalize (lg_sl ([.ref h0, .int w, .int on]) ++ List.replicate (4 - (lg_sl ([.ref h0, .int w, .int on])).length) Slot.unset).toArray = ls at hl ⊢
    replace hl : lv_has ls 4 [(0, .ref h0), (1, .int w), (2, .int on)] := hl
    refine lv_aload_n hx hb dX1_lost_0 rfl (lv_at hl 0 rfl) ?_
    refine lv_iload_n hx hb dX1_lost_1 rfl (lv_at hl 1 rfl) ?_
    refine va_csq (W.runV (As := [.int w]) (rest := []) ⟨hx, hb, hml, hown, hts⟩ (c1_find_out l D cW h0 hw n q g sp lo ph pr bo mo rf hd gr st nx hn hg w hwo) (cwV 1 hts gX1_lost_X1_find rfl rfl rfl (by decide +kernel) ⟨Nat.le_of_ble_eq_true rfl, Nat.le_of_ble_eq_true rfl⟩) ⟨xP_blind, va_recv hK hP (ci := 1) (q0 := 0) rfl rfl, xP_at hP hK hN⟩ rfl rfl hl.1 rfl (lv_room (Nat.le_of_ble_eq_true rfl)) dX1_lost_2 ⟨Nat.le_of_ble_eq_true rfl, Nat.le_of_ble_eq_true rfl⟩) (fun r_1 hr_2 => ?_)
    subst hr_2
    refine W.eq (g2 := F0 m 5 ls [.null]) rfl ?_
    refine lv_astore_nN (lv' := [(3, .null), (0, .ref h0), (1, .int w), (2, .int on)]) hx hb dX1_lost_5 rfl hl (by decide) rfl (fun ls hl => ?_)
    refine lv_aload_nN hx hb dX1_lost_6 rfl (lv_at hl 0 rfl) ?_
    refine lv_ifnonnullN hx hb dX1_lost_7 ?_
    refine lv_iconst (v := (-1)) hx hb dX1_lost_10 (by decide) ?_
    exact W.iret (v := (-1)) hx hb hr (fun t ht hW => ⟨⟨_, (lo), rfl, ⟨by simp [hwo], by simp [hwo]⟩, xB_end hP hK hN hD ht hW⟩, hS.F ht⟩) hS.2.2 dX1_lost_11
  · skip
    refine Met.ofW (cc := cX1_lost) (maxL := 4) (ret := (some .int)) (by decide) rfl ?_
    intro p e s m args below meth c s₁ B hml hv
    obtain ⟨rfl, hsz, ⟨hP, hK, hN⟩, hDt⟩ := hv
    have hx := B.exec
    have hb := B.bytes
    have hr := B.returns
    have hts := atoms_spec (ws := wsX1_lost) B.pre
    have hown : s.vm.findClass RX1 = some m.cls := findClass_of_methodNamed B.named
    have hlocks := B.notSynchronized
    subst hsz
    have hD := hDt.self (sz := s.heap.size)
    generalize hAe : va_A (cw h0 hw cW n q g sp lo ph pr bo mo rf hd gr st nx) s.heap.size = A at hD ⊢
    have hA : ∀ q : Nat, s.heap.size ≤ q → A q := fun q h => by rw [← hAe]; exact Or.inr h
    have hS : va_S A s.heap s.heap [] := va_S.rf
    have hl := lv_entry ([.ref h0, .int (nI (i + 1)), .int on]) (n := 4) (Nat.le_of_ble_eq_true rfl)
    rw [lg_entry_eq]
    generalize (lg_sl ([.ref h0, .int (nI (i + 1)), .int on]) ++ List.replicate (4 - (lg_sl ([.ref h0, .int (nI (i + 1)), .int on])).length) Slot.unset).toArray = ls at hl ⊢
    replace hl : lv_has ls 4 [(0, .ref h0), (1, .int (nI (i + 1))), (2, .int on)] := hl
    refine lv_aload_n hx hb dX1_lost_0 rfl (lv_at hl 0 rfl) ?_
    refine lv_iload_n hx hb dX1_lost_1 rfl (lv_at hl 1 rfl) ?_
    refine va_csq (W.runV (As := [.int (nI (i + 1))]) (rest := []) ⟨hx, hb, hml, hown, hts⟩ (c1_find_in l D cW h0 hw n q g sp lo ph pr bo mo rf hd gr st nx hn hg i hi) (cwV 1 hts gX1_lost_X1_find rfl rfl rfl (by decide +kernel) ⟨Nat.le_of_ble_eq_true rfl, Nat.le_of_ble_eq_true rfl⟩) ⟨xP_blind, va_recv hK hP (ci := 1) (q0 := 0) rfl rfl, xP_at hP hK hN⟩ rfl rfl hl.1 rfl (lv_room (Nat.le_of_ble_eq_true rfl)) dX1_lost_2 ⟨Nat.le_of_ble_eq_true rfl, Nat.le_of_ble_eq_true rfl⟩) (fun r_1 hr_2 => ?_)
    subst hr_2
    refine W.eq (g2 := F0 m 5 ls [.ref (q i)]) rfl ?_
    refine lv_astore_n (lv' := [(3, .ref (q i)), (0, .ref h0), (1, .int (nI (i + 1))), (2, .int on)]) hx hb dX1_lost_5 rfl hl (by decide) rfl (fun ls hl => ?_)
    refine lv_aload_n hx hb dX1_lost_6 rfl (lv_at hl 0 rfl) ?_
    refine lv_ifnonnull (tgt := 12) hx hb dX1_lost_7 (by decide) ?_
    refine lv_aload_n hx hb dX1_lost_12 rfl (lv_at hl 0 rfl) ?_
    refine lv_iload_n hx hb dX1_lost_13 rfl (lv_at hl 3 rfl) ?_
    refine va_putN (D := D) (ci := 0) (v := .int on) (ty := .boolean) (C := RX0) (T := TX0) (N := 6) hx hb hts (by decide +kernel) tyX0 tyX0_ok nmX0 hown hK hP hD hS (i + 2) (cw_at hi) rfl 1 (by decide) (va_Nw.use rfl hN.2.1) (fun _ h9 => h9) rfl (by decide +kernel) (bool_nar hon) (bool_fit hon) (Nat.le_of_ble_eq_true rfl) dX1_lost_14 (fun H locs hP hD hS => ?_)
    replace hP : va_P D vwCl (cw h0 hw cW n q g sp (va_up lo (i + 1) on) ph pr bo mo rf hd gr st nx) H := w_P (cw_lo on) hP
    replace hD : va_D A (cw h0 hw cW n q g sp (va_up lo (i + 1) on) ph pr bo mo rf hd gr st nx) := w_D (cw_lo on) hD
    refine lv_aload_n hx hb dX1_lost_17 rfl (lv_at hl 1 rfl) ?_
    refine vp_callSi (W.runV (As := []) (rest := []) ⟨hx, hb, hml, hown, hts⟩ (c1_countLost l D cW h0 hw n q g sp (va_up lo (i + 1) on) ph pr bo mo rf hd gr st nx hn hg) (cwV 0 hts gX1_lost_X1_countLost rfl rfl rfl (by decide +kernel) ⟨Nat.le_of_ble_eq_true rfl, Nat.le_of_ble_eq_true rfl⟩) ⟨xP_blind, va_recv hK hP (ci := 1) (q0 := 0) rfl rfl, xP_at hP hK hN⟩ rfl rfl hl.1 rfl (lv_room (Nat.le_of_ble_eq_true rfl)) dX1_lost_18 ⟨Nat.le_of_ble_eq_true rfl, Nat.le_of_ble_eq_true rfl⟩) (fun r_3 hr_4 => ?_)
    subst hr_4
    exact W.iret (v := (cnt (va_up lo (i + 1) on) n)) hx hb hr (fun t ht hW => ⟨⟨_, (va_up lo (i + 1) on), rfl, ⟨by simp [wOut_in hn hi, wIx hn hi], by simp [wOut_in hn hi, wIx hn hi]⟩, xB_end hP hK hN hD ht hW⟩, hS.F ht⟩) hS.2.2 dX1_lost_21
set_option maxHeartbeats 4000000 in
set_option maxRecDepth 100000 in
/-- hold -/
theorem c1_hold (l : Launch) (D : va_G) (cW : ClassId) (h0 hw n : Nat) (q : Nat → Nat) (g : Nat → Option Nat) (sp : Nat → Int64) (lo ph : Nat → Int32) (pr bo : Nat → Int64) (mo : Nat → UInt64) (rf : Int64) (hd gr st nx : Int32) (hn : n ≤ 8) (hg : ∀ i, i < n → g i = some (q i)) (on : Int32) (sz : Nat) : Met l yX1_hold wsX1_hold ({ frames := 0, cells := 0, slots := 0, locals := 0 }) (va_Pc [.ref h0, .int on] (xW D [(cW, .object RX0)] (cw h0 hw cW n q g sp lo ph pr bo mo rf hd gr st nx) sz)) (va_Qi (fun (r : Int32) (u : (Int32)) => r = sHold on hd rf ∧ u = sHold on hd rf) (fun (u : (Int32)) => xB D [(cW, .object RX0)] (va_A (cw h0 hw cW n q g sp lo ph pr bo mo rf hd gr st nx) sz) (cw h0 hw cW n q g sp lo ph pr bo mo rf u gr st nx)) (va_A (cw h0 hw cW n q g sp lo ph pr bo mo rf hd gr st nx) sz)) 0 0 (va_A (cw h0 hw cW n q g sp lo ph pr bo mo rf hd gr st nx) sz) := by
  refine Met.ofW (cc := cX1_hold) (maxL := 2) (ret := (some .int)) (by decide) rfl ?_
  intro p e s m args below meth c s₁ B hml hv
  obtain ⟨rfl, hsz, ⟨hP, hK, hN⟩, hDt⟩ := hv
  have hx := B.exec
  have hb := B.bytes
  have hr := B.returns
  have hts := atoms_spec (ws := wsX1_hold) B.pre
  have hown : s.vm.findClass RX1 = some m.cls := findClass_of_methodNamed B.named
  have hlocks := B.notSynchronized
  have hm1 : (.fieldLink RX1 50 "GearBrake" "held" "Z" : Cond) ∈ wsX1_hold := by decide +kernel
  have hm2 : (.fieldLink RX1 47 "GearBrake" "reference" "J" : Cond) ∈ wsX1_hold := by decide +kernel
  subst hsz
  have hD := hDt.self (sz := s.heap.size)
  generalize hAe : va_A (cw h0 hw cW n q g sp lo ph pr bo mo rf hd gr st nx) s.heap.size = A at hD ⊢
  have hA : ∀ q : Nat, s.heap.size ≤ q → A q := fun q h => by rw [← hAe]; exact Or.inr h
  have hS : va_S A s.heap s.heap [] := va_S.rf
  have hl := lv_entry ([.ref h0, .int on]) (n := 2) (Nat.le_of_ble_eq_true rfl)
  rw [lg_entry_eq]
  generalize (lg_sl ([.ref h0, .int on]) ++ List.replicate (2 - (lg_sl ([.ref h0, .int on])).length) Slot.unset).toArray = ls at hl ⊢
  replace hl : lv_has ls 2 [(0, .ref h0), (1, .int on)] := hl
  refine lv_aload_n hx hb dX1_hold_0 rfl (lv_at hl 0 rfl) ?_
  refine lv_iload_n hx hb dX1_hold_1 rfl (lv_at hl 1 rfl) ?_
  refine lv_if_eq (tgt := 25) hx hb dX1_hold_2 (by decide) (fun c_1 => ?_) (fun c_1 => ?_)
  · skip
    refine lv_iconst (v := 0) hx hb dX1_hold_25 (by decide) ?_
    refine va_put (D := D) (ci := 1) (v := .int 0) (ty := .boolean) (C := RX1) (T := TX1) (N := 6) hx hb hts (by decide +kernel) tyX1 tyX1_ok nmX1 hown hK hP hD hS 0 rfl rfl 2 (by decide) (hts _ hm1) (fun _ h9 => h9) rfl (by decide +kernel) rfl rfl (Nat.le_of_ble_eq_true rfl) dX1_hold_26 (fun H locs hP hD hS => ?_)
    replace hP : va_P D vwCl (cw h0 hw cW n q g sp lo ph pr bo mo rf 0 gr st nx) H := hP
    replace hD : va_D A (cw h0 hw cW n q g sp lo ph pr bo mo rf 0 gr st nx) := hD
    refine lv_aload_n hx hb dX1_hold_29 rfl (lv_at hl 0 rfl) ?_
    refine va_get (D := D) (ci := 1) (v := .int 0) (C := RX1) (T := TX1) (N := 6) hx hb hts (by decide +kernel) hown hK hP 0 rfl rfl 2 (by decide) (hts _ hm1) (fun _ h9 => h9) rfl dX1_hold_30 ?_
    refine lv_if_eq (tgt := 40) hx hb dX1_hold_33 (by decide) (fun c_2 => ?_) (fun c_2 => absurd (by decide) c_2)
    refine lv_iconst (v := 0) hx hb dX1_hold_40 (by decide) ?_
    exact W.iret (v := 0) hx hb hr (fun t ht hW => ⟨⟨_, (0), rfl, ⟨by simp [sHold, c_1], by simp [sHold, c_1]⟩, xB_end hP hK hN hD ht hW⟩, hS.F ht⟩) hS.2.2 dX1_hold_41
  · skip
    refine lv_aload_n hx hb dX1_hold_5 rfl (lv_at hl 0 rfl) ?_
    refine va_get (D := D) (ci := 1) (v := .int hd) (C := RX1) (T := TX1) (N := 6) hx hb hts (by decide +kernel) hown hK hP 0 rfl rfl 2 (by decide) (hts _ hm1) (fun _ h9 => h9) rfl dX1_hold_6 ?_
    refine lv_if_ne (tgt := 21) hx hb dX1_hold_9 (by decide) (fun c_3 => ?_) (fun c_3 => ?_)
    · skip
      refine lv_iconst (v := 1) hx hb dX1_hold_21 (by decide) ?_
      refine lv_goto (tgt := 26) hx hb dX1_hold_22 (by decide) ?_
      refine va_put (D := D) (ci := 1) (v := .int 1) (ty := .boolean) (C := RX1) (T := TX1) (N := 6) hx hb hts (by decide +kernel) tyX1 tyX1_ok nmX1 hown hK hP hD hS 0 rfl rfl 2 (by decide) (hts _ hm1) (fun _ h9 => h9) rfl (by decide +kernel) rfl rfl (Nat.le_of_ble_eq_true rfl) dX1_hold_26 (fun H locs hP hD hS => ?_)
      replace hP : va_P D vwCl (cw h0 hw cW n q g sp lo ph pr bo mo rf 1 gr st nx) H := hP
      replace hD : va_D A (cw h0 hw cW n q g sp lo ph pr bo mo rf 1 gr st nx) := hD
      refine lv_aload_n hx hb dX1_hold_29 rfl (lv_at hl 0 rfl) ?_
      refine va_get (D := D) (ci := 1) (v := .int 1) (C := RX1) (T := TX1) (N := 6) hx hb hts (by decide +kernel) hown hK hP 0 rfl rfl 2 (by decide) (hts _ hm1) (fun _ h9 => h9) rfl dX1_hold_30 ?_
      refine lv_if_eq (tgt := 40) hx hb dX1_hold_33 (by decide) (fun c_4 => absurd c_4 (by decide)) (fun c_4 => ?_)
      refine lv_iconst (v := 1) hx hb dX1_hold_36 (by decide) ?_
      refine lv_goto (tgt := 41) hx hb dX1_hold_37 (by decide) ?_
      exact W.iret (v := 1) hx hb hr (fun t ht hW => ⟨⟨_, (1), rfl, ⟨by simp [sHold, c_1, c_3], by simp [sHold, c_1, c_3]⟩, xB_end hP hK hN hD ht hW⟩, hS.F ht⟩) hS.2.2 dX1_hold_41
    · skip
      refine lv_aload_n hx hb dX1_hold_12 rfl (lv_at hl 0 rfl) ?_
      refine va_get (D := D) (ci := 1) (v := .long rf) (C := RX1) (T := TX1) (N := 6) hx hb hts (by decide +kernel) hown hK hP 0 rfl rfl 1 (by decide) (hts _ hm2) (fun _ h9 => h9) rfl dX1_hold_13 ?_
      refine lv_lconst (v := 0) hx hb dX1_hold_16 (by decide) ?_
      refine W.lcmp hx hb dX1_hold_17 ?_
      refine lv_if_ne (tgt := 25) hx hb dX1_hold_18 (by decide) (fun c_5 => ?_) (fun c_5 => ?_)
      · skip
        replace c_5 := mt (lg_cmp_eq _ _).mpr c_5
        refine lv_iconst (v := 0) hx hb dX1_hold_25 (by decide) ?_
        refine va_put (D := D) (ci := 1) (v := .int 0) (ty := .boolean) (C := RX1) (T := TX1) (N := 6) hx hb hts (by decide +kernel) tyX1 tyX1_ok nmX1 hown hK hP hD hS 0 rfl rfl 2 (by decide) (hts _ hm1) (fun _ h9 => h9) rfl (by decide +kernel) rfl rfl (Nat.le_of_ble_eq_true rfl) dX1_hold_26 (fun H locs hP hD hS => ?_)
        replace hP : va_P D vwCl (cw h0 hw cW n q g sp lo ph pr bo mo rf 0 gr st nx) H := hP
        replace hD : va_D A (cw h0 hw cW n q g sp lo ph pr bo mo rf 0 gr st nx) := hD
        refine lv_aload_n hx hb dX1_hold_29 rfl (lv_at hl 0 rfl) ?_
        refine va_get (D := D) (ci := 1) (v := .int 0) (C := RX1) (T := TX1) (N := 6) hx hb hts (by decide +kernel) hown hK hP 0 rfl rfl 2 (by decide) (hts _ hm1) (fun _ h9 => h9) rfl dX1_hold_30 ?_
        refine lv_if_eq (tgt := 40) hx hb dX1_hold_33 (by decide) (fun c_6 => ?_) (fun c_6 => absurd (by decide) c_6)
        refine lv_iconst (v := 0) hx hb dX1_hold_40 (by decide) ?_
        exact W.iret (v := 0) hx hb hr (fun t ht hW => ⟨⟨_, (0), rfl, ⟨by simp [sHold, c_1, c_3, c_5], by simp [sHold, c_1, c_3, c_5]⟩, xB_end hP hK hN hD ht hW⟩, hS.F ht⟩) hS.2.2 dX1_hold_41
      · skip
        replace c_5 := (lg_cmp_eq _ _).mp c_5
        refine lv_iconst (v := 1) hx hb dX1_hold_21 (by decide) ?_
        refine lv_goto (tgt := 26) hx hb dX1_hold_22 (by decide) ?_
        refine va_put (D := D) (ci := 1) (v := .int 1) (ty := .boolean) (C := RX1) (T := TX1) (N := 6) hx hb hts (by decide +kernel) tyX1 tyX1_ok nmX1 hown hK hP hD hS 0 rfl rfl 2 (by decide) (hts _ hm1) (fun _ h9 => h9) rfl (by decide +kernel) rfl rfl (Nat.le_of_ble_eq_true rfl) dX1_hold_26 (fun H locs hP hD hS => ?_)
        replace hP : va_P D vwCl (cw h0 hw cW n q g sp lo ph pr bo mo rf 1 gr st nx) H := hP
        replace hD : va_D A (cw h0 hw cW n q g sp lo ph pr bo mo rf 1 gr st nx) := hD
        refine lv_aload_n hx hb dX1_hold_29 rfl (lv_at hl 0 rfl) ?_
        refine va_get (D := D) (ci := 1) (v := .int 1) (C := RX1) (T := TX1) (N := 6) hx hb hts (by decide +kernel) hown hK hP 0 rfl rfl 2 (by decide) (hts _ hm1) (fun _ h9 => h9) rfl dX1_hold_30 ?_
        refine lv_if_eq (tgt := 40) hx hb dX1_hold_33 (by decide) (fun c_7 => absurd c_7 (by decide)) (fun c_7 => ?_)
        refine lv_iconst (v := 1) hx hb dX1_hold_36 (by decide) ?_
        refine lv_goto (tgt := 41) hx hb dX1_hold_37 (by decide) ?_
        exact W.iret (v := 1) hx hb hr (fun t ht hW => ⟨⟨_, (1), rfl, ⟨by simp [sHold, c_1, c_3, c_5], by simp [sHold, c_1, c_3, c_5]⟩, xB_end hP hK hN hD ht hW⟩, hS.F ht⟩) hS.2.2 dX1_hold_41
set_option maxHeartbeats 4000000 in
set_option maxRecDepth 100000 in
/-- wish -/
theorem c1_wish (l : Launch) (D : va_G) (cW : ClassId) (h0 hw n : Nat) (q : Nat → Nat) (g : Nat → Option Nat) (sp : Nat → Int64) (lo ph : Nat → Int32) (pr bo : Nat → Int64) (mo : Nat → UInt64) (rf : Int64) (hd gr st nx : Int32) (hn : n ≤ 8) (hg : ∀ i, i < n → g i = some (q i)) (gw : Int32) (sz : Nat) : Met l yX1_wish wsX1_wish ({ frames := 1, cells := 0, slots := 0, locals := 25 }) (va_Pc [.ref h0, .int gw] (xW D [(cW, .object RX0)] (cw h0 hw cW n q g sp lo ph pr bo mo rf hd gr st nx) sz)) (va_Qi (fun (r : Int32) (u : (Int32) × (Int32)) => r = sWish gw rf ∧ u.1 = (if sWish gw rf = 1 then gw else gr) ∧ u.2 = (if sWish gw rf = 1 then st + 10 else nx)) (fun (u : (Int32) × (Int32)) => xB D [(cW, .object RX0)] (va_A (cw h0 hw cW n q g sp lo ph pr bo mo rf hd gr st nx) sz) (cw h0 hw cW n q g sp lo ph pr bo mo rf hd u.1 st u.2)) (va_A (cw h0 hw cW n q g sp lo ph pr bo mo rf hd gr st nx) sz)) 0 0 (va_A (cw h0 hw cW n q g sp lo ph pr bo mo rf hd gr st nx) sz) := by
  refine Met.ofW (cc := cX1_wish) (maxL := 6) (ret := (some .int)) (by decide) rfl ?_
  intro p e s m args below meth c s₁ B hml hv
  obtain ⟨rfl, hsz, ⟨hP, hK, hN⟩, hDt⟩ := hv
  have hx := B.exec
  have hb := B.bytes
  have hr := B.returns
  have hts := atoms_spec (ws := wsX1_wish) B.pre
  have hown : s.vm.findClass RX1 = some m.cls := findClass_of_methodNamed B.named
  have hlocks := B.notSynchronized
  have hm1 : (.constantLong RX1 103 (6) : Cond) ∈ wsX1_wish := by decide +kernel
  have hm2 : (.constantLong RX1 61 (20) : Cond) ∈ wsX1_wish := by decide +kernel
  have hm3 : (.constantLong RX1 105 (10) : Cond) ∈ wsX1_wish := by decide +kernel
  have hm4 : (.constantLong RX1 38 (30) : Cond) ∈ wsX1_wish := by decide +kernel
  have hm5 : (.fieldLink RX1 47 "GearBrake" "reference" "J" : Cond) ∈ wsX1_wish := by decide +kernel
  subst hsz
  have hD := hDt.self (sz := s.heap.size)
  generalize hAe : va_A (cw h0 hw cW n q g sp lo ph pr bo mo rf hd gr st nx) s.heap.size = A at hD ⊢
  have hA : ∀ q : Nat, s.heap.size ≤ q → A q := fun q h => by rw [← hAe]; exact Or.inr h
  have hS : va_S A s.heap s.heap [] := va_S.rf
  have hl := lv_entry ([.ref h0, .int gw]) (n := 6) (Nat.le_of_ble_eq_true rfl)
  rw [lg_entry_eq]
  generalize (lg_sl ([.ref h0, .int gw]) ++ List.replicate (6 - (lg_sl ([.ref h0, .int gw])).length) Slot.unset).toArray = ls at hl ⊢
  replace hl : lv_has ls 6 [(0, .ref h0), (1, .int gw)] := hl
  refine lv_iload_n hx hb dX1_wish_0 rfl (lv_at hl 1 rfl) ?_
  refine lv_i2l hx hb dX1_wish_1 rfl ?_
  refine lv_lconst (v := 1) hx hb dX1_wish_2 (by decide) ?_
  refine lv_ldc2 hx hb hown (hts _ hm1) dX1_wish_3 ?_
  refine vp_callSi (W.runS (As := [.long gw.toInt64, .long 1, .long 6]) (rest := []) ⟨hx, hb, hml, hown, hts⟩ (c1_within l gw.toInt64 1 6) (va_cwS 3 hts gX1_wish_X1_isWithin rfl rfl rfl (by decide +kernel) ⟨Nat.le_of_ble_eq_true rfl, Nat.le_of_ble_eq_true rfl⟩) ⟨fun _ _ _ _ h => h, fun _ _ _ => ⟨rfl, trivial⟩⟩ rfl rfl hl.1 rfl (lv_room (Nat.le_of_ble_eq_true rfl)) dX1_wish_6 ⟨Nat.le_of_ble_eq_true rfl, Nat.le_of_ble_eq_true rfl⟩) (fun r_1 hr_2 => ?_)
  rcases hr_2 with ⟨rfl, k_3, k_4⟩ | ⟨rfl, k_3⟩
  · skip
    rw [i64_lt1] at k_3; rw [i64_6lt] at k_4
    refine lv_if_ne (tgt := 15) hx hb dX1_wish_9 (by decide) (fun c_5 => ?_) (fun c_5 => absurd c_5 (by decide))
    refine lv_ldc2 hx hb hown (hts _ hm2) dX1_wish_15 ?_
    refine lv_iload_n hx hb dX1_wish_18 rfl (lv_at hl 1 rfl) ?_
    refine lv_iconst (v := 1) hx hb dX1_wish_19 (by decide) ?_
    refine lv_isub hx hb dX1_wish_20 ?_
    refine lv_i2l hx hb dX1_wish_21 rfl ?_
    refine lv_lmul hx hb dX1_wish_22 ?_
    refine lv_ldc2 hx hb hown (hts _ hm3) dX1_wish_23 ?_
    refine lv_lsub hx hb dX1_wish_26 ?_
    refine lv_lstore_n (lv' := [(2, .long ((20 * ((gw - 1).toInt64)) - 10)), (0, .ref h0), (1, .int gw)]) hx hb dX1_wish_27 rfl hl (by decide) rfl (fun ls hl => ?_)
    refine lv_ldc2 hx hb hown (hts _ hm2) dX1_wish_28 ?_
    refine lv_iload_n hx hb dX1_wish_31 rfl (lv_at hl 2 rfl) ?_
    refine lv_i2l hx hb dX1_wish_32 rfl ?_
    refine lv_lmul hx hb dX1_wish_33 ?_
    refine lv_ldc2 hx hb hown (hts _ hm4) dX1_wish_34 ?_
    refine lv_ladd hx hb dX1_wish_37 ?_
    refine lv_lstore (lv' := [(4, .long ((20 * gw.toInt64) + 30)), (2, .long ((20 * ((gw - 1).toInt64)) - 10)), (0, .ref h0), (1, .int gw)]) hx hb dX1_wish_38 hl (by decide) rfl (fun ls hl => ?_)
    refine lv_aload_n hx hb dX1_wish_40 rfl (lv_at hl 2 rfl) ?_
    refine va_get (D := D) (ci := 1) (v := .long rf) (C := RX1) (T := TX1) (N := 6) hx hb hts (by decide +kernel) hown hK hP 0 rfl rfl 1 (by decide) (hts _ hm5) (fun _ h9 => h9) rfl dX1_wish_41 ?_
    refine lv_lload_n hx hb dX1_wish_44 rfl (lv_at hl 1 rfl) ?_
    refine lv_lload hx hb dX1_wish_45 (lv_at hl 0 rfl) ?_
    refine vp_callSi (W.runS (As := [.long rf, .long ((20 * ((gw - 1).toInt64)) - 10), .long ((20 * gw.toInt64) + 30)]) (rest := []) ⟨hx, hb, hml, hown, hts⟩ (c1_within l rf ((20 * ((gw - 1).toInt64)) - 10) ((20 * gw.toInt64) + 30)) (va_cwS 3 hts gX1_wish_X1_isWithin rfl rfl rfl (by decide +kernel) ⟨Nat.le_of_ble_eq_true rfl, Nat.le_of_ble_eq_true rfl⟩) ⟨fun _ _ _ _ h => h, fun _ _ _ => ⟨rfl, trivial⟩⟩ rfl rfl hl.1 rfl (lv_room (Nat.le_of_ble_eq_true rfl)) dX1_wish_47 ⟨Nat.le_of_ble_eq_true rfl, Nat.le_of_ble_eq_true rfl⟩) (fun r_6 hr_7 => ?_)
    rcases hr_7 with ⟨rfl, k_8, k_9⟩ | ⟨rfl, k_8⟩
    · skip
      refine lv_if_ne (tgt := 55) hx hb dX1_wish_50 (by decide) (fun c_10 => ?_) (fun c_10 => absurd c_10 (by decide))
      refine lv_aload_n hx hb dX1_wish_55 rfl (lv_at hl 2 rfl) ?_
      refine lv_iload_n hx hb dX1_wish_56 rfl (lv_at hl 3 rfl) ?_
      refine lv_bipush (v := 10) hx hb dX1_wish_57 (by decide) ?_
      have hF := xF hD hS hA
      refine va_callv (va_runV (As := [.int gw, .int 10]) (rest := []) ⟨hx, hb, hml, hown, hts⟩ (c1_change l D cW h0 hw n q g sp lo ph pr bo mo rf hd gr st nx hn hg gw 10 _) (cwV 2 hts gX1_wish_X1_change rfl rfl rfl (by decide +kernel) ⟨Nat.le_of_ble_eq_true rfl, Nat.le_of_ble_eq_true rfl⟩) ⟨xW_blind, va_recv hK hP (ci := 1) (q0 := 0) rfl rfl, xW_at hP hK hN hD⟩ rfl rfl hl.1 rfl (lv_room (Nat.le_of_ble_eq_true rfl)) dX1_wish_59 ⟨Nat.le_of_ble_eq_true rfl, Nat.le_of_ble_eq_true rfl⟩) hS (fun q _ h => hF q h) hF (fun u t H locs ht hvm hpo hB hz1 hk1 hS => ?_)
      obtain ⟨hP, hD⟩ := xB_use hB ht hF
      obtain ⟨u1, u2⟩ := u
      dsimp only at hpo hP hD
      rw [hpo.1, hpo.2] at hP hD
      clear hB hk1 hz1 ht hvm
      replace hP : va_P D vwCl (cw h0 hw cW n q g sp lo ph pr bo mo rf hd gw st (st + 10)) H := hP
      replace hD : va_D A (cw h0 hw cW n q g sp lo ph pr bo mo rf hd gw st (st + 10)) := hD
      refine lv_iconst (v := 1) hx hb dX1_wish_62 (by decide) ?_
      exact W.iret (v := 1) hx hb hr (fun t ht hW => ⟨⟨_, (gw, st + 10), rfl, ⟨by simp [sWish, k_3, k_4, k_8, k_9], by simp [sWish, k_3, k_4, k_8, k_9], by simp [sWish, k_3, k_4, k_8, k_9]⟩, xB_end hP hK hN hD ht hW⟩, hS.F ht⟩) hS.2.2 dX1_wish_63
    · skip
      refine lv_if_ne (tgt := 55) hx hb dX1_wish_50 (by decide) (fun c_11 => absurd (by decide) c_11) (fun c_11 => ?_)
      refine lv_iconst (v := 0) hx hb dX1_wish_53 (by decide) ?_
      exact W.iret (v := 0) hx hb hr (fun t ht hW => ⟨⟨_, (gr, nx), rfl, ⟨by simp [sWish, k_3, k_4, k_8], by simp [sWish, k_3, k_4, k_8], by simp [sWish, k_3, k_4, k_8]⟩, xB_end hP hK hN hD ht hW⟩, hS.F ht⟩) hS.2.2 dX1_wish_54
  · skip
    rw [i64_lt1, i64_6lt] at k_3
    refine lv_if_ne (tgt := 15) hx hb dX1_wish_9 (by decide) (fun c_12 => absurd (by decide) c_12) (fun c_12 => ?_)
    refine lv_bipush (v := (-2)) hx hb dX1_wish_12 (by decide) ?_
    exact W.iret (v := (-2)) hx hb hr (fun t ht hW => ⟨⟨_, (gr, nx), rfl, ⟨by simp [sWish, k_3], by simp [sWish, k_3], by simp [sWish, k_3]⟩, xB_end hP hK hN hD ht hW⟩, hS.F ht⟩) hS.2.2 dX1_wish_14
set_option maxHeartbeats 4000000 in
set_option maxRecDepth 100000 in
/-- yaw -/
theorem c1_yaw (l : Launch) (D : va_G) (cW : ClassId) (h0 hw n : Nat) (q : Nat → Nat) (g : Nat → Option Nat) (sp : Nat → Int64) (lo ph : Nat → Int32) (pr bo : Nat → Int64) (mo : Nat → UInt64) (rf : Int64) (hd gr st nx : Int32) (hn : n ≤ 8) (hg : ∀ i, i < n → g i = some (q i)) (h2 : 2 ≤ n) (a b : Int64) (sz : Nat) : Met l yX1_yaw wsX1_yaw ({ frames := 2, cells := 0, slots := 0, locals := 45 }) (va_Pc [.ref h0, .long a, .long b] (xW D [(cW, .object RX0)] (cw h0 hw cW n q g sp lo ph pr bo mo rf hd gr st nx) sz)) (va_Qi (fun (r : Int32) (u : (Nat → Int64)) => r = sYaw a b (cAbs (a - b)) (cnt lo n) ∧ u = gYaw cMin a b (cAbs (a - b)) (cnt lo n) pr bo) (fun (u : (Nat → Int64)) => xB D [(cW, .object RX0)] (va_A (cw h0 hw cW n q g sp lo ph pr bo mo rf hd gr st nx) sz) (cw h0 hw cW n q g sp lo ph u bo mo rf hd gr st nx)) (va_A (cw h0 hw cW n q g sp lo ph pr bo mo rf hd gr st nx) sz)) 0 0 (va_A (cw h0 hw cW n q g sp lo ph pr bo mo rf hd gr st nx) sz) := by
  refine Met.ofW (cc := cX1_yaw) (maxL := 7) (ret := (some .int)) (by decide) rfl ?_
  intro p e s m args below meth c s₁ B hml hv
  obtain ⟨rfl, hsz, ⟨hP, hK, hN⟩, hDt⟩ := hv
  have hx := B.exec
  have hb := B.bytes
  have hr := B.returns
  have hts := atoms_spec (ws := wsX1_yaw) B.pre
  have hown : s.vm.findClass RX1 = some m.cls := findClass_of_methodNamed B.named
  have hlocks := B.notSynchronized
  have hm1 : (.constantLong RX1 75 (-1000) : Cond) ∈ wsX1_yaw := by decide +kernel
  have hm2 : (.constantLong RX1 24 (1000) : Cond) ∈ wsX1_yaw := by decide +kernel
  have hm3 : (.methodLink RX1 77 Lib.MathLoose.abs_long.x : Cond) ∈ wsX1_yaw := by decide +kernel
  have hm4 : (.static Lib.MathLoose.abs_long.x : Cond) ∈ wsX1_yaw := by decide +kernel
  have hm5 : (.initialized "java/lang/Math" : Cond) ∈ wsX1_yaw := by decide +kernel
  have hm6 : (.code Lib.MathLoose.abs_long.x Lib.MathLoose.abs_long.code 2 (some .long) : Cond) ∈ wsX1_yaw := by decide +kernel
  have hm7 : (.constantLong RX1 61 (20) : Cond) ∈ wsX1_yaw := by decide +kernel
  have hm8 : (.initialized RX0 : Cond) ∈ wsX1_yaw := by decide +kernel
  have hm9 : (.instanceMethod yX0_press : Cond) ∈ wsX1_yaw := by decide +kernel
  have hm10 : (.selects RX0 yX0_press yX0_press : Cond) ∈ wsX1_yaw := by decide +kernel
  subst hsz
  have hD := hDt.self (sz := s.heap.size)
  generalize hAe : va_A (cw h0 hw cW n q g sp lo ph pr bo mo rf hd gr st nx) s.heap.size = A at hD ⊢
  have hA : ∀ q : Nat, s.heap.size ≤ q → A q := fun q h => by rw [← hAe]; exact Or.inr h
  have hS : va_S A s.heap s.heap [] := va_S.rf
  have hl := lv_entry ([.ref h0, .long a, .long b]) (n := 7) (Nat.le_of_ble_eq_true rfl)
  rw [lg_entry_eq]
  generalize (lg_sl ([.ref h0, .long a, .long b]) ++ List.replicate (7 - (lg_sl ([.ref h0, .long a, .long b])).length) Slot.unset).toArray = ls at hl ⊢
  replace hl : lv_has ls 7 [(0, .ref h0), (1, .long a), (3, .long b)] := hl
  refine lv_lload_n hx hb dX1_yaw_0 rfl (lv_at hl 1 rfl) ?_
  refine lv_ldc2 hx hb hown (hts _ hm1) dX1_yaw_1 ?_
  refine lv_ldc2 hx hb hown (hts _ hm2) dX1_yaw_4 ?_
  refine vp_callSi (W.runS (As := [.long a, .long (-1000), .long 1000]) (rest := []) ⟨hx, hb, hml, hown, hts⟩ (c1_within l a (-1000) 1000) (va_cwS 3 hts gX1_yaw_X1_isWithin rfl rfl rfl (by decide +kernel) ⟨Nat.le_of_ble_eq_true rfl, Nat.le_of_ble_eq_true rfl⟩) ⟨fun _ _ _ _ h => h, fun _ _ _ => ⟨rfl, trivial⟩⟩ rfl rfl hl.1 rfl (lv_room (Nat.le_of_ble_eq_true rfl)) dX1_yaw_7 ⟨Nat.le_of_ble_eq_true rfl, Nat.le_of_ble_eq_true rfl⟩) (fun r_1 hr_2 => ?_)
  rcases hr_2 with ⟨rfl, k_3, k_4⟩ | ⟨rfl, k_3⟩
  · skip
    refine lv_if_eq (tgt := 26) hx hb dX1_yaw_10 (by decide) (fun c_5 => absurd c_5 (by decide)) (fun c_5 => ?_)
    refine lv_lload_n hx hb dX1_yaw_13 rfl (lv_at hl 2 rfl) ?_
    refine lv_ldc2 hx hb hown (hts _ hm1) dX1_yaw_14 ?_
    refine lv_ldc2 hx hb hown (hts _ hm2) dX1_yaw_17 ?_
    refine vp_callSi (W.runS (As := [.long b, .long (-1000), .long 1000]) (rest := []) ⟨hx, hb, hml, hown, hts⟩ (c1_within l b (-1000) 1000) (va_cwS 3 hts gX1_yaw_X1_isWithin rfl rfl rfl (by decide +kernel) ⟨Nat.le_of_ble_eq_true rfl, Nat.le_of_ble_eq_true rfl⟩) ⟨fun _ _ _ _ h => h, fun _ _ _ => ⟨rfl, trivial⟩⟩ rfl rfl hl.1 rfl (lv_room (Nat.le_of_ble_eq_true rfl)) dX1_yaw_20 ⟨Nat.le_of_ble_eq_true rfl, Nat.le_of_ble_eq_true rfl⟩) (fun r_6 hr_7 => ?_)
    rcases hr_7 with ⟨rfl, k_8, k_9⟩ | ⟨rfl, k_8⟩
    · skip
      refine lv_if_ne (tgt := 29) hx hb dX1_yaw_23 (by decide) (fun c_10 => ?_) (fun c_10 => absurd c_10 (by decide))
      refine lv_lload_n hx hb dX1_yaw_29 rfl (lv_at hl 1 rfl) ?_
      refine lv_lload_n hx hb dX1_yaw_30 rfl (lv_at hl 2 rfl) ?_
      refine lv_lsub hx hb dX1_yaw_31 ?_
      refine va_mabs_long hx hb (by rw [hml]; exact hl.1.symm) hown (hts _ hm3) (hts _ hm4) (hts _ hm5) (hts _ hm6) (Nat.le_of_ble_eq_true rfl) (Nat.le_of_ble_eq_true rfl) (Nat.le_of_ble_eq_true rfl) (Nat.le_of_ble_eq_true rfl) dX1_yaw_32 ?_
      refine W.eq (g2 := F0 m 35 ls [.long (cAbs (a - b))]) rfl ?_
      refine lv_ldc2 hx hb hown (hts _ hm7) dX1_yaw_35 ?_
      refine W.lcmp hx hb dX1_yaw_38 ?_
      refine lv_if_le (tgt := 49) hx hb dX1_yaw_39 (by decide) (fun c_11 => ?_) (fun c_11 => ?_)
      · skip
        replace c_11 := (lg_cmp_le _ _).mp c_11
        refine lv_iconst (v := 0) hx hb dX1_yaw_49 (by decide) ?_
        exact W.iret (v := 0) hx hb hr (fun t ht hW => ⟨⟨_, (pr), rfl, ⟨by simp [sYaw, fBadY, k_3, k_4, k_8, k_9, c_11], by simp [gYaw, fBadY, k_3, k_4, k_8, k_9, c_11]⟩, xB_end hP hK hN hD ht hW⟩, hS.F ht⟩) hS.2.2 dX1_yaw_50
      · skip
        replace c_11 := mt (lg_cmp_le _ _).mpr c_11
        refine lv_aload_n hx hb dX1_yaw_42 rfl (lv_at hl 0 rfl) ?_
        refine vp_callSi (W.runV (As := []) (rest := []) ⟨hx, hb, hml, hown, hts⟩ (c1_countLost l D cW h0 hw n q g sp lo ph pr bo mo rf hd gr st nx hn hg) (cwV 0 hts gX1_yaw_X1_countLost rfl rfl rfl (by decide +kernel) ⟨Nat.le_of_ble_eq_true rfl, Nat.le_of_ble_eq_true rfl⟩) ⟨xP_blind, va_recv hK hP (ci := 1) (q0 := 0) rfl rfl, xP_at hP hK hN⟩ rfl rfl hl.1 rfl (lv_room (Nat.le_of_ble_eq_true rfl)) dX1_yaw_43 ⟨Nat.le_of_ble_eq_true rfl, Nat.le_of_ble_eq_true rfl⟩) (fun r_12 hr_13 => ?_)
        subst hr_13
        refine lv_if_le (tgt := 51) hx hb dX1_yaw_46 (by decide) (fun c_14 => ?_) (fun c_14 => ?_)
        · skip
          refine lv_lload_n hx hb dX1_yaw_51 rfl (lv_at hl 1 rfl) ?_
          refine lv_lload_n hx hb dX1_yaw_52 rfl (lv_at hl 2 rfl) ?_
          refine W.lcmp hx hb dX1_yaw_53 ?_
          refine lv_if_le (tgt := 61) hx hb dX1_yaw_54 (by decide) (fun c_15 => ?_) (fun c_15 => ?_)
          · skip
            replace c_15 := (lg_cmp_le _ _).mp c_15
            refine lv_iconst (v := 1) hx hb dX1_yaw_61 (by decide) ?_
            refine lv_istore (lv' := [(5, .int 1), (0, .ref h0), (1, .long a), (3, .long b)]) hx hb dX1_yaw_62 hl (by decide) rfl (fun ls hl => ?_)
            refine lv_aload_n hx hb dX1_yaw_64 rfl (lv_at hl 1 rfl) ?_
            refine lv_iload hx hb dX1_yaw_65 (lv_at hl 0 rfl) ?_
            refine va_csq (W.runV (As := [.int 1]) (rest := []) ⟨hx, hb, hml, hown, hts⟩ (c1_find_in l D cW h0 hw n q g sp lo ph pr bo mo rf hd gr st nx hn hg 0 (by omega)) (cwV 1 hts gX1_yaw_X1_find rfl rfl rfl (by decide +kernel) ⟨Nat.le_of_ble_eq_true rfl, Nat.le_of_ble_eq_true rfl⟩) ⟨xP_blind, va_recv hK hP (ci := 1) (q0 := 0) rfl rfl, xP_at hP hK hN⟩ rfl rfl hl.1 rfl (lv_room (Nat.le_of_ble_eq_true rfl)) dX1_yaw_67 ⟨Nat.le_of_ble_eq_true rfl, Nat.le_of_ble_eq_true rfl⟩) (fun r_16 hr_17 => ?_)
            subst hr_17
            refine W.eq (g2 := F0 m 70 ls [.ref (q 0)]) rfl ?_
            refine lv_astore (lv' := [(6, .ref (q 0)), (5, .int 1), (0, .ref h0), (1, .long a), (3, .long b)]) hx hb dX1_yaw_70 hl (by decide) rfl (fun ls hl => ?_)
            refine lv_aload hx hb dX1_yaw_72 (lv_at hl 0 rfl) ?_
            refine lv_ifnonnull (tgt := 79) hx hb dX1_yaw_74 (by decide) ?_
            refine lv_aload hx hb dX1_yaw_79 (lv_at hl 0 rfl) ?_
            refine lv_aload hx hb dX1_yaw_81 (lv_at hl 0 rfl) ?_
            refine va_getN (D := D) (ci := 0) (v := .long (pr (0 + 1))) (C := RX0) (T := TX0) (N := 6) hx hb hts (by decide +kernel) hown hK hP (0 + 2) (cw_at (show 0 < n by omega)) rfl 3 (by decide) (va_Nw.use rfl hN.2.2.2.1) (fun _ h9 => h9) rfl dX1_yaw_83 ?_
            refine lv_ldc2 hx hb hown (hts _ hm7) dX1_yaw_86 ?_
            refine lv_ladd hx hb dX1_yaw_89 ?_
            have hF := xF hD hS hA
            refine va_callv (va_runVN (As := [.long ((pr (0 + 1)) + 20)]) (rest := []) ⟨hx, hb, hml, hown, hts⟩ (c0_press l D cW h0 hw n q g sp lo ph pr bo mo rf hd gr st nx hn hg 0 (by omega) ((pr (0 + 1)) + 20) _) ⟨va_cnB 1 hts gX1_yaw_X0_press_n86 rfl rfl rfl hN.2.2.2.2.2.2.2.2.2 (hts _ hm8) (by decide +kernel) ⟨Nat.le_of_ble_eq_true rfl, Nat.le_of_ble_eq_true rfl⟩, (hts _ hm9), (hts _ hm10)⟩ ⟨xW_blind, va_recv hK hP (ci := 0) (q0 := (0 + 2)) rfl (cw_at (show 0 < n by omega)), xW_at hP hK hN hD⟩ rfl rfl hl.1 rfl (lv_room (Nat.le_of_ble_eq_true rfl)) dX1_yaw_90 ⟨Nat.le_of_ble_eq_true rfl, Nat.le_of_ble_eq_true rfl⟩) hS (fun q _ h => hF q h) hF (fun u t H locs ht hvm hpo hB hz1 hk1 hS => ?_)
            obtain ⟨hP, hD⟩ := xB_use hB ht hF
            rw [hpo] at hP hD
            clear hB hk1 hz1 ht hvm
            replace hP : va_P D vwCl (cw h0 hw cW n q g sp lo ph (va_up pr (0 + 1) (cMin ((pr (0 + 1)) + 20) (bo (0 + 1)))) bo mo rf hd gr st nx) H := hP
            replace hD : va_D A (cw h0 hw cW n q g sp lo ph (va_up pr (0 + 1) (cMin ((pr (0 + 1)) + 20) (bo (0 + 1)))) bo mo rf hd gr st nx) := hD
            refine lv_iload hx hb dX1_yaw_93 (lv_at hl 1 rfl) ?_
            exact W.iret (v := 1) hx hb hr (fun t ht hW => ⟨⟨_, (va_up pr (0 + 1) (cMin ((pr (0 + 1)) + 20) (bo (0 + 1)))), rfl, ⟨by simp [sYaw, fBadY, k_3, k_4, k_8, k_9, c_11, c_14, c_15], by simp [gYaw, fBadY, k_3, k_4, k_8, k_9, c_11, c_14, c_15]⟩, xB_end hP hK hN hD ht hW⟩, hS.F ht⟩) hS.2.2 dX1_yaw_95
          · skip
            replace c_15 := mt (lg_cmp_le _ _).mpr c_15
            refine lv_iconst (v := 2) hx hb dX1_yaw_57 (by decide) ?_
            refine lv_goto (tgt := 62) hx hb dX1_yaw_58 (by decide) ?_
            refine lv_istore (lv' := [(5, .int 2), (0, .ref h0), (1, .long a), (3, .long b)]) hx hb dX1_yaw_62 hl (by decide) rfl (fun ls hl => ?_)
            refine lv_aload_n hx hb dX1_yaw_64 rfl (lv_at hl 1 rfl) ?_
            refine lv_iload hx hb dX1_yaw_65 (lv_at hl 0 rfl) ?_
            refine va_csq (W.runV (As := [.int 2]) (rest := []) ⟨hx, hb, hml, hown, hts⟩ (c1_find_in l D cW h0 hw n q g sp lo ph pr bo mo rf hd gr st nx hn hg 1 (by omega)) (cwV 1 hts gX1_yaw_X1_find rfl rfl rfl (by decide +kernel) ⟨Nat.le_of_ble_eq_true rfl, Nat.le_of_ble_eq_true rfl⟩) ⟨xP_blind, va_recv hK hP (ci := 1) (q0 := 0) rfl rfl, xP_at hP hK hN⟩ rfl rfl hl.1 rfl (lv_room (Nat.le_of_ble_eq_true rfl)) dX1_yaw_67 ⟨Nat.le_of_ble_eq_true rfl, Nat.le_of_ble_eq_true rfl⟩) (fun r_18 hr_19 => ?_)
            subst hr_19
            refine W.eq (g2 := F0 m 70 ls [.ref (q 1)]) rfl ?_
            refine lv_astore (lv' := [(6, .ref (q 1)), (5, .int 2), (0, .ref h0), (1, .long a), (3, .long b)]) hx hb dX1_yaw_70 hl (by decide) rfl (fun ls hl => ?_)
            refine lv_aload hx hb dX1_yaw_72 (lv_at hl 0 rfl) ?_
            refine lv_ifnonnull (tgt := 79) hx hb dX1_yaw_74 (by decide) ?_
            refine lv_aload hx hb dX1_yaw_79 (lv_at hl 0 rfl) ?_
            refine lv_aload hx hb dX1_yaw_81 (lv_at hl 0 rfl) ?_
            refine va_getN (D := D) (ci := 0) (v := .long (pr (1 + 1))) (C := RX0) (T := TX0) (N := 6) hx hb hts (by decide +kernel) hown hK hP (1 + 2) (cw_at (show 1 < n by omega)) rfl 3 (by decide) (va_Nw.use rfl hN.2.2.2.1) (fun _ h9 => h9) rfl dX1_yaw_83 ?_
            refine lv_ldc2 hx hb hown (hts _ hm7) dX1_yaw_86 ?_
            refine lv_ladd hx hb dX1_yaw_89 ?_
            have hF := xF hD hS hA
            refine va_callv (va_runVN (As := [.long ((pr (1 + 1)) + 20)]) (rest := []) ⟨hx, hb, hml, hown, hts⟩ (c0_press l D cW h0 hw n q g sp lo ph pr bo mo rf hd gr st nx hn hg 1 (by omega) ((pr (1 + 1)) + 20) _) ⟨va_cnB 1 hts gX1_yaw_X0_press_n86 rfl rfl rfl hN.2.2.2.2.2.2.2.2.2 (hts _ hm8) (by decide +kernel) ⟨Nat.le_of_ble_eq_true rfl, Nat.le_of_ble_eq_true rfl⟩, (hts _ hm9), (hts _ hm10)⟩ ⟨xW_blind, va_recv hK hP (ci := 0) (q0 := (1 + 2)) rfl (cw_at (show 1 < n by omega)), xW_at hP hK hN hD⟩ rfl rfl hl.1 rfl (lv_room (Nat.le_of_ble_eq_true rfl)) dX1_yaw_90 ⟨Nat.le_of_ble_eq_true rfl, Nat.le_of_ble_eq_true rfl⟩) hS (fun q _ h => hF q h) hF (fun u t H locs ht hvm hpo hB hz1 hk1 hS => ?_)
            obtain ⟨hP, hD⟩ := xB_use hB ht hF
            rw [hpo] at hP hD
            clear hB hk1 hz1 ht hvm
            replace hP : va_P D vwCl (cw h0 hw cW n q g sp lo ph (va_up pr (1 + 1) (cMin ((pr (1 + 1)) + 20) (bo (1 + 1)))) bo mo rf hd gr st nx) H := hP
            replace hD : va_D A (cw h0 hw cW n q g sp lo ph (va_up pr (1 + 1) (cMin ((pr (1 + 1)) + 20) (bo (1 + 1)))) bo mo rf hd gr st nx) := hD
            refine lv_iload hx hb dX1_yaw_93 (lv_at hl 1 rfl) ?_
            exact W.iret (v := 2) hx hb hr (fun t ht hW => ⟨⟨_, (va_up pr (1 + 1) (cMin ((pr (1 + 1)) + 20) (bo (1 + 1)))), rfl, ⟨by simp [sYaw, fBadY, k_3, k_4, k_8, k_9, c_11, c_14, c_15], by simp [gYaw, fBadY, k_3, k_4, k_8, k_9, c_11, c_14, c_15]⟩, xB_end hP hK hN hD ht hW⟩, hS.F ht⟩) hS.2.2 dX1_yaw_95
        · skip
          refine lv_iconst (v := 0) hx hb dX1_yaw_49 (by decide) ?_
          exact W.iret (v := 0) hx hb hr (fun t ht hW => ⟨⟨_, (pr), rfl, ⟨by simp [sYaw, fBadY, k_3, k_4, k_8, k_9, c_11, c_14], by simp [gYaw, fBadY, k_3, k_4, k_8, k_9, c_11, c_14]⟩, xB_end hP hK hN hD ht hW⟩, hS.F ht⟩) hS.2.2 dX1_yaw_50
    · skip
      refine lv_if_ne (tgt := 29) hx hb dX1_yaw_23 (by decide) (fun c_20 => absurd (by decide) c_20) (fun c_20 => ?_)
      refine lv_bipush (v := (-2)) hx hb dX1_yaw_26 (by decide) ?_
      exact W.iret (v := (-2)) hx hb hr (fun t ht hW => ⟨⟨_, (pr), rfl, ⟨by simp [sYaw, fBadY, k_3, k_4, k_8], by simp [gYaw, fBadY, k_3, k_4, k_8]⟩, xB_end hP hK hN hD ht hW⟩, hS.F ht⟩) hS.2.2 dX1_yaw_28
  · skip
    refine lv_if_eq (tgt := 26) hx hb dX1_yaw_10 (by decide) (fun c_21 => ?_) (fun c_21 => absurd (by decide) c_21)
    refine lv_bipush (v := (-2)) hx hb dX1_yaw_26 (by decide) ?_
    exact W.iret (v := (-2)) hx hb hr (fun t ht hW => ⟨⟨_, (pr), rfl, ⟨by simp [sYaw, fBadY, k_3], by simp [gYaw, fBadY, k_3]⟩, xB_end hP hK hN hD ht hW⟩, hS.F ht⟩) hS.2.2 dX1_yaw_28
