/-! ===== the car: methods that write ===== -/
set_option maxHeartbeats 4000000 in
set_option maxRecDepth 100000 in
/-- press of wheel i + 1 -/
theorem c0_press (l : Launch) (D : va_G) (cW : ClassId) (h0 hw n : Nat) (q : Nat → Nat) (g : Nat → Option Nat) (sp : Nat → Int64) (lo ph : Nat → Int32) (pr bo : Nat → Int64) (mo : Nat → UInt64) (rf : Int64) (hd gr st nx : Int32) (hn : n ≤ 8) (hg : ∀ i, i < n → g i = some (q i)) (i : Nat) (hi : i < n) (v : Int64) (sz : Nat) : Met l yX0_press wsX0_press ({ frames := 1, cells := 0, slots := 0, locals := 23 }) (va_Pc [.ref (q i), .long v] (xW D [(cW, .object RX0)] (cw h0 hw cW n q g sp lo ph pr bo mo rf hd gr st nx) sz)) (va_Qv (fun (u : (Nat → Int64)) => u = va_up pr (i + 1) (cMin v (bo (i + 1)))) (fun (u : (Nat → Int64)) => xB D [(cW, .object RX0)] (va_A (cw h0 hw cW n q g sp lo ph pr bo mo rf hd gr st nx) sz) (cw h0 hw cW n q g sp lo ph u bo mo rf hd gr st nx)) (va_A (cw h0 hw cW n q g sp lo ph pr bo mo rf hd gr st nx) sz)) 0 0 (va_A (cw h0 hw cW n q g sp lo ph pr bo mo rf hd gr st nx) sz) := by
  refine Met.ofW (cc := cX0_press) (maxL := 3) (ret := none) (by decide) rfl ?_
  intro p e s m args below meth c s₁ B hml hv
  obtain ⟨rfl, hsz, ⟨hP, hK, hN⟩, hDt⟩ := hv
  have hx := B.exec
  have hb := B.bytes
  have hr := B.returns
  have hts := atoms_spec (ws := wsX0_press) B.pre
  have hown : s.vm.findClass RX0 = some m.cls := findClass_of_methodNamed B.named
  have hlocks := B.notSynchronized
  have hm1 : (.fieldLink RX0 17 "GearBrake$Wheel" "bound" "J" : Cond) ∈ wsX0_press := by decide +kernel
  have hm2 : (.methodLink RX0 59 Lib.MathLoose.min_long.x : Cond) ∈ wsX0_press := by decide +kernel
  have hm3 : (.static Lib.MathLoose.min_long.x : Cond) ∈ wsX0_press := by decide +kernel
  have hm4 : (.initialized "java/lang/Math" : Cond) ∈ wsX0_press := by decide +kernel
  have hm5 : (.code Lib.MathLoose.min_long.x Lib.MathLoose.min_long.code 4 (some .long) : Cond) ∈ wsX0_press := by decide +kernel
  have hm6 : (.fieldLink RX0 52 "GearBrake$Wheel" "pressure" "J" : Cond) ∈ wsX0_press := by decide +kernel
  subst hsz
  have hD := hDt.self (sz := s.heap.size)
  generalize hAe : va_A (cw h0 hw cW n q g sp lo ph pr bo mo rf hd gr st nx) s.heap.size = A at hD ⊢
  have hA : ∀ q : Nat, s.heap.size ≤ q → A q := fun q h => by rw [← hAe]; exact Or.inr h
  have hS : va_S A s.heap s.heap [] := va_S.rf
  have hl := lv_entry ([.ref (q i), .long v]) (n := 3) (Nat.le_of_ble_eq_true rfl)
  rw [lg_entry_eq]
  generalize (lg_sl ([.ref (q i), .long v]) ++ List.replicate (3 - (lg_sl ([.ref (q i), .long v])).length) Slot.unset).toArray = ls at hl ⊢
  replace hl : lv_has ls 3 [(0, .ref (q i)), (1, .long v)] := hl
  refine lv_aload_n hx hb dX0_press_0 rfl (lv_at hl 0 rfl) ?_
  refine lv_lload_n hx hb dX0_press_1 rfl (lv_at hl 1 rfl) ?_
  refine lv_aload_n hx hb dX0_press_2 rfl (lv_at hl 0 rfl) ?_
  refine va_get (D := D) (ci := 0) (v := .long (bo (i + 1))) (C := RX0) (T := TX0) (N := 6) hx hb hts (by decide +kernel) hown hK hP (i + 2) (cw_at hi) rfl 4 (by decide) (hts _ hm1) (fun _ h9 => h9) rfl dX0_press_3 ?_
  refine va_mmin_long hx hb (by rw [hml]; exact hl.1.symm) hown (hts _ hm2) (hts _ hm3) (hts _ hm4) (hts _ hm5) (Nat.le_of_ble_eq_true rfl) (Nat.le_of_ble_eq_true rfl) (Nat.le_of_ble_eq_true rfl) (Nat.le_of_ble_eq_true rfl) dX0_press_6 ?_
  refine va_put (D := D) (ci := 0) (v := .long (if (bo (i + 1)) < v then (bo (i + 1)) else v)) (ty := .long) (C := RX0) (T := TX0) (N := 6) hx hb hts (by decide +kernel) tyX0 tyX0_ok nmX0 hown hK hP hD hS (i + 2) (cw_at hi) rfl 3 (by decide) (hts _ hm6) (fun _ h9 => h9) rfl (by decide +kernel) rfl rfl (Nat.le_of_ble_eq_true rfl) dX0_press_9 (fun H locs hP hD hS => ?_)
  replace hP : va_P D vwCl (cw h0 hw cW n q g sp lo ph (va_up pr (i + 1) (if (bo (i + 1)) < v then (bo (i + 1)) else v)) bo mo rf hd gr st nx) H := w_P (cw_pr (if (bo (i + 1)) < v then (bo (i + 1)) else v)) hP
  replace hD : va_D A (cw h0 hw cW n q g sp lo ph (va_up pr (i + 1) (if (bo (i + 1)) < v then (bo (i + 1)) else v)) bo mo rf hd gr st nx) := w_D (cw_pr (if (bo (i + 1)) < v then (bo (i + 1)) else v)) hD
  exact W.vret hx hb hr (fun t ht hW => ⟨⟨(va_up pr (i + 1) (if (bo (i + 1)) < v then (bo (i + 1)) else v)), rfl, rfl, xB_end hP hK hN hD ht hW⟩, hS.F ht⟩) hS.2.2 dX0_press_12
set_option maxHeartbeats 4000000 in
set_option maxRecDepth 100000 in
/-- brake of wheel i + 1 -/
theorem c0_brake (l : Launch) (D : va_G) (cW : ClassId) (h0 hw n : Nat) (q : Nat → Nat) (g : Nat → Option Nat) (sp : Nat → Int64) (lo ph : Nat → Int32) (pr bo : Nat → Int64) (mo : Nat → UInt64) (rf : Int64) (hd gr st nx : Int32) (hn : n ≤ 8) (hg : ∀ i, i < n → g i = some (q i)) (i : Nat) (hi : i < n) (ped rfA : Int64) (hdA : Int32) (sz : Nat) : Met l yX0_brake wsX0_brake ({ frames := 2, cells := 0, slots := 0, locals := 45 }) (va_Pc [.ref (q i), .long ped, .long rfA, .int hdA] (xW D [(cW, .object RX0)] (cw h0 hw cW n q g sp lo ph pr bo mo rf hd gr st nx) sz)) (va_Qv (fun (u : (Nat → Int32) × (Nat → Int64)) => u.1 = va_up ph (i + 1) (sPh (lo (i + 1)) rfA ped (sp (i + 1)) (ph (i + 1)) (pr (i + 1))) ∧ u.2 = va_up pr (i + 1) (cPr (sPh (lo (i + 1)) rfA ped (sp (i + 1)) (ph (i + 1)) (pr (i + 1))) ped (pr (i + 1)) hdA (bo (i + 1)))) (fun (u : (Nat → Int32) × (Nat → Int64)) => xB D [(cW, .object RX0)] (va_A (cw h0 hw cW n q g sp lo ph pr bo mo rf hd gr st nx) sz) (cw h0 hw cW n q g sp lo u.1 u.2 bo mo rf hd gr st nx)) (va_A (cw h0 hw cW n q g sp lo ph pr bo mo rf hd gr st nx) sz)) 0 0 (va_A (cw h0 hw cW n q g sp lo ph pr bo mo rf hd gr st nx) sz) := by
  refine Met.ofW (cc := cX0_brake) (maxL := 8) (ret := none) (by decide) rfl ?_
  intro p e s m args below meth c s₁ B hml hv
  obtain ⟨rfl, hsz, ⟨hP, hK, hN⟩, hDt⟩ := hv
  have hx := B.exec
  have hb := B.bytes
  have hr := B.returns
  have hts := atoms_spec (ws := wsX0_brake) B.pre
  have hown : s.vm.findClass RX0 = some m.cls := findClass_of_methodNamed B.named
  have hlocks := B.notSynchronized
  have hm1 : (.fieldLink RX0 9 "GearBrake$Wheel" "phase" "I" : Cond) ∈ wsX0_brake := by decide +kernel
  have hm2 : (.constantLong RX0 29 (30) : Cond) ∈ wsX0_brake := by decide +kernel
  have hm3 : (.methodLink RX0 31 Lib.MathLoose.max_long.x : Cond) ∈ wsX0_brake := by decide +kernel
  have hm4 : (.static Lib.MathLoose.max_long.x : Cond) ∈ wsX0_brake := by decide +kernel
  have hm5 : (.initialized "java/lang/Math" : Cond) ∈ wsX0_brake := by decide +kernel
  have hm6 : (.code Lib.MathLoose.max_long.x Lib.MathLoose.max_long.code 4 (some .long) : Cond) ∈ wsX0_brake := by decide +kernel
  subst hsz
  have hD := hDt.self (sz := s.heap.size)
  generalize hAe : va_A (cw h0 hw cW n q g sp lo ph pr bo mo rf hd gr st nx) s.heap.size = A at hD ⊢
  have hA : ∀ q : Nat, s.heap.size ≤ q → A q := fun q h => by rw [← hAe]; exact Or.inr h
  have hS : va_S A s.heap s.heap [] := va_S.rf
  have hl := lv_entry ([.ref (q i), .long ped, .long rfA, .int hdA]) (n := 8) (Nat.le_of_ble_eq_true rfl)
  rw [lg_entry_eq]
  generalize (lg_sl ([.ref (q i), .long ped, .long rfA, .int hdA]) ++ List.replicate (8 - (lg_sl ([.ref (q i), .long ped, .long rfA, .int hdA])).length) Slot.unset).toArray = ls at hl ⊢
  replace hl : lv_has ls 8 [(0, .ref (q i)), (1, .long ped), (3, .long rfA), (5, .int hdA)] := hl
  refine lv_aload_n hx hb dX0_brake_0 rfl (lv_at hl 0 rfl) ?_
  refine lv_aload_n hx hb dX0_brake_1 rfl (lv_at hl 0 rfl) ?_
  refine lv_lload_n hx hb dX0_brake_2 rfl (lv_at hl 1 rfl) ?_
  refine lv_lload_n hx hb dX0_brake_3 rfl (lv_at hl 2 rfl) ?_
  refine vp_callSi (W.runV (As := [.long ped, .long rfA]) (rest := [.ref (q i)]) ⟨hx, hb, hml, hown, hts⟩ (c0_nextPhase l D cW h0 hw n q g sp lo ph pr bo mo rf hd gr st nx hn hg i hi ped rfA) (cwV 2 hts gX0_brake_X0_nextPhase rfl rfl rfl (by decide +kernel) ⟨Nat.le_of_ble_eq_true rfl, Nat.le_of_ble_eq_true rfl⟩) ⟨xP_blind, va_recv hK hP (ci := 0) (q0 := (i + 2)) rfl (cw_at hi), xP_at hP hK hN⟩ rfl rfl hl.1 rfl (lv_room (Nat.le_of_ble_eq_true rfl)) dX0_brake_4 ⟨Nat.le_of_ble_eq_true rfl, Nat.le_of_ble_eq_true rfl⟩) (fun r_1 hr_2 => ?_)
  subst hr_2
  refine va_put (D := D) (ci := 0) (v := .int (sPh (lo (i + 1)) rfA ped (sp (i + 1)) (ph (i + 1)) (pr (i + 1)))) (ty := .int) (C := RX0) (T := TX0) (N := 6) hx hb hts (by decide +kernel) tyX0 tyX0_ok nmX0 hown hK hP hD hS (i + 2) (cw_at hi) rfl 2 (by decide) (hts _ hm1) (fun _ h9 => h9) rfl (by decide +kernel) rfl rfl (Nat.le_of_ble_eq_true rfl) dX0_brake_7 (fun H locs hP hD hS => ?_)
  replace hP : va_P D vwCl (cw h0 hw cW n q g sp lo (va_up ph (i + 1) (sPh (lo (i + 1)) rfA ped (sp (i + 1)) (ph (i + 1)) (pr (i + 1)))) pr bo mo rf hd gr st nx) H := w_P (cw_ph (sPh (lo (i + 1)) rfA ped (sp (i + 1)) (ph (i + 1)) (pr (i + 1)))) hP
  replace hD : va_D A (cw h0 hw cW n q g sp lo (va_up ph (i + 1) (sPh (lo (i + 1)) rfA ped (sp (i + 1)) (ph (i + 1)) (pr (i + 1)))) pr bo mo rf hd gr st nx) := w_D (cw_ph (sPh (lo (i + 1)) rfA ped (sp (i + 1)) (ph (i + 1)) (pr (i + 1)))) hD
  refine lv_aload_n hx hb dX0_brake_10 rfl (lv_at hl 0 rfl) ?_
  refine lv_lload_n hx hb dX0_brake_11 rfl (lv_at hl 1 rfl) ?_
  refine vp_callSl (W.runV (As := [.long ped]) (rest := []) ⟨hx, hb, hml, hown, hts⟩ (c0_wanted l D cW h0 hw n q g sp lo (va_up ph (i + 1) (sPh (lo (i + 1)) rfA ped (sp (i + 1)) (ph (i + 1)) (pr (i + 1)))) pr bo mo rf hd gr st nx hn hg i hi ped) (cwV 1 hts gX0_brake_X0_wantedPressure rfl rfl rfl (by decide +kernel) ⟨Nat.le_of_ble_eq_true rfl, Nat.le_of_ble_eq_true rfl⟩) ⟨xP_blind, va_recv hK hP (ci := 0) (q0 := (i + 2)) rfl (cw_at hi), xP_at hP hK hN⟩ rfl rfl hl.1 rfl (lv_room (Nat.le_of_ble_eq_true rfl)) dX0_brake_12 ⟨Nat.le_of_ble_eq_true rfl, Nat.le_of_ble_eq_true rfl⟩) (fun r_3 hr_4 => ?_)
  rw [va_up_self] at hr_4
  subst hr_4
  refine lv_lstore (lv' := [(6, .long (cWant (sPh (lo (i + 1)) rfA ped (sp (i + 1)) (ph (i + 1)) (pr (i + 1))) ped (pr (i + 1)))), (0, .ref (q i)), (1, .long ped), (3, .long rfA), (5, .int hdA)]) hx hb dX0_brake_15 hl (by decide) rfl (fun ls hl => ?_)
  refine lv_aload_n hx hb dX0_brake_17 rfl (lv_at hl 1 rfl) ?_
  refine lv_iload hx hb dX0_brake_18 (lv_at hl 4 rfl) ?_
  refine lv_if_eq (tgt := 34) hx hb dX0_brake_20 (by decide) (fun c_5 => ?_) (fun c_5 => ?_)
  · skip
    refine lv_lload hx hb dX0_brake_34 (lv_at hl 0 rfl) ?_
    have hF := xF hD hS hA
    refine va_callv (va_runV (As := [.long (cWant (sPh (lo (i + 1)) rfA ped (sp (i + 1)) (ph (i + 1)) (pr (i + 1))) ped (pr (i + 1)))]) (rest := []) ⟨hx, hb, hml, hown, hts⟩ (c0_press l D cW h0 hw n q g sp lo (va_up ph (i + 1) (sPh (lo (i + 1)) rfA ped (sp (i + 1)) (ph (i + 1)) (pr (i + 1)))) pr bo mo rf hd gr st nx hn hg i hi (cWant (sPh (lo (i + 1)) rfA ped (sp (i + 1)) (ph (i + 1)) (pr (i + 1))) ped (pr (i + 1))) _) (cwV 1 hts gX0_brake_X0_press rfl rfl rfl (by decide +kernel) ⟨Nat.le_of_ble_eq_true rfl, Nat.le_of_ble_eq_true rfl⟩) ⟨xW_blind, va_recv hK hP (ci := 0) (q0 := (i + 2)) rfl (cw_at hi), xW_at hP hK hN hD⟩ rfl rfl hl.1 rfl (lv_room (Nat.le_of_ble_eq_true rfl)) dX0_brake_36 ⟨Nat.le_of_ble_eq_true rfl, Nat.le_of_ble_eq_true rfl⟩) hS (fun q _ h => hF q h) hF (fun u t H locs ht hvm hpo hB hz1 hk1 hS => ?_)
    obtain ⟨hP, hD⟩ := xB_use hB ht hF
    rw [hpo] at hP hD
    clear hB hk1 hz1 ht hvm
    replace hP : va_P D vwCl (cw h0 hw cW n q g sp lo (va_up ph (i + 1) (sPh (lo (i + 1)) rfA ped (sp (i + 1)) (ph (i + 1)) (pr (i + 1)))) (va_up pr (i + 1) (cMin (cWant (sPh (lo (i + 1)) rfA ped (sp (i + 1)) (ph (i + 1)) (pr (i + 1))) ped (pr (i + 1))) (bo (i + 1)))) bo mo rf hd gr st nx) H := hP
    replace hD : va_D A (cw h0 hw cW n q g sp lo (va_up ph (i + 1) (sPh (lo (i + 1)) rfA ped (sp (i + 1)) (ph (i + 1)) (pr (i + 1)))) (va_up pr (i + 1) (cMin (cWant (sPh (lo (i + 1)) rfA ped (sp (i + 1)) (ph (i + 1)) (pr (i + 1))) ped (pr (i + 1))) (bo (i + 1)))) bo mo rf hd gr st nx) := hD
    exact W.vret hx hb hr (fun t ht hW => ⟨⟨(va_up ph (i + 1) (sPh (lo (i + 1)) rfA ped (sp (i + 1)) (ph (i + 1)) (pr (i + 1))), va_up pr (i + 1) (cMin (cWant (sPh (lo (i + 1)) rfA ped (sp (i + 1)) (ph (i + 1)) (pr (i + 1))) ped (pr (i + 1))) (bo (i + 1)))), rfl, ⟨rfl, by simp [cPr, c_5]⟩, xB_end hP hK hN hD ht hW⟩, hS.F ht⟩) hS.2.2 dX0_brake_39
  · skip
    refine lv_lload hx hb dX0_brake_23 (lv_at hl 0 rfl) ?_
    refine lv_ldc2 hx hb hown (hts _ hm2) dX0_brake_25 ?_
    refine va_mmax_long hx hb (by rw [hml]; exact hl.1.symm) hown (hts _ hm3) (hts _ hm4) (hts _ hm5) (hts _ hm6) (Nat.le_of_ble_eq_true rfl) (Nat.le_of_ble_eq_true rfl) (Nat.le_of_ble_eq_true rfl) (Nat.le_of_ble_eq_true rfl) dX0_brake_28 ?_
    refine lv_goto (tgt := 36) hx hb dX0_brake_31 (by decide) ?_
    have hF := xF hD hS hA
    refine va_callv (va_runV (As := [.long (if 30 < (cWant (sPh (lo (i + 1)) rfA ped (sp (i + 1)) (ph (i + 1)) (pr (i + 1))) ped (pr (i + 1))) then (cWant (sPh (lo (i + 1)) rfA ped (sp (i + 1)) (ph (i + 1)) (pr (i + 1))) ped (pr (i + 1))) else 30)]) (rest := []) ⟨hx, hb, hml, hown, hts⟩ (c0_press l D cW h0 hw n q g sp lo (va_up ph (i + 1) (sPh (lo (i + 1)) rfA ped (sp (i + 1)) (ph (i + 1)) (pr (i + 1)))) pr bo mo rf hd gr st nx hn hg i hi (if 30 < (cWant (sPh (lo (i + 1)) rfA ped (sp (i + 1)) (ph (i + 1)) (pr (i + 1))) ped (pr (i + 1))) then (cWant (sPh (lo (i + 1)) rfA ped (sp (i + 1)) (ph (i + 1)) (pr (i + 1))) ped (pr (i + 1))) else 30) _) (cwV 1 hts gX0_brake_X0_press rfl rfl rfl (by decide +kernel) ⟨Nat.le_of_ble_eq_true rfl, Nat.le_of_ble_eq_true rfl⟩) ⟨xW_blind, va_recv hK hP (ci := 0) (q0 := (i + 2)) rfl (cw_at hi), xW_at hP hK hN hD⟩ rfl rfl hl.1 rfl (lv_room (Nat.le_of_ble_eq_true rfl)) dX0_brake_36 ⟨Nat.le_of_ble_eq_true rfl, Nat.le_of_ble_eq_true rfl⟩) hS (fun q _ h => hF q h) hF (fun u t H locs ht hvm hpo hB hz1 hk1 hS => ?_)
    obtain ⟨hP, hD⟩ := xB_use hB ht hF
    rw [hpo] at hP hD
    clear hB hk1 hz1 ht hvm
    replace hP : va_P D vwCl (cw h0 hw cW n q g sp lo (va_up ph (i + 1) (sPh (lo (i + 1)) rfA ped (sp (i + 1)) (ph (i + 1)) (pr (i + 1)))) (va_up pr (i + 1) (cMin (if 30 < (cWant (sPh (lo (i + 1)) rfA ped (sp (i + 1)) (ph (i + 1)) (pr (i + 1))) ped (pr (i + 1))) then (cWant (sPh (lo (i + 1)) rfA ped (sp (i + 1)) (ph (i + 1)) (pr (i + 1))) ped (pr (i + 1))) else 30) (bo (i + 1)))) bo mo rf hd gr st nx) H := hP
    replace hD : va_D A (cw h0 hw cW n q g sp lo (va_up ph (i + 1) (sPh (lo (i + 1)) rfA ped (sp (i + 1)) (ph (i + 1)) (pr (i + 1)))) (va_up pr (i + 1) (cMin (if 30 < (cWant (sPh (lo (i + 1)) rfA ped (sp (i + 1)) (ph (i + 1)) (pr (i + 1))) ped (pr (i + 1))) then (cWant (sPh (lo (i + 1)) rfA ped (sp (i + 1)) (ph (i + 1)) (pr (i + 1))) ped (pr (i + 1))) else 30) (bo (i + 1)))) bo mo rf hd gr st nx) := hD
    exact W.vret hx hb hr (fun t ht hW => ⟨⟨(va_up ph (i + 1) (sPh (lo (i + 1)) rfA ped (sp (i + 1)) (ph (i + 1)) (pr (i + 1))), va_up pr (i + 1) (cMin (if 30 < (cWant (sPh (lo (i + 1)) rfA ped (sp (i + 1)) (ph (i + 1)) (pr (i + 1))) ped (pr (i + 1))) then (cWant (sPh (lo (i + 1)) rfA ped (sp (i + 1)) (ph (i + 1)) (pr (i + 1))) ped (pr (i + 1))) else 30) (bo (i + 1)))), rfl, ⟨rfl, by simp [cPr, c_5]⟩, xB_end hP hK hN hD ht hW⟩, hS.F ht⟩) hS.2.2 dX0_brake_39
set_option maxHeartbeats 4000000 in
set_option maxRecDepth 100000 in
/-- followModel of wheel i + 1 -/
theorem c0_follow (l : Launch) (D : va_G) (cW : ClassId) (h0 hw n : Nat) (q : Nat → Nat) (g : Nat → Option Nat) (sp : Nat → Int64) (lo ph : Nat → Int32) (pr bo : Nat → Int64) (mo : Nat → UInt64) (rf : Int64) (hd gr st nx : Int32) (hn : n ≤ 8) (hg : ∀ i, i < n → g i = some (q i)) (i : Nat) (hi : i < n) (sz : Nat) : MetD lw_cs l yX0_followModel wsX0_followModel ({ frames := 0, cells := 0, slots := 0, locals := 0 }) (va_Pc [.ref (q i)] (xW D [(cW, .object RX0)] (cw h0 hw cW n q g sp lo ph pr bo mo rf hd gr st nx) sz)) (va_Qv (fun (u : (Nat → UInt64)) => ∃ y, u = va_up mo (i + 1) y ∧ stepM (mo (i + 1)) (sp (i + 1)) (pr (i + 1)) y) (fun (u : (Nat → UInt64)) => xB D [(cW, .object RX0)] (va_A (cw h0 hw cW n q g sp lo ph pr bo mo rf hd gr st nx) sz) (cw h0 hw cW n q g sp lo ph pr bo u rf hd gr st nx)) (va_A (cw h0 hw cW n q g sp lo ph pr bo mo rf hd gr st nx) sz)) 0 0 (va_A (cw h0 hw cW n q g sp lo ph pr bo mo rf hd gr st nx) sz) := by
  refine MetD.ofW (cc := cX0_followModel) (maxL := 5) (ret := none) (by decide) rfl ?_
  intro p e s m args below meth c s₁ B hml hv hd0
  obtain ⟨rfl, hsz, ⟨hP, hK, hN⟩, hDt⟩ := hv
  have hx := B.exec
  have hb := B.bytes
  have hr := B.returns
  have hts := atoms_spec (ws := wsX0_followModel) B.pre
  have hown : s.vm.findClass RX0 = some m.cls := findClass_of_methodNamed B.named
  have hlocks := B.notSynchronized
  have hm1 : (.fieldLink RX0 62 "GearBrake$Wheel" "model" "D" : Cond) ∈ wsX0_followModel := by decide +kernel
  have hm2 : (.constantDouble RX0 66 (4593671619917905920) : Cond) ∈ wsX0_followModel := by decide +kernel
  have hm3 : (.fieldLink RX0 45 "GearBrake$Wheel" "speed" "J" : Cond) ∈ wsX0_followModel := by decide +kernel
  have hm4 : (.constantDouble RX0 68 (4589168020290535424) : Cond) ∈ wsX0_followModel := by decide +kernel
  have hm5 : (.fieldLink RX0 52 "GearBrake$Wheel" "pressure" "J" : Cond) ∈ wsX0_followModel := by decide +kernel
  subst hsz
  have hD := hDt.self (sz := s.heap.size)
  generalize hAe : va_A (cw h0 hw cW n q g sp lo ph pr bo mo rf hd gr st nx) s.heap.size = A at hD ⊢
  have hA : ∀ q : Nat, s.heap.size ≤ q → A q := fun q h => by rw [← hAe]; exact Or.inr h
  have hS : va_S A s.heap s.heap [] := va_S.rf
  have hts0 := hts
  have hN0 := hN
  have hK0 := hK
  obtain ⟨dd, hde, hdd⟩ : ∃ dd, dd = s.drawn ∧ s.drawn.sameBut dd lw_cs := ⟨_, rfl, hd0⟩
  rw [← hde]
  clear hde
  have hts := dr_words hts0 dd
  have hN := cN_draw (d := dd) hN0
  have hK : va_K D vwCl [(cW, .object RX0)] (s.setDrawn dd) := hK0
  have hl := lv_entry ([.ref (q i)]) (n := 5) (Nat.le_of_ble_eq_true rfl)
  rw [lg_entry_eq]
  generalize (lg_sl ([.ref (q i)]) ++ List.replicate (5 - (lg_sl ([.ref (q i)])).length) Slot.unset).toArray = ls at hl ⊢
  replace hl : lv_has ls 5 [(0, .ref (q i))] := hl
  refine lv_aload_n hx hb dX0_followModel_0 rfl (lv_at hl 0 rfl) ?_
  refine va_get (D := D) (ci := 0) (v := .double (mo (i + 1))) (C := RX0) (T := TX0) (N := 6) hx hb hts (by decide +kernel) hown hK hP (i + 2) (cw_at hi) rfl 5 (by decide) (hts _ hm1) (fun _ h9 => h9) rfl dX0_followModel_1 ?_
  refine lv_ldc2d hx hb hown (hts _ hm2) dX0_followModel_4 ?_
  refine lv_aload_n hx hb dX0_followModel_7 rfl (lv_at hl 0 rfl) ?_
  refine va_get (D := D) (ci := 0) (v := .long (sp (i + 1))) (C := RX0) (T := TX0) (N := 6) hx hb hts (by decide +kernel) hown hK hP (i + 2) (cw_at hi) rfl 0 (by decide) (hts _ hm3) (fun _ h9 => h9) rfl dX0_followModel_8 ?_
  refine lv_l2d hx hb dX0_followModel_11 ?_
  refine lv_aload_n hx hb dX0_followModel_12 rfl (lv_at hl 0 rfl) ?_
  refine va_get (D := D) (ci := 0) (v := .double (mo (i + 1))) (C := RX0) (T := TX0) (N := 6) hx hb hts (by decide +kernel) hown hK hP (i + 2) (cw_at hi) rfl 5 (by decide) (hts _ hm1) (fun _ h9 => h9) rfl dX0_followModel_13 ?_
  refine lv_dsub_any hdd lw_bits hx hb dX0_followModel_16 (fun r_1 d_2 al_3 hdd_4 => ?_)
  have hts := dr_words hts0 d_2
  have hN := cN_draw (d := d_2) hN0
  have hK : va_K D vwCl [(cW, .object RX0)] (s.setDrawn d_2) := hK0
  refine lv_dmul_any hdd_4 lw_bits hx hb dX0_followModel_17 (fun r_5 d_6 al_7 hdd_8 => ?_)
  have hts := dr_words hts0 d_6
  have hN := cN_draw (d := d_6) hN0
  have hK : va_K D vwCl [(cW, .object RX0)] (s.setDrawn d_6) := hK0
  refine lv_dadd_any hdd_8 lw_bits hx hb dX0_followModel_18 (fun r_9 d_10 al_11 hdd_12 => ?_)
  have hts := dr_words hts0 d_10
  have hN := cN_draw (d := d_10) hN0
  have hK : va_K D vwCl [(cW, .object RX0)] (s.setDrawn d_10) := hK0
  refine lv_dstore_n (lv' := [(1, .double r_9), (0, .ref (q i))]) hx hb dX0_followModel_19 rfl hl (by decide) rfl (fun ls hl => ?_)
  refine lv_dload_n hx hb dX0_followModel_20 rfl (lv_at hl 0 rfl) ?_
  refine lv_ldc2d hx hb hown (hts _ hm4) dX0_followModel_21 ?_
  refine lv_aload_n hx hb dX0_followModel_24 rfl (lv_at hl 1 rfl) ?_
  refine va_get (D := D) (ci := 0) (v := .long (pr (i + 1))) (C := RX0) (T := TX0) (N := 6) hx hb hts (by decide +kernel) hown hK hP (i + 2) (cw_at hi) rfl 3 (by decide) (hts _ hm5) (fun _ h9 => h9) rfl dX0_followModel_25 ?_
  refine lv_l2d hx hb dX0_followModel_28 ?_
  refine lv_dmul_any hdd_12 lw_bits hx hb dX0_followModel_29 (fun r_13 d_14 al_15 hdd_16 => ?_)
  have hts := dr_words hts0 d_14
  have hN := cN_draw (d := d_14) hN0
  have hK : va_K D vwCl [(cW, .object RX0)] (s.setDrawn d_14) := hK0
  refine lv_dsub_any hdd_16 lw_bits hx hb dX0_followModel_30 (fun r_17 d_18 al_19 hdd_20 => ?_)
  have hts := dr_words hts0 d_18
  have hN := cN_draw (d := d_18) hN0
  have hK : va_K D vwCl [(cW, .object RX0)] (s.setDrawn d_18) := hK0
  refine lv_dstore_n (lv' := [(3, .double r_17), (1, .double r_9), (0, .ref (q i))]) hx hb dX0_followModel_31 rfl hl (by decide) rfl (fun ls hl => ?_)
  refine lv_aload_n hx hb dX0_followModel_32 rfl (lv_at hl 2 rfl) ?_
  refine lv_dload_n hx hb dX0_followModel_33 rfl (lv_at hl 0 rfl) ?_
  refine lv_dconst0 hx hb dX0_followModel_34 ?_
  refine lv_dcmp hx hb dX0_followModel_35 ?_
  refine lv_if_ge (tgt := 43) hx hb dX0_followModel_36 (by decide) (fun c_21 => ?_) (fun c_21 => ?_)
  · skip
    refine lv_dload_n hx hb dX0_followModel_43 rfl (lv_at hl 0 rfl) ?_
    refine va_put (D := D) (ci := 0) (v := .double r_17) (ty := .double) (C := RX0) (T := TX0) (N := 6) hx hb hts (by decide +kernel) tyX0 tyX0_ok nmX0 hown hK hP hD hS (i + 2) (cw_at hi) rfl 5 (by decide) (hts _ hm1) (fun _ h9 => h9) rfl (by decide +kernel) rfl rfl (Nat.le_of_ble_eq_true rfl) dX0_followModel_44 (fun H locs hP hD hS => ?_)
    replace hP : va_P D vwCl (cw h0 hw cW n q g sp lo ph pr bo (va_up mo (i + 1) r_17) rf hd gr st nx) H := w_P (cw_mo r_17) hP
    replace hD : va_D A (cw h0 hw cW n q g sp lo ph pr bo (va_up mo (i + 1) r_17) rf hd gr st nx) := w_D (cw_mo r_17) hD
    refine W.endD hdd_20 ?_
    exact W.vret hx hb hr (fun t ht hW => ⟨⟨(va_up mo (i + 1) r_17), rfl, ⟨_, rfl, _, _, _, _, _, al_3, al_7, al_11, al_15, al_19, by simp [c_21]⟩, xB_end hP hK hN hD ht hW⟩, hS.F ht⟩) hS.2.2 dX0_followModel_47
  · skip
    refine lv_dconst0 hx hb dX0_followModel_39 ?_
    refine lv_goto (tgt := 44) hx hb dX0_followModel_40 (by decide) ?_
    refine va_put (D := D) (ci := 0) (v := .double FP.dconst0) (ty := .double) (C := RX0) (T := TX0) (N := 6) hx hb hts (by decide +kernel) tyX0 tyX0_ok nmX0 hown hK hP hD hS (i + 2) (cw_at hi) rfl 5 (by decide) (hts _ hm1) (fun _ h9 => h9) rfl (by decide +kernel) rfl rfl (Nat.le_of_ble_eq_true rfl) dX0_followModel_44 (fun H locs hP hD hS => ?_)
    replace hP : va_P D vwCl (cw h0 hw cW n q g sp lo ph pr bo (va_up mo (i + 1) FP.dconst0) rf hd gr st nx) H := w_P (cw_mo FP.dconst0) hP
    replace hD : va_D A (cw h0 hw cW n q g sp lo ph pr bo (va_up mo (i + 1) FP.dconst0) rf hd gr st nx) := w_D (cw_mo FP.dconst0) hD
    refine W.endD hdd_20 ?_
    exact W.vret hx hb hr (fun t ht hW => ⟨⟨(va_up mo (i + 1) FP.dconst0), rfl, ⟨_, rfl, _, _, _, _, _, al_3, al_7, al_11, al_15, al_19, by simp [c_21]⟩, xB_end hP hK hN hD ht hW⟩, hS.F ht⟩) hS.2.2 dX0_followModel_47
set_option maxHeartbeats 4000000 in
set_option maxRecDepth 100000 in
/-- change -/
theorem c1_change (l : Launch) (D : va_G) (cW : ClassId) (h0 hw n : Nat) (q : Nat → Nat) (g : Nat → Option Nat) (sp : Nat → Int64) (lo ph : Nat → Int32) (pr bo : Nat → Int64) (mo : Nat → UInt64) (rf : Int64) (hd gr st nx : Int32) (hn : n ≤ 8) (hg : ∀ i, i < n → g i = some (q i)) (gx gy : Int32) (sz : Nat) : Met l yX1_change wsX1_change ({ frames := 0, cells := 0, slots := 0, locals := 0 }) (va_Pc [.ref h0, .int gx, .int gy] (xW D [(cW, .object RX0)] (cw h0 hw cW n q g sp lo ph pr bo mo rf hd gr st nx) sz)) (va_Qv (fun (u : (Int32) × (Int32)) => u.1 = gx ∧ u.2 = st + gy) (fun (u : (Int32) × (Int32)) => xB D [(cW, .object RX0)] (va_A (cw h0 hw cW n q g sp lo ph pr bo mo rf hd gr st nx) sz) (cw h0 hw cW n q g sp lo ph pr bo mo rf hd u.1 st u.2)) (va_A (cw h0 hw cW n q g sp lo ph pr bo mo rf hd gr st nx) sz)) 0 0 (va_A (cw h0 hw cW n q g sp lo ph pr bo mo rf hd gr st nx) sz) := by
  refine Met.ofW (cc := cX1_change) (maxL := 3) (ret := none) (by decide) rfl ?_
  intro p e s m args below meth c s₁ B hml hv
  obtain ⟨rfl, hsz, ⟨hP, hK, hN⟩, hDt⟩ := hv
  have hx := B.exec
  have hb := B.bytes
  have hr := B.returns
  have hts := atoms_spec (ws := wsX1_change) B.pre
  have hown : s.vm.findClass RX1 = some m.cls := findClass_of_methodNamed B.named
  have hlocks := B.notSynchronized
  have hm1 : (.fieldLink RX1 16 "GearBrake" "gear" "I" : Cond) ∈ wsX1_change := by decide +kernel
  have hm2 : (.fieldLink RX1 40 "GearBrake" "steps" "I" : Cond) ∈ wsX1_change := by decide +kernel
  have hm3 : (.fieldLink RX1 129 "GearBrake" "nextShift" "I" : Cond) ∈ wsX1_change := by decide +kernel
  subst hsz
  have hD := hDt.self (sz := s.heap.size)
  generalize hAe : va_A (cw h0 hw cW n q g sp lo ph pr bo mo rf hd gr st nx) s.heap.size = A at hD ⊢
  have hA : ∀ q : Nat, s.heap.size ≤ q → A q := fun q h => by rw [← hAe]; exact Or.inr h
  have hS : va_S A s.heap s.heap [] := va_S.rf
  have hl := lv_entry ([.ref h0, .int gx, .int gy]) (n := 3) (Nat.le_of_ble_eq_true rfl)
  rw [lg_entry_eq]
  generalize (lg_sl ([.ref h0, .int gx, .int gy]) ++ List.replicate (3 - (lg_sl ([.ref h0, .int gx, .int gy])).length) Slot.unset).toArray = ls at hl ⊢
  replace hl : lv_has ls 3 [(0, .ref h0), (1, .int gx), (2, .int gy)] := hl
  refine lv_aload_n hx hb dX1_change_0 rfl (lv_at hl 0 rfl) ?_
  refine lv_iload_n hx hb dX1_change_1 rfl (lv_at hl 1 rfl) ?_
  refine va_put (D := D) (ci := 1) (v := .int gx) (ty := .int) (C := RX1) (T := TX1) (N := 6) hx hb hts (by decide +kernel) tyX1 tyX1_ok nmX1 hown hK hP hD hS 0 rfl rfl 3 (by decide) (hts _ hm1) (fun _ h9 => h9) rfl (by decide +kernel) rfl rfl (Nat.le_of_ble_eq_true rfl) dX1_change_2 (fun H locs hP hD hS => ?_)
  replace hP : va_P D vwCl (cw h0 hw cW n q g sp lo ph pr bo mo rf hd gx st nx) H := hP
  replace hD : va_D A (cw h0 hw cW n q g sp lo ph pr bo mo rf hd gx st nx) := hD
  refine lv_aload_n hx hb dX1_change_5 rfl (lv_at hl 0 rfl) ?_
  refine lv_aload_n hx hb dX1_change_6 rfl (lv_at hl 0 rfl) ?_
  refine va_get (D := D) (ci := 1) (v := .int st) (C := RX1) (T := TX1) (N := 6) hx hb hts (by decide +kernel) hown hK hP 0 rfl rfl 4 (by decide) (hts _ hm2) (fun _ h9 => h9) rfl dX1_change_7 ?_
  refine lv_iload_n hx hb dX1_change_10 rfl (lv_at hl 2 rfl) ?_
  refine lv_iadd hx hb dX1_change_11 ?_
  refine va_put (D := D) (ci := 1) (v := .int (st + gy)) (ty := .int) (C := RX1) (T := TX1) (N := 6) hx hb hts (by decide +kernel) tyX1 tyX1_ok nmX1 hown hK hP hD hS 0 rfl rfl 5 (by decide) (hts _ hm3) (fun _ h9 => h9) rfl (by decide +kernel) rfl rfl (Nat.le_of_ble_eq_true rfl) dX1_change_12 (fun H locs hP hD hS => ?_)
  replace hP : va_P D vwCl (cw h0 hw cW n q g sp lo ph pr bo mo rf hd gx st (st + gy)) H := hP
  replace hD : va_D A (cw h0 hw cW n q g sp lo ph pr bo mo rf hd gx st (st + gy)) := hD
  exact W.vret hx hb hr (fun t ht hW => ⟨⟨(gx, st + gy), rfl, ⟨rfl, rfl⟩, xB_end hP hK hN hD ht hW⟩, hS.F ht⟩) hS.2.2 dX1_change_15
set_option maxHeartbeats 4000000 in
set_option maxRecDepth 100000 in
/-- shift -/
theorem c1_shift (l : Launch) (D : va_G) (cW : ClassId) (h0 hw n : Nat) (q : Nat → Nat) (g : Nat → Option Nat) (sp : Nat → Int64) (lo ph : Nat → Int32) (pr bo : Nat → Int64) (mo : Nat → UInt64) (rf : Int64) (hd gr st nx : Int32) (hn : n ≤ 8) (hg : ∀ i, i < n → g i = some (q i)) (sl : Int64) (sz : Nat) : Met l yX1_shift wsX1_shift ({ frames := 1, cells := 0, slots := 0, locals := 23 }) (va_Pc [.ref h0, .long sl] (xW D [(cW, .object RX0)] (cw h0 hw cW n q g sp lo ph pr bo mo rf hd gr st nx) sz)) (va_Qv (fun (u : (Int32) × (Int32)) => u.1 = (if nx ≤ st then sGr (sCode gr rf (cMx sl)) gr else gr) ∧ u.2 = (if nx ≤ st then sNx (sCode gr rf (cMx sl)) nx (st + 3) else nx)) (fun (u : (Int32) × (Int32)) => xB D [(cW, .object RX0)] (va_A (cw h0 hw cW n q g sp lo ph pr bo mo rf hd gr st nx) sz) (cw h0 hw cW n q g sp lo ph pr bo mo rf hd u.1 st u.2)) (va_A (cw h0 hw cW n q g sp lo ph pr bo mo rf hd gr st nx) sz)) 0 0 (va_A (cw h0 hw cW n q g sp lo ph pr bo mo rf hd gr st nx) sz) := by
  refine Met.ofW (cc := cX1_shift) (maxL := 3) (ret := none) (by decide) rfl ?_
  intro p e s m args below meth c s₁ B hml hv
  obtain ⟨rfl, hsz, ⟨hP, hK, hN⟩, hDt⟩ := hv
  have hx := B.exec
  have hb := B.bytes
  have hr := B.returns
  have hts := atoms_spec (ws := wsX1_shift) B.pre
  have hown : s.vm.findClass RX1 = some m.cls := findClass_of_methodNamed B.named
  have hlocks := B.notSynchronized
  have hm1 : (.fieldLink RX1 40 "GearBrake" "steps" "I" : Cond) ∈ wsX1_shift := by decide +kernel
  have hm2 : (.fieldLink RX1 129 "GearBrake" "nextShift" "I" : Cond) ∈ wsX1_shift := by decide +kernel
  have hm3 : (.fieldLink RX1 16 "GearBrake" "gear" "I" : Cond) ∈ wsX1_shift := by decide +kernel
  have hm4 : (.fieldLink RX1 47 "GearBrake" "reference" "J" : Cond) ∈ wsX1_shift := by decide +kernel
  have hm5 : (.constantLong RX1 61 (20) : Cond) ∈ wsX1_shift := by decide +kernel
  have hm6 : (.constantLong RX1 105 (10) : Cond) ∈ wsX1_shift := by decide +kernel
  have hm7 : (.methodLink RX1 122 Lib.MathLoose.max_long.x : Cond) ∈ wsX1_shift := by decide +kernel
  have hm8 : (.static Lib.MathLoose.max_long.x : Cond) ∈ wsX1_shift := by decide +kernel
  have hm9 : (.initialized "java/lang/Math" : Cond) ∈ wsX1_shift := by decide +kernel
  have hm10 : (.code Lib.MathLoose.max_long.x Lib.MathLoose.max_long.code 4 (some .long) : Cond) ∈ wsX1_shift := by decide +kernel
  subst hsz
  have hD := hDt.self (sz := s.heap.size)
  generalize hAe : va_A (cw h0 hw cW n q g sp lo ph pr bo mo rf hd gr st nx) s.heap.size = A at hD ⊢
  have hA : ∀ q : Nat, s.heap.size ≤ q → A q := fun q h => by rw [← hAe]; exact Or.inr h
  have hS : va_S A s.heap s.heap [] := va_S.rf
  have hl := lv_entry ([.ref h0, .long sl]) (n := 3) (Nat.le_of_ble_eq_true rfl)
  rw [lg_entry_eq]
  generalize (lg_sl ([.ref h0, .long sl]) ++ List.replicate (3 - (lg_sl ([.ref h0, .long sl])).length) Slot.unset).toArray = ls at hl ⊢
  replace hl : lv_has ls 3 [(0, .ref h0), (1, .long sl)] := hl
  refine lv_aload_n hx hb dX1_shift_0 rfl (lv_at hl 0 rfl) ?_
  refine va_get (D := D) (ci := 1) (v := .int st) (C := RX1) (T := TX1) (N := 6) hx hb hts (by decide +kernel) hown hK hP 0 rfl rfl 4 (by decide) (hts _ hm1) (fun _ h9 => h9) rfl dX1_shift_1 ?_
  refine lv_aload_n hx hb dX1_shift_4 rfl (lv_at hl 0 rfl) ?_
  refine va_get (D := D) (ci := 1) (v := .int nx) (C := RX1) (T := TX1) (N := 6) hx hb hts (by decide +kernel) hown hK hP 0 rfl rfl 5 (by decide) (hts _ hm2) (fun _ h9 => h9) rfl dX1_shift_5 ?_
  refine lv_icmp_ge (tgt := 12) hx hb dX1_shift_8 (by decide) (fun c_1 => ?_) (fun c_1 => ?_)
  · skip
    refine lv_aload_n hx hb dX1_shift_12 rfl (lv_at hl 0 rfl) ?_
    refine va_get (D := D) (ci := 1) (v := .int gr) (C := RX1) (T := TX1) (N := 6) hx hb hts (by decide +kernel) hown hK hP 0 rfl rfl 3 (by decide) (hts _ hm3) (fun _ h9 => h9) rfl dX1_shift_13 ?_
    refine lv_bipush (v := 6) hx hb dX1_shift_16 (by decide) ?_
    refine lv_icmp_ge (tgt := 62) hx hb dX1_shift_18 (by decide) (fun c_2 => ?_) (fun c_2 => ?_)
    · skip
      refine lv_aload_n hx hb dX1_shift_62 rfl (lv_at hl 0 rfl) ?_
      refine va_get (D := D) (ci := 1) (v := .int gr) (C := RX1) (T := TX1) (N := 6) hx hb hts (by decide +kernel) hown hK hP 0 rfl rfl 3 (by decide) (hts _ hm3) (fun _ h9 => h9) rfl dX1_shift_63 ?_
      refine lv_iconst (v := 1) hx hb dX1_shift_66 (by decide) ?_
      refine lv_icmp_le (tgt := 100) hx hb dX1_shift_67 (by decide) (fun c_3 => ?_) (fun c_3 => ?_)
      · skip
        exact W.vret hx hb hr (fun t ht hW => ⟨⟨(gr, nx), rfl, by simp [sCode, sGr, sNx, cMx, c_1, c_2, c_3], xB_end hP hK hN hD ht hW⟩, hS.F ht⟩) hS.2.2 dX1_shift_100
      · skip
        refine lv_aload_n hx hb dX1_shift_70 rfl (lv_at hl 0 rfl) ?_
        refine va_get (D := D) (ci := 1) (v := .long rf) (C := RX1) (T := TX1) (N := 6) hx hb hts (by decide +kernel) hown hK hP 0 rfl rfl 1 (by decide) (hts _ hm4) (fun _ h9 => h9) rfl dX1_shift_71 ?_
        refine lv_ldc2 hx hb hown (hts _ hm5) dX1_shift_74 ?_
        refine lv_aload_n hx hb dX1_shift_77 rfl (lv_at hl 0 rfl) ?_
        refine va_get (D := D) (ci := 1) (v := .int gr) (C := RX1) (T := TX1) (N := 6) hx hb hts (by decide +kernel) hown hK hP 0 rfl rfl 3 (by decide) (hts _ hm3) (fun _ h9 => h9) rfl dX1_shift_78 ?_
        refine lv_iconst (v := 1) hx hb dX1_shift_81 (by decide) ?_
        refine lv_isub hx hb dX1_shift_82 ?_
        refine lv_i2l hx hb dX1_shift_83 rfl ?_
        refine lv_lmul hx hb dX1_shift_84 ?_
        refine W.lcmp hx hb dX1_shift_85 ?_
        refine lv_if_ge (tgt := 100) hx hb dX1_shift_86 (by decide) (fun c_4 => ?_) (fun c_4 => ?_)
        · skip
          replace c_4 := (lg_cmp_ge _ _).mp c_4
          exact W.vret hx hb hr (fun t ht hW => ⟨⟨(gr, nx), rfl, by simp [sCode, sGr, sNx, cMx, c_1, c_2, c_3, c_4], xB_end hP hK hN hD ht hW⟩, hS.F ht⟩) hS.2.2 dX1_shift_100
        · skip
          replace c_4 := mt (lg_cmp_ge _ _).mpr c_4
          refine lv_aload_n hx hb dX1_shift_89 rfl (lv_at hl 0 rfl) ?_
          refine lv_aload_n hx hb dX1_shift_90 rfl (lv_at hl 0 rfl) ?_
          refine va_get (D := D) (ci := 1) (v := .int gr) (C := RX1) (T := TX1) (N := 6) hx hb hts (by decide +kernel) hown hK hP 0 rfl rfl 3 (by decide) (hts _ hm3) (fun _ h9 => h9) rfl dX1_shift_91 ?_
          refine lv_iconst (v := 1) hx hb dX1_shift_94 (by decide) ?_
          refine lv_isub hx hb dX1_shift_95 ?_
          refine lv_iconst (v := 3) hx hb dX1_shift_96 (by decide) ?_
          have hF := xF hD hS hA
          refine va_callv (va_runV (As := [.int (gr - 1), .int 3]) (rest := []) ⟨hx, hb, hml, hown, hts⟩ (c1_change l D cW h0 hw n q g sp lo ph pr bo mo rf hd gr st nx hn hg (gr - 1) 3 _) (cwV 2 hts gX1_shift_X1_change rfl rfl rfl (by decide +kernel) ⟨Nat.le_of_ble_eq_true rfl, Nat.le_of_ble_eq_true rfl⟩) ⟨xW_blind, va_recv hK hP (ci := 1) (q0 := 0) rfl rfl, xW_at hP hK hN hD⟩ rfl rfl hl.1 rfl (lv_room (Nat.le_of_ble_eq_true rfl)) dX1_shift_97 ⟨Nat.le_of_ble_eq_true rfl, Nat.le_of_ble_eq_true rfl⟩) hS (fun q _ h => hF q h) hF (fun u t H locs ht hvm hpo hB hz1 hk1 hS => ?_)
          obtain ⟨hP, hD⟩ := xB_use hB ht hF
          obtain ⟨u1, u2⟩ := u
          dsimp only at hpo hP hD
          rw [hpo.1, hpo.2] at hP hD
          clear hB hk1 hz1 ht hvm
          replace hP : va_P D vwCl (cw h0 hw cW n q g sp lo ph pr bo mo rf hd (gr - 1) st (st + 3)) H := hP
          replace hD : va_D A (cw h0 hw cW n q g sp lo ph pr bo mo rf hd (gr - 1) st (st + 3)) := hD
          exact W.vret hx hb hr (fun t ht hW => ⟨⟨(gr - 1, st + 3), rfl, by simp [sCode, sGr, sNx, cMx, c_1, c_2, c_3, c_4], xB_end hP hK hN hD ht hW⟩, hS.F ht⟩) hS.2.2 dX1_shift_100
    · skip
      refine lv_aload_n hx hb dX1_shift_21 rfl (lv_at hl 0 rfl) ?_
      refine va_get (D := D) (ci := 1) (v := .long rf) (C := RX1) (T := TX1) (N := 6) hx hb hts (by decide +kernel) hown hK hP 0 rfl rfl 1 (by decide) (hts _ hm4) (fun _ h9 => h9) rfl dX1_shift_22 ?_
      refine lv_ldc2 hx hb hown (hts _ hm5) dX1_shift_25 ?_
      refine lv_aload_n hx hb dX1_shift_28 rfl (lv_at hl 0 rfl) ?_
      refine va_get (D := D) (ci := 1) (v := .int gr) (C := RX1) (T := TX1) (N := 6) hx hb hts (by decide +kernel) hown hK hP 0 rfl rfl 3 (by decide) (hts _ hm3) (fun _ h9 => h9) rfl dX1_shift_29 ?_
      refine lv_i2l hx hb dX1_shift_32 rfl ?_
      refine lv_lmul hx hb dX1_shift_33 ?_
      refine lv_ldc2 hx hb hown (hts _ hm6) dX1_shift_34 ?_
      refine lv_ladd hx hb dX1_shift_37 ?_
      refine lv_lload_n hx hb dX1_shift_38 rfl (lv_at hl 1 rfl) ?_
      refine lv_lconst (v := 0) hx hb dX1_shift_39 (by decide) ?_
      refine va_mmax_long hx hb (by rw [hml]; exact hl.1.symm) hown (hts _ hm7) (hts _ hm8) (hts _ hm9) (hts _ hm10) (Nat.le_of_ble_eq_true rfl) (Nat.le_of_ble_eq_true rfl) (Nat.le_of_ble_eq_true rfl) (Nat.le_of_ble_eq_true rfl) dX1_shift_40 ?_
      refine lv_ladd hx hb dX1_shift_43 ?_
      refine W.lcmp hx hb dX1_shift_44 ?_
      refine lv_if_le (tgt := 62) hx hb dX1_shift_45 (by decide) (fun c_5 => ?_) (fun c_5 => ?_)
      · skip
        replace c_5 := (lg_cmp_le _ _).mp c_5
        refine lv_aload_n hx hb dX1_shift_62 rfl (lv_at hl 0 rfl) ?_
        refine va_get (D := D) (ci := 1) (v := .int gr) (C := RX1) (T := TX1) (N := 6) hx hb hts (by decide +kernel) hown hK hP 0 rfl rfl 3 (by decide) (hts _ hm3) (fun _ h9 => h9) rfl dX1_shift_63 ?_
        refine lv_iconst (v := 1) hx hb dX1_shift_66 (by decide) ?_
        refine lv_icmp_le (tgt := 100) hx hb dX1_shift_67 (by decide) (fun c_6 => ?_) (fun c_6 => ?_)
        · skip
          exact W.vret hx hb hr (fun t ht hW => ⟨⟨(gr, nx), rfl, by simp [sCode, sGr, sNx, cMx, c_1, c_2, c_5, c_6], xB_end hP hK hN hD ht hW⟩, hS.F ht⟩) hS.2.2 dX1_shift_100
        · skip
          refine lv_aload_n hx hb dX1_shift_70 rfl (lv_at hl 0 rfl) ?_
          refine va_get (D := D) (ci := 1) (v := .long rf) (C := RX1) (T := TX1) (N := 6) hx hb hts (by decide +kernel) hown hK hP 0 rfl rfl 1 (by decide) (hts _ hm4) (fun _ h9 => h9) rfl dX1_shift_71 ?_
          refine lv_ldc2 hx hb hown (hts _ hm5) dX1_shift_74 ?_
          refine lv_aload_n hx hb dX1_shift_77 rfl (lv_at hl 0 rfl) ?_
          refine va_get (D := D) (ci := 1) (v := .int gr) (C := RX1) (T := TX1) (N := 6) hx hb hts (by decide +kernel) hown hK hP 0 rfl rfl 3 (by decide) (hts _ hm3) (fun _ h9 => h9) rfl dX1_shift_78 ?_
          refine lv_iconst (v := 1) hx hb dX1_shift_81 (by decide) ?_
          refine lv_isub hx hb dX1_shift_82 ?_
          refine lv_i2l hx hb dX1_shift_83 rfl ?_
          refine lv_lmul hx hb dX1_shift_84 ?_
          refine W.lcmp hx hb dX1_shift_85 ?_
          refine lv_if_ge (tgt := 100) hx hb dX1_shift_86 (by decide) (fun c_7 => ?_) (fun c_7 => ?_)
          · skip
            replace c_7 := (lg_cmp_ge _ _).mp c_7
            exact W.vret hx hb hr (fun t ht hW => ⟨⟨(gr, nx), rfl, by simp [sCode, sGr, sNx, cMx, c_1, c_2, c_5, c_6, c_7], xB_end hP hK hN hD ht hW⟩, hS.F ht⟩) hS.2.2 dX1_shift_100
          · skip
            replace c_7 := mt (lg_cmp_ge _ _).mpr c_7
            refine lv_aload_n hx hb dX1_shift_89 rfl (lv_at hl 0 rfl) ?_
            refine lv_aload_n hx hb dX1_shift_90 rfl (lv_at hl 0 rfl) ?_
            refine va_get (D := D) (ci := 1) (v := .int gr) (C := RX1) (T := TX1) (N := 6) hx hb hts (by decide +kernel) hown hK hP 0 rfl rfl 3 (by decide) (hts _ hm3) (fun _ h9 => h9) rfl dX1_shift_91 ?_
            refine lv_iconst (v := 1) hx hb dX1_shift_94 (by decide) ?_
            refine lv_isub hx hb dX1_shift_95 ?_
            refine lv_iconst (v := 3) hx hb dX1_shift_96 (by decide) ?_
            have hF := xF hD hS hA
            refine va_callv (va_runV (As := [.int (gr - 1), .int 3]) (rest := []) ⟨hx, hb, hml, hown, hts⟩ (c1_change l D cW h0 hw n q g sp lo ph pr bo mo rf hd gr st nx hn hg (gr - 1) 3 _) (cwV 2 hts gX1_shift_X1_change rfl rfl rfl (by decide +kernel) ⟨Nat.le_of_ble_eq_true rfl, Nat.le_of_ble_eq_true rfl⟩) ⟨xW_blind, va_recv hK hP (ci := 1) (q0 := 0) rfl rfl, xW_at hP hK hN hD⟩ rfl rfl hl.1 rfl (lv_room (Nat.le_of_ble_eq_true rfl)) dX1_shift_97 ⟨Nat.le_of_ble_eq_true rfl, Nat.le_of_ble_eq_true rfl⟩) hS (fun q _ h => hF q h) hF (fun u t H locs ht hvm hpo hB hz1 hk1 hS => ?_)
            obtain ⟨hP, hD⟩ := xB_use hB ht hF
            obtain ⟨u1, u2⟩ := u
            dsimp only at hpo hP hD
            rw [hpo.1, hpo.2] at hP hD
            clear hB hk1 hz1 ht hvm
            replace hP : va_P D vwCl (cw h0 hw cW n q g sp lo ph pr bo mo rf hd (gr - 1) st (st + 3)) H := hP
            replace hD : va_D A (cw h0 hw cW n q g sp lo ph pr bo mo rf hd (gr - 1) st (st + 3)) := hD
            exact W.vret hx hb hr (fun t ht hW => ⟨⟨(gr - 1, st + 3), rfl, by simp [sCode, sGr, sNx, cMx, c_1, c_2, c_5, c_6, c_7], xB_end hP hK hN hD ht hW⟩, hS.F ht⟩) hS.2.2 dX1_shift_100
      · skip
        replace c_5 := mt (lg_cmp_le _ _).mpr c_5
        refine lv_aload_n hx hb dX1_shift_48 rfl (lv_at hl 0 rfl) ?_
        refine lv_aload_n hx hb dX1_shift_49 rfl (lv_at hl 0 rfl) ?_
        refine va_get (D := D) (ci := 1) (v := .int gr) (C := RX1) (T := TX1) (N := 6) hx hb hts (by decide +kernel) hown hK hP 0 rfl rfl 3 (by decide) (hts _ hm3) (fun _ h9 => h9) rfl dX1_shift_50 ?_
        refine lv_iconst (v := 1) hx hb dX1_shift_53 (by decide) ?_
        refine lv_iadd hx hb dX1_shift_54 ?_
        refine lv_iconst (v := 3) hx hb dX1_shift_55 (by decide) ?_
        have hF := xF hD hS hA
        refine va_callv (va_runV (As := [.int (gr + 1), .int 3]) (rest := []) ⟨hx, hb, hml, hown, hts⟩ (c1_change l D cW h0 hw n q g sp lo ph pr bo mo rf hd gr st nx hn hg (gr + 1) 3 _) (cwV 2 hts gX1_shift_X1_change rfl rfl rfl (by decide +kernel) ⟨Nat.le_of_ble_eq_true rfl, Nat.le_of_ble_eq_true rfl⟩) ⟨xW_blind, va_recv hK hP (ci := 1) (q0 := 0) rfl rfl, xW_at hP hK hN hD⟩ rfl rfl hl.1 rfl (lv_room (Nat.le_of_ble_eq_true rfl)) dX1_shift_56 ⟨Nat.le_of_ble_eq_true rfl, Nat.le_of_ble_eq_true rfl⟩) hS (fun q _ h => hF q h) hF (fun u t H locs ht hvm hpo hB hz1 hk1 hS => ?_)
        obtain ⟨hP, hD⟩ := xB_use hB ht hF
        obtain ⟨u1, u2⟩ := u
        dsimp only at hpo hP hD
        rw [hpo.1, hpo.2] at hP hD
        clear hB hk1 hz1 ht hvm
        replace hP : va_P D vwCl (cw h0 hw cW n q g sp lo ph pr bo mo rf hd (gr + 1) st (st + 3)) H := hP
        replace hD : va_D A (cw h0 hw cW n q g sp lo ph pr bo mo rf hd (gr + 1) st (st + 3)) := hD
        refine lv_goto (tgt := 100) hx hb dX1_shift_59 (by decide) ?_
        exact W.vret hx hb hr (fun t ht hW => ⟨⟨(gr + 1, st + 3), rfl, by simp [sCode, sGr, sNx, cMx, c_1, c_2, c_5], xB_end hP hK hN hD ht hW⟩, hS.F ht⟩) hS.2.2 dX1_shift_100
  · skip
    exact W.vret hx hb hr (fun t ht hW => ⟨⟨(gr, nx), rfl, by simp [sCode, sGr, sNx, cMx, c_1], xB_end hP hK hN hD ht hW⟩, hS.F ht⟩) hS.2.2 dX1_shift_11
