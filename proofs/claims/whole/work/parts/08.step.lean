/-! ===== the car: a step ===== -/
set_option maxHeartbeats 4000000 in
set_option maxRecDepth 100000 in
/-- step -/
theorem c1_step (l : Launch) (D : va_G) (cW : ClassId) (h0 hw n : Nat) (q : Nat → Nat) (g : Nat → Option Nat) (sp : Nat → Int64) (lo ph : Nat → Int32) (pr bo : Nat → Int64) (mo : Nat → UInt64) (rf : Int64) (hd gr st nx : Int32) (hn : n ≤ 8) (hg : ∀ i, i < n → g i = some (q i)) (ped sl : Int64) (sz : Nat) : MetD lw_cs l yX1_step wsX1_step ({ frames := 3, cells := 0, slots := 0, locals := 80 }) (va_Pc [.ref h0, .long ped, .long sl] (xW D [(cW, .object RX0)] (cw h0 hw cW n q g sp lo ph pr bo mo rf hd gr st nx) sz)) (va_Qi (fun (r : Int32) (u : (Nat → Int32) × (Nat → Int64) × (Nat → UInt64) × (Int64) × (Int32) × (Int32) × (Int32) × (Int32)) => (fBad ped sl → r = -2 ∧ u = (ph, pr, mo, rf, hd, gr, st, nx)) ∧ (¬ fBad ped sl → ∃ mo2, u = (jPh lo ph (cRef n ped rf lo sp) ped sp pr n, jPr cPr lo ph (cRef n ped rf lo sp) ped sp pr bo hd n, mo2, cRef n ped rf lo sp, if cRef n ped rf lo sp ≤ 20 then hd else 0, (if nx ≤ st + 1 then sGr (sCode gr (cRef n ped rf lo sp) (cMx sl)) gr else gr), st + 1, if nx ≤ st + 1 then sNx (sCode gr (cRef n ped rf lo sp) (cMx sl)) nx (st + 1 + 3) else nx) ∧ r = (if nx ≤ st + 1 then sGr (sCode gr (cRef n ped rf lo sp) (cMx sl)) gr else gr) ∧ ∀ k, 1 ≤ k → k ≤ n → stepM (mo k) (sp k) (jPr cPr lo ph (cRef n ped rf lo sp) ped sp pr bo hd n k) (mo2 k))) (fun (u : (Nat → Int32) × (Nat → Int64) × (Nat → UInt64) × (Int64) × (Int32) × (Int32) × (Int32) × (Int32)) => xB D [(cW, .object RX0)] (va_A (cw h0 hw cW n q g sp lo ph pr bo mo rf hd gr st nx) sz) (cw h0 hw cW n q g sp lo u.1 u.2.1 bo u.2.2.1 u.2.2.2.1 u.2.2.2.2.1 u.2.2.2.2.2.1 u.2.2.2.2.2.2.1 u.2.2.2.2.2.2.2)) (va_A (cw h0 hw cW n q g sp lo ph pr bo mo rf hd gr st nx) sz)) 0 0 (va_A (cw h0 hw cW n q g sp lo ph pr bo mo rf hd gr st nx) sz) := by
  refine MetD.ofW (cc := cX1_step) (maxL := 6) (ret := (some .int)) (by decide) rfl ?_
  intro p e s m args below meth c s₁ B hml hv hd0
  obtain ⟨rfl, hsz, ⟨hP, hK, hN⟩, hDt⟩ := hv
  have hx := B.exec
  have hb := B.bytes
  have hr := B.returns
  have hts := atoms_spec (ws := wsX1_step) B.pre
  have hown : s.vm.findClass RX1 = some m.cls := findClass_of_methodNamed B.named
  have hlocks := B.notSynchronized
  have hm1 : (.constantLong RX1 34 (100) : Cond) ∈ wsX1_step := by decide +kernel
  have hm2 : (.constantLong RX1 36 (-30) : Cond) ∈ wsX1_step := by decide +kernel
  have hm3 : (.constantLong RX1 38 (30) : Cond) ∈ wsX1_step := by decide +kernel
  have hm4 : (.fieldLink RX1 40 "GearBrake" "steps" "I" : Cond) ∈ wsX1_step := by decide +kernel
  have hm5 : (.fieldLink RX1 47 "GearBrake" "reference" "J" : Cond) ∈ wsX1_step := by decide +kernel
  have hm6 : (.fieldLink RX1 11 "GearBrake" "wheels" "[LGearBrake$Wheel;" : Cond) ∈ wsX1_step := by decide +kernel
  have hm7 : (.constantLong RX1 61 (20) : Cond) ∈ wsX1_step := by decide +kernel
  have hm8 : (.fieldLink RX1 16 "GearBrake" "gear" "I" : Cond) ∈ wsX1_step := by decide +kernel
  have hm9 : (.fieldLink RX1 50 "GearBrake" "held" "Z" : Cond) ∈ wsX1_step := by decide +kernel
  have hm10 : (.initialized RX0 : Cond) ∈ wsX1_step := by decide +kernel
  have hm11 : (.instanceMethod yX0_brake : Cond) ∈ wsX1_step := by decide +kernel
  have hm12 : (.selects RX0 yX0_brake yX0_brake : Cond) ∈ wsX1_step := by decide +kernel
  have hm13 : (.instanceMethod yX0_followModel : Cond) ∈ wsX1_step := by decide +kernel
  have hm14 : (.selects RX0 yX0_followModel yX0_followModel : Cond) ∈ wsX1_step := by decide +kernel
  subst hsz
  have hD := hDt.self (sz := s.heap.size)
  generalize hAe : va_A (cw h0 hw cW n q g sp lo ph pr bo mo rf hd gr st nx) s.heap.size = A at hD ⊢
  have hA : ∀ q : Nat, s.heap.size ≤ q → A q := fun q h => by rw [← hAe]; exact Or.inr h
  have hS : va_S A s.heap s.heap [] := va_S.rf
  have hts0 := hts
  have hN0 := hN
  have hK0 := hK
  obtain ⟨dd, hde, hdd⟩ : ∃ dd, dd = s.drawn ∧ s.drawn.sameBut dd lw_cs := ⟨_, rfl, hd0⟩
  rw [← hde]
  clear hde
  have hts := dr_words hts0 dd
  have hN := cN_draw (d := dd) hN0
  have hK : va_K D vwCl [(cW, .object RX0)] (s.setDrawn dd) := hK0
  have hl := lv_entry ([.ref h0, .long ped, .long sl]) (n := 6) (Nat.le_of_ble_eq_true rfl)
  rw [lg_entry_eq]
  generalize (lg_sl ([.ref h0, .long ped, .long sl]) ++ List.replicate (6 - (lg_sl ([.ref h0, .long ped, .long sl])).length) Slot.unset).toArray = ls at hl ⊢
  replace hl : lv_has ls 6 [(0, .ref h0), (1, .long ped), (3, .long sl)] := hl
  refine lv_lload_n hx hb dX1_step_0 rfl (lv_at hl 1 rfl) ?_
  refine lv_lconst (v := 0) hx hb dX1_step_1 (by decide) ?_
  refine lv_ldc2 hx hb hown (hts _ hm1) dX1_step_2 ?_
  refine vp_callSi (W.runS (As := [.long ped, .long 0, .long 100]) (rest := []) ⟨hx, hb, hml, hown, hts⟩ (c1_within l ped 0 100) (va_cwS 3 hts gX1_step_X1_isWithin rfl rfl rfl (by decide +kernel) ⟨Nat.le_of_ble_eq_true rfl, Nat.le_of_ble_eq_true rfl⟩) ⟨fun _ _ _ _ h => h, fun _ _ _ => ⟨rfl, trivial⟩⟩ rfl rfl hl.1 rfl (lv_room (Nat.le_of_ble_eq_true rfl)) dX1_step_5 ⟨Nat.le_of_ble_eq_true rfl, Nat.le_of_ble_eq_true rfl⟩) (fun r_1 hr_2 => ?_)
  rcases hr_2 with ⟨rfl, k_3, k_4⟩ | ⟨rfl, k_3⟩
  · skip
    refine lv_if_eq (tgt := 24) hx hb dX1_step_8 (by decide) (fun c_5 => absurd c_5 (by decide)) (fun c_5 => ?_)
    refine lv_lload_n hx hb dX1_step_11 rfl (lv_at hl 2 rfl) ?_
    refine lv_ldc2 hx hb hown (hts _ hm2) dX1_step_12 ?_
    refine lv_ldc2 hx hb hown (hts _ hm3) dX1_step_15 ?_
    refine vp_callSi (W.runS (As := [.long sl, .long (-30), .long 30]) (rest := []) ⟨hx, hb, hml, hown, hts⟩ (c1_within l sl (-30) 30) (va_cwS 3 hts gX1_step_X1_isWithin rfl rfl rfl (by decide +kernel) ⟨Nat.le_of_ble_eq_true rfl, Nat.le_of_ble_eq_true rfl⟩) ⟨fun _ _ _ _ h => h, fun _ _ _ => ⟨rfl, trivial⟩⟩ rfl rfl hl.1 rfl (lv_room (Nat.le_of_ble_eq_true rfl)) dX1_step_18 ⟨Nat.le_of_ble_eq_true rfl, Nat.le_of_ble_eq_true rfl⟩) (fun r_6 hr_7 => ?_)
    rcases hr_7 with ⟨rfl, k_8, k_9⟩ | ⟨rfl, k_8⟩
    · skip
      refine lv_if_ne (tgt := 27) hx hb dX1_step_21 (by decide) (fun c_10 => ?_) (fun c_10 => absurd c_10 (by decide))
      refine lv_aload_n hx hb dX1_step_27 rfl (lv_at hl 0 rfl) ?_
      refine lv_dup hx hb dX1_step_28 rfl ?_
      refine va_get (D := D) (ci := 1) (v := .int st) (C := RX1) (T := TX1) (N := 6) hx hb hts (by decide +kernel) hown hK hP 0 rfl rfl 4 (by decide) (hts _ hm4) (fun _ h9 => h9) rfl dX1_step_29 ?_
      refine lv_iconst (v := 1) hx hb dX1_step_32 (by decide) ?_
      refine lv_iadd hx hb dX1_step_33 ?_
      refine va_put (D := D) (ci := 1) (v := .int (st + 1)) (ty := .int) (C := RX1) (T := TX1) (N := 6) hx hb hts (by decide +kernel) tyX1 tyX1_ok nmX1 hown hK hP hD hS 0 rfl rfl 4 (by decide) (hts _ hm4) (fun _ h9 => h9) rfl (by decide +kernel) rfl rfl (Nat.le_of_ble_eq_true rfl) dX1_step_34 (fun H locs hP hD hS => ?_)
      replace hP : va_P D vwCl (cw h0 hw cW n q g sp lo ph pr bo mo rf hd gr (st + 1) nx) H := hP
      replace hD : va_D A (cw h0 hw cW n q g sp lo ph pr bo mo rf hd gr (st + 1) nx) := hD
      refine lv_aload_n hx hb dX1_step_37 rfl (lv_at hl 0 rfl) ?_
      refine lv_aload_n hx hb dX1_step_38 rfl (lv_at hl 0 rfl) ?_
      refine lv_lload_n hx hb dX1_step_39 rfl (lv_at hl 1 rfl) ?_
      refine vp_callSl (W.runV (As := [.long ped]) (rest := [.ref h0]) ⟨hx, hb, hml, hown, hts⟩ (c1_nextRef l D cW h0 hw n q g sp lo ph pr bo mo rf hd gr (st + 1) nx hn hg ped) (cwV 1 hts gX1_step_X1_nextReference rfl rfl rfl (by decide +kernel) ⟨Nat.le_of_ble_eq_true rfl, Nat.le_of_ble_eq_true rfl⟩) ⟨xP_blind, va_recv hK hP (ci := 1) (q0 := 0) rfl rfl, xP_at hP hK hN⟩ rfl rfl hl.1 rfl (lv_room (Nat.le_of_ble_eq_true rfl)) dX1_step_40 ⟨Nat.le_of_ble_eq_true rfl, Nat.le_of_ble_eq_true rfl⟩) (fun r_11 hr_12 => ?_)
      subst hr_12
      refine va_put (D := D) (ci := 1) (v := .long (cRef n ped rf lo sp)) (ty := .long) (C := RX1) (T := TX1) (N := 6) hx hb hts (by decide +kernel) tyX1 tyX1_ok nmX1 hown hK hP hD hS 0 rfl rfl 1 (by decide) (hts _ hm5) (fun _ h9 => h9) rfl (by decide +kernel) rfl rfl (Nat.le_of_ble_eq_true rfl) dX1_step_43 (fun H locs hP hD hS => ?_)
      replace hP : va_P D vwCl (cw h0 hw cW n q g sp lo ph pr bo mo (cRef n ped rf lo sp) hd gr (st + 1) nx) H := hP
      replace hD : va_D A (cw h0 hw cW n q g sp lo ph pr bo mo (cRef n ped rf lo sp) hd gr (st + 1) nx) := hD
      refine lv_iconst (v := 0) hx hb dX1_step_46 (by decide) ?_
      refine lv_istore (lv' := [(5, .int 0), (0, .ref h0), (1, .long ped), (3, .long sl)]) hx hb dX1_step_47 hl (by decide) rfl (fun ls hl => ?_)
      obtain ⟨j, mo2, hI⟩ : ∃ (j : Nat) (mo2 : Nat → UInt64), j ≤ n ∧ lv_has ls 6 [(5, .int (nI j)), (0, .ref h0), (1, .long ped), (3, .long sl)] ∧ va_P D vwCl (cw h0 hw cW n q g sp lo (jPh lo ph (cRef n ped rf lo sp) ped sp pr j) (jPr cPr lo ph (cRef n ped rf lo sp) ped sp pr bo hd j) bo mo2 (cRef n ped rf lo sp) hd gr (st + 1) nx) H ∧ va_D A (cw h0 hw cW n q g sp lo (jPh lo ph (cRef n ped rf lo sp) ped sp pr j) (jPr cPr lo ph (cRef n ped rf lo sp) ped sp pr bo hd j) bo mo2 (cRef n ped rf lo sp) hd gr (st + 1) nx) ∧ va_S A s.heap H locs ∧ s.drawn.sameBut dd lw_cs ∧ jM j mo sp (fun k => cPr (sPh (lo k) (cRef n ped rf lo sp) ped (sp k) (ph k) (pr k)) ped (pr k) hd (bo k)) mo2 := ⟨0, mo, Nat.zero_le _, by exact lv_sub hl [0, 1, 2, 3] rfl, by rw [jPh_0, jPr_0]; exact hP, by rw [jPh_0, jPr_0]; exact hD, hS, hdd, jM_0 _ _ _⟩
      obtain ⟨d, hjd⟩ : ∃ d, j + d = n := ⟨n - j, by omega⟩
      clear hl hts hN hK hP hD hS hdd
      induction d generalizing H locs ls dd j mo2 with
      | zero =>
        obtain ⟨hjn, hl, hP, hD, hS, hdd, hM⟩ := hI
        have hjn : j = n := by omega
        have hts := dr_words hts0 dd
        have hN := cN_draw (d := dd) hN0
        have hK : va_K D vwCl [(cW, .object RX0)] (s.setDrawn dd) := hK0
        rw [hjn] at hl hP hD
        rw [hjn] at hM
        refine lv_iload hx hb dX1_step_49 (lv_at hl 0 rfl) ?_
        refine lv_aload_n hx hb dX1_step_51 rfl (lv_at hl 1 rfl) ?_
        refine va_get (D := D) (ci := 1) (v := .ref hw) (C := RX1) (T := TX1) (N := 6) hx hb hts (by decide +kernel) hown hK hP 0 rfl rfl 0 (by decide) (hts _ hm6) (fun _ h9 => h9) rfl dX1_step_52 ?_
        refine va_alen (D := D) (x := (n, .inr (.inr (.inr (.inr g))))) (v := nI n) hx hb hK hP 1 0 rfl rfl rfl dX1_step_55 ?_
        refine lv_icmp_ge (tgt := 94) hx hb dX1_step_56 (by decide) (fun c_13 => ?_) (fun c_13 => absurd (nI_le (Nat.le_refl n) (by omega)) c_13)
        refine lv_aload_n hx hb dX1_step_94 rfl (lv_at hl 1 rfl) ?_
        refine va_get (D := D) (ci := 1) (v := .long (cRef n ped rf lo sp)) (C := RX1) (T := TX1) (N := 6) hx hb hts (by decide +kernel) hown hK hP 0 rfl rfl 1 (by decide) (hts _ hm5) (fun _ h9 => h9) rfl dX1_step_95 ?_
        refine lv_ldc2 hx hb hown (hts _ hm7) dX1_step_98 ?_
        refine W.lcmp hx hb dX1_step_101 ?_
        refine lv_if_le (tgt := 110) hx hb dX1_step_102 (by decide) (fun c_14 => ?_) (fun c_14 => ?_)
        · skip
          replace c_14 := (lg_cmp_le _ _).mp c_14
          refine lv_aload_n hx hb dX1_step_110 rfl (lv_at hl 1 rfl) ?_
          refine lv_lload_n hx hb dX1_step_111 rfl (lv_at hl 3 rfl) ?_
          have hF := xF hD hS hA
          refine va_callv (va_runV (As := [.long sl]) (rest := []) ⟨hx, hb, hml, hown, hts⟩ (c1_shift l D cW h0 hw n q g sp lo (jPh lo ph (cRef n ped rf lo sp) ped sp pr n) (jPr cPr lo ph (cRef n ped rf lo sp) ped sp pr bo hd n) bo mo2 (cRef n ped rf lo sp) hd gr (st + 1) nx hn hg sl _) (cwV 1 hts gX1_step_X1_shift rfl rfl rfl (by decide +kernel) ⟨Nat.le_of_ble_eq_true rfl, Nat.le_of_ble_eq_true rfl⟩) ⟨xW_blind, va_recv hK hP (ci := 1) (q0 := 0) rfl rfl, xW_at hP hK hN hD⟩ rfl rfl hl.1 rfl (lv_room (Nat.le_of_ble_eq_true rfl)) dX1_step_112 ⟨Nat.le_of_ble_eq_true rfl, Nat.le_of_ble_eq_true rfl⟩) hS (fun q _ h => hF q h) hF (fun u t H locs ht hvm hpo hB hz1 hk1 hS => ?_)
          obtain ⟨hP, hD⟩ := xB_use hB ht hF
          obtain ⟨u1, u2⟩ := u
          dsimp only at hpo hP hD
          rw [hpo.1, hpo.2] at hP hD
          clear hB hk1 hz1 ht hvm
          replace hP : va_P D vwCl (cw h0 hw cW n q g sp lo (jPh lo ph (cRef n ped rf lo sp) ped sp pr n) (jPr cPr lo ph (cRef n ped rf lo sp) ped sp pr bo hd n) bo mo2 (cRef n ped rf lo sp) hd (if nx ≤ st + 1 then sGr (sCode gr (cRef n ped rf lo sp) (cMx sl)) gr else gr) (st + 1) (if nx ≤ st + 1 then sNx (sCode gr (cRef n ped rf lo sp) (cMx sl)) nx (st + 1 + 3) else nx)) H := hP
          replace hD : va_D A (cw h0 hw cW n q g sp lo (jPh lo ph (cRef n ped rf lo sp) ped sp pr n) (jPr cPr lo ph (cRef n ped rf lo sp) ped sp pr bo hd n) bo mo2 (cRef n ped rf lo sp) hd (if nx ≤ st + 1 then sGr (sCode gr (cRef n ped rf lo sp) (cMx sl)) gr else gr) (st + 1) (if nx ≤ st + 1 then sNx (sCode gr (cRef n ped rf lo sp) (cMx sl)) nx (st + 1 + 3) else nx)) := hD
          refine lv_aload_n hx hb dX1_step_115 rfl (lv_at hl 1 rfl) ?_
          refine va_get (D := D) (ci := 1) (v := .int (if nx ≤ st + 1 then sGr (sCode gr (cRef n ped rf lo sp) (cMx sl)) gr else gr)) (C := RX1) (T := TX1) (N := 6) hx hb hts (by decide +kernel) hown hK hP 0 rfl rfl 3 (by decide) (hts _ hm8) (fun _ h9 => h9) rfl dX1_step_116 ?_
          refine W.endD hdd ?_
          exact W.iret (v := (if nx ≤ st + 1 then sGr (sCode gr (cRef n ped rf lo sp) (cMx sl)) gr else gr)) hx hb hr (fun t ht hW => ⟨⟨_, (jPh lo ph (cRef n ped rf lo sp) ped sp pr n, jPr cPr lo ph (cRef n ped rf lo sp) ped sp pr bo hd n, mo2, cRef n ped rf lo sp, hd, if nx ≤ st + 1 then sGr (sCode gr (cRef n ped rf lo sp) (cMx sl)) gr else gr, st + 1, if nx ≤ st + 1 then sNx (sCode gr (cRef n ped rf lo sp) (cMx sl)) nx (st + 1 + 3) else nx), rfl, ⟨fun h => absurd h (by simp [fBad, k_3, k_4, k_8, k_9]), fun _ => ⟨mo2, by simp [c_14], by simp, fun k h1 h2 => by rw [jPr_in _ _ _ _ _ _ _ _ _ h1 h2]; exact hM.1 k h1 h2⟩⟩, xB_end hP hK hN hD ht hW⟩, hS.F ht⟩) hS.2.2 dX1_step_119
        · skip
          replace c_14 := mt (lg_cmp_le _ _).mpr c_14
          refine lv_aload_n hx hb dX1_step_105 rfl (lv_at hl 1 rfl) ?_
          refine lv_iconst (v := 0) hx hb dX1_step_106 (by decide) ?_
          refine va_put (D := D) (ci := 1) (v := .int 0) (ty := .boolean) (C := RX1) (T := TX1) (N := 6) hx hb hts (by decide +kernel) tyX1 tyX1_ok nmX1 hown hK hP hD hS 0 rfl rfl 2 (by decide) (hts _ hm9) (fun _ h9 => h9) rfl (by decide +kernel) rfl rfl (Nat.le_of_ble_eq_true rfl) dX1_step_107 (fun H locs hP hD hS => ?_)
          replace hP : va_P D vwCl (cw h0 hw cW n q g sp lo (jPh lo ph (cRef n ped rf lo sp) ped sp pr n) (jPr cPr lo ph (cRef n ped rf lo sp) ped sp pr bo hd n) bo mo2 (cRef n ped rf lo sp) 0 gr (st + 1) nx) H := hP
          replace hD : va_D A (cw h0 hw cW n q g sp lo (jPh lo ph (cRef n ped rf lo sp) ped sp pr n) (jPr cPr lo ph (cRef n ped rf lo sp) ped sp pr bo hd n) bo mo2 (cRef n ped rf lo sp) 0 gr (st + 1) nx) := hD
          refine lv_aload_n hx hb dX1_step_110 rfl (lv_at hl 1 rfl) ?_
          refine lv_lload_n hx hb dX1_step_111 rfl (lv_at hl 3 rfl) ?_
          have hF := xF hD hS hA
          refine va_callv (va_runV (As := [.long sl]) (rest := []) ⟨hx, hb, hml, hown, hts⟩ (c1_shift l D cW h0 hw n q g sp lo (jPh lo ph (cRef n ped rf lo sp) ped sp pr n) (jPr cPr lo ph (cRef n ped rf lo sp) ped sp pr bo hd n) bo mo2 (cRef n ped rf lo sp) 0 gr (st + 1) nx hn hg sl _) (cwV 1 hts gX1_step_X1_shift rfl rfl rfl (by decide +kernel) ⟨Nat.le_of_ble_eq_true rfl, Nat.le_of_ble_eq_true rfl⟩) ⟨xW_blind, va_recv hK hP (ci := 1) (q0 := 0) rfl rfl, xW_at hP hK hN hD⟩ rfl rfl hl.1 rfl (lv_room (Nat.le_of_ble_eq_true rfl)) dX1_step_112 ⟨Nat.le_of_ble_eq_true rfl, Nat.le_of_ble_eq_true rfl⟩) hS (fun q _ h => hF q h) hF (fun u t H locs ht hvm hpo hB hz1 hk1 hS => ?_)
          obtain ⟨hP, hD⟩ := xB_use hB ht hF
          obtain ⟨u1, u2⟩ := u
          dsimp only at hpo hP hD
          rw [hpo.1, hpo.2] at hP hD
          clear hB hk1 hz1 ht hvm
          replace hP : va_P D vwCl (cw h0 hw cW n q g sp lo (jPh lo ph (cRef n ped rf lo sp) ped sp pr n) (jPr cPr lo ph (cRef n ped rf lo sp) ped sp pr bo hd n) bo mo2 (cRef n ped rf lo sp) 0 (if nx ≤ st + 1 then sGr (sCode gr (cRef n ped rf lo sp) (cMx sl)) gr else gr) (st + 1) (if nx ≤ st + 1 then sNx (sCode gr (cRef n ped rf lo sp) (cMx sl)) nx (st + 1 + 3) else nx)) H := hP
          replace hD : va_D A (cw h0 hw cW n q g sp lo (jPh lo ph (cRef n ped rf lo sp) ped sp pr n) (jPr cPr lo ph (cRef n ped rf lo sp) ped sp pr bo hd n) bo mo2 (cRef n ped rf lo sp) 0 (if nx ≤ st + 1 then sGr (sCode gr (cRef n ped rf lo sp) (cMx sl)) gr else gr) (st + 1) (if nx ≤ st + 1 then sNx (sCode gr (cRef n ped rf lo sp) (cMx sl)) nx (st + 1 + 3) else nx)) := hD
          refine lv_aload_n hx hb dX1_step_115 rfl (lv_at hl 1 rfl) ?_
          refine va_get (D := D) (ci := 1) (v := .int (if nx ≤ st + 1 then sGr (sCode gr (cRef n ped rf lo sp) (cMx sl)) gr else gr)) (C := RX1) (T := TX1) (N := 6) hx hb hts (by decide +kernel) hown hK hP 0 rfl rfl 3 (by decide) (hts _ hm8) (fun _ h9 => h9) rfl dX1_step_116 ?_
          refine W.endD hdd ?_
          exact W.iret (v := (if nx ≤ st + 1 then sGr (sCode gr (cRef n ped rf lo sp) (cMx sl)) gr else gr)) hx hb hr (fun t ht hW => ⟨⟨_, (jPh lo ph (cRef n ped rf lo sp) ped sp pr n, jPr cPr lo ph (cRef n ped rf lo sp) ped sp pr bo hd n, mo2, cRef n ped rf lo sp, 0, if nx ≤ st + 1 then sGr (sCode gr (cRef n ped rf lo sp) (cMx sl)) gr else gr, st + 1, if nx ≤ st + 1 then sNx (sCode gr (cRef n ped rf lo sp) (cMx sl)) nx (st + 1 + 3) else nx), rfl, ⟨fun h => absurd h (by simp [fBad, k_3, k_4, k_8, k_9]), fun _ => ⟨mo2, by simp [c_14], by simp, fun k h1 h2 => by rw [jPr_in _ _ _ _ _ _ _ _ _ h1 h2]; exact hM.1 k h1 h2⟩⟩, xB_end hP hK hN hD ht hW⟩, hS.F ht⟩) hS.2.2 dX1_step_119
      | succ d ih =>
        obtain ⟨hjn, hl, hP, hD, hS, hdd, hM⟩ := hI
        have hlt : j < n := by omega
        have hts := dr_words hts0 dd
        have hN := cN_draw (d := dd) hN0
        have hK : va_K D vwCl [(cW, .object RX0)] (s.setDrawn dd) := hK0
        refine lv_iload hx hb dX1_step_49 (lv_at hl 0 rfl) ?_
        refine lv_aload_n hx hb dX1_step_51 rfl (lv_at hl 1 rfl) ?_
        refine va_get (D := D) (ci := 1) (v := .ref hw) (C := RX1) (T := TX1) (N := 6) hx hb hts (by decide +kernel) hown hK hP 0 rfl rfl 0 (by decide) (hts _ hm6) (fun _ h9 => h9) rfl dX1_step_52 ?_
        refine va_alen (D := D) (x := (n, .inr (.inr (.inr (.inr g))))) (v := nI n) hx hb hK hP 1 0 rfl rfl rfl dX1_step_55 ?_
        refine lv_icmp_ge (tgt := 94) hx hb dX1_step_56 (by decide) (fun c_15 => absurd c_15 (nI_ge hlt (by omega))) (fun c_15 => ?_)
        refine lv_aload_n hx hb dX1_step_59 rfl (lv_at hl 1 rfl) ?_
        refine va_get (D := D) (ci := 1) (v := .ref hw) (C := RX1) (T := TX1) (N := 6) hx hb hts (by decide +kernel) hown hK hP 0 rfl rfl 0 (by decide) (hts _ hm6) (fun _ h9 => h9) rfl dX1_step_60 ?_
        refine lv_iload hx hb dX1_step_63 (lv_at hl 0 rfl) ?_
        refine va_aldq (D := D) hx hb hK hP 1 0 rfl rfl (ix_n hn hlt) dX1_step_65 ?_
        refine W.eq (g2 := F0 m 66 ls [.ref (q j)]) (by rw [ix_nc hn hlt, hg j hlt]; rfl) ?_
        refine lv_lload_n hx hb dX1_step_66 rfl (lv_at hl 2 rfl) ?_
        refine lv_aload_n hx hb dX1_step_67 rfl (lv_at hl 1 rfl) ?_
        refine va_get (D := D) (ci := 1) (v := .long (cRef n ped rf lo sp)) (C := RX1) (T := TX1) (N := 6) hx hb hts (by decide +kernel) hown hK hP 0 rfl rfl 1 (by decide) (hts _ hm5) (fun _ h9 => h9) rfl dX1_step_68 ?_
        refine lv_aload_n hx hb dX1_step_71 rfl (lv_at hl 1 rfl) ?_
        refine va_get (D := D) (ci := 1) (v := .int hd) (C := RX1) (T := TX1) (N := 6) hx hb hts (by decide +kernel) hown hK hP 0 rfl rfl 2 (by decide) (hts _ hm9) (fun _ h9 => h9) rfl dX1_step_72 ?_
        have hF := xF hD hS hA
        refine va_callv (va_runVN (As := [.long ped, .long (cRef n ped rf lo sp), .int hd]) (rest := []) ⟨hx, hb, hml, hown, hts⟩ (c0_brake l D cW h0 hw n q g sp lo (jPh lo ph (cRef n ped rf lo sp) ped sp pr j) (jPr cPr lo ph (cRef n ped rf lo sp) ped sp pr bo hd j) bo mo2 (cRef n ped rf lo sp) hd gr (st + 1) nx hn hg j hlt ped (cRef n ped rf lo sp) hd _) ⟨va_cnB 3 hts gX1_step_X0_brake_n54 rfl rfl rfl hN.2.2.2.2.2.2.2.1 (hts _ hm10) (by decide +kernel) ⟨Nat.le_of_ble_eq_true rfl, Nat.le_of_ble_eq_true rfl⟩, (hts _ hm11), (hts _ hm12)⟩ ⟨xW_blind, va_recv hK hP (ci := 0) (q0 := (j + 2)) rfl (cw_at hlt), xW_at hP hK hN hD⟩ rfl rfl hl.1 rfl (lv_room (Nat.le_of_ble_eq_true rfl)) dX1_step_75 ⟨Nat.le_of_ble_eq_true rfl, Nat.le_of_ble_eq_true rfl⟩) hS (fun q _ h => hF q h) hF (fun u t H locs ht hvm hpo hB hz1 hk1 hS => ?_)
        obtain ⟨hP, hD⟩ := xB_use hB ht hF
        obtain ⟨u1, u2⟩ := u
        dsimp only at hpo hP hD
        rw [jPh_at _ _ _ _ _ _ (Nat.lt_succ_self j), jPr_at _ _ _ _ _ _ _ _ _ (Nat.lt_succ_self j), jPh_up, jPr_up] at hpo
        rw [hpo.1, hpo.2] at hP hD
        clear hB hk1 hz1 ht hvm
        replace hP : va_P D vwCl (cw h0 hw cW n q g sp lo (jPh lo ph (cRef n ped rf lo sp) ped sp pr (j + 1)) (jPr cPr lo ph (cRef n ped rf lo sp) ped sp pr bo hd (j + 1)) bo mo2 (cRef n ped rf lo sp) hd gr (st + 1) nx) H := hP
        replace hD : va_D A (cw h0 hw cW n q g sp lo (jPh lo ph (cRef n ped rf lo sp) ped sp pr (j + 1)) (jPr cPr lo ph (cRef n ped rf lo sp) ped sp pr bo hd (j + 1)) bo mo2 (cRef n ped rf lo sp) hd gr (st + 1) nx) := hD
        refine lv_aload_n hx hb dX1_step_78 rfl (lv_at hl 1 rfl) ?_
        refine va_get (D := D) (ci := 1) (v := .ref hw) (C := RX1) (T := TX1) (N := 6) hx hb hts (by decide +kernel) hown hK hP 0 rfl rfl 0 (by decide) (hts _ hm6) (fun _ h9 => h9) rfl dX1_step_79 ?_
        refine lv_iload hx hb dX1_step_82 (lv_at hl 0 rfl) ?_
        refine va_aldq (D := D) hx hb hK hP 1 0 rfl rfl (ix_n hn hlt) dX1_step_84 ?_
        refine W.eq (g2 := F0 m 85 ls [.ref (q j)]) (by rw [ix_nc hn hlt, hg j hlt]; rfl) ?_
        have hF := xF hD hS hA
        refine va_callvD hdd (va_runVN_D (As := []) (rest := []) ⟨hx, hb, hml, hown, hts⟩ (c0_follow l D cW h0 hw n q g sp lo (jPh lo ph (cRef n ped rf lo sp) ped sp pr (j + 1)) (jPr cPr lo ph (cRef n ped rf lo sp) ped sp pr bo hd (j + 1)) bo mo2 (cRef n ped rf lo sp) hd gr (st + 1) nx hn hg j hlt _) ⟨va_cnB 0 hts gX1_step_X0_followModel_n58 rfl rfl rfl hN.2.2.2.2.2.2.2.2.1 (hts _ hm10) (by decide +kernel) ⟨Nat.le_of_ble_eq_true rfl, Nat.le_of_ble_eq_true rfl⟩, (hts _ hm13), (hts _ hm14)⟩ ⟨xW_blind, va_recv hK hP (ci := 0) (q0 := (j + 2)) rfl (cw_at hlt), xW_at hP hK hN hD⟩ rfl rfl hl.1 rfl (lv_room (Nat.le_of_ble_eq_true rfl)) dX1_step_85 ⟨Nat.le_of_ble_eq_true rfl, Nat.le_of_ble_eq_true rfl⟩) hS (fun q _ h => hF q h) hF (fun u t H locs ht hvm hpo hB hz1 hk1 hS d_16 hdd_17 => ?_)
        have hts := dr_words hts0 d_16
        have hN := cN_draw (d := d_16) hN0
        have hK : va_K D vwCl [(cW, .object RX0)] (s.setDrawn d_16) := hK0
        obtain ⟨hP, hD⟩ := xB_use hB ht hF
        obtain ⟨yy, hpo, hy⟩ := hpo
        rw [hpo] at hP hD
        clear hB hk1 hz1 ht hvm
        replace hP : va_P D vwCl (cw h0 hw cW n q g sp lo (jPh lo ph (cRef n ped rf lo sp) ped sp pr (j + 1)) (jPr cPr lo ph (cRef n ped rf lo sp) ped sp pr bo hd (j + 1)) bo (va_up mo2 (j + 1) yy) (cRef n ped rf lo sp) hd gr (st + 1) nx) H := hP
        replace hD : va_D A (cw h0 hw cW n q g sp lo (jPh lo ph (cRef n ped rf lo sp) ped sp pr (j + 1)) (jPr cPr lo ph (cRef n ped rf lo sp) ped sp pr bo hd (j + 1)) bo (va_up mo2 (j + 1) yy) (cRef n ped rf lo sp) hd gr (st + 1) nx) := hD
        refine lv_iinc (v := nI (j + 1)) (lv' := [(5, .int (nI (j + 1))), (0, .ref h0), (1, .long ped), (3, .long sl)]) hx hb dX1_step_88 hl (k := 0) rfl (nI_1 j) (by decide) rfl (fun ls hl => ?_)
        refine lv_goto (tgt := 49) hx hb dX1_step_91 (by decide) ?_
        exact ih _ _ _ _ (j := j + 1) (mo2 := va_up mo2 (j + 1) yy) ⟨by omega, by exact lv_sub hl [0, 1, 2, 3] rfl, by exact hP, by exact hD, hS, hdd_17, jM_up hM hy (jPr_in _ _ _ _ _ _ _ _ _ (by omega) (Nat.le_refl _))⟩ (by omega)
    · skip
      refine lv_if_ne (tgt := 27) hx hb dX1_step_21 (by decide) (fun c_18 => absurd (by decide) c_18) (fun c_18 => ?_)
      refine lv_bipush (v := (-2)) hx hb dX1_step_24 (by decide) ?_
      refine W.endD hdd ?_
      exact W.iret (v := (-2)) hx hb hr (fun t ht hW => ⟨⟨_, (ph, pr, mo, rf, hd, gr, st, nx), rfl, ⟨fun _ => ⟨rfl, rfl⟩, fun h => absurd (Or.inr k_8) h⟩, xB_end hP hK hN hD ht hW⟩, hS.F ht⟩) hS.2.2 dX1_step_26
  · skip
    refine lv_if_eq (tgt := 24) hx hb dX1_step_8 (by decide) (fun c_19 => ?_) (fun c_19 => absurd (by decide) c_19)
    refine lv_bipush (v := (-2)) hx hb dX1_step_24 (by decide) ?_
    refine W.endD hdd ?_
    exact W.iret (v := (-2)) hx hb hr (fun t ht hW => ⟨⟨_, (ph, pr, mo, rf, hd, gr, st, nx), rfl, ⟨fun _ => ⟨rfl, rfl⟩, fun h => absurd (Or.inl k_3) h⟩, xB_end hP hK hN hD ht hW⟩, hS.F ht⟩) hS.2.2 dX1_step_26
