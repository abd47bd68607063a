/-! ===== the car: readers that call ===== -/
set_option maxHeartbeats 4000000 in
set_option maxRecDepth 100000 in
/-- nextReference -/
theorem c1_nextRef (l : Launch) (D : va_G) (cW : ClassId) (h0 hw n : Nat) (q : Nat → Nat) (g : Nat → Option Nat) (sp : Nat → Int64) (lo ph : Nat → Int32) (pr bo : Nat → Int64) (mo : Nat → UInt64) (rf : Int64) (hd gr st nx : Int32) (hn : n ≤ 8) (hg : ∀ i, i < n → g i = some (q i)) (ped : Int64) : Met l yX1_nextReference wsX1_nextReference ({ frames := 2, cells := 0, slots := 0, locals := 46 }) (va_Pc [.ref h0, .long ped] (xP D [(cW, .object RX0)] (cw h0 hw cW n q g sp lo ph pr bo mo rf hd gr st nx))) (vp_Sl (fun r : Int64 => r = cRef n ped rf lo sp)) 0 0 (fun _ => False) := by
  refine Met.ofW (cc := cX1_nextReference) (maxL := 7) (ret := (some .long)) (by decide) rfl ?_
  intro p e s m args below meth c s₁ B hml hv
  obtain ⟨rfl, hP, hK, hN⟩ := hv
  have hx := B.exec
  have hb := B.bytes
  have hr := B.returns
  have hts := atoms_spec (ws := wsX1_nextReference) B.pre
  have hown : s.vm.findClass RX1 = some m.cls := findClass_of_methodNamed B.named
  have hlocks := B.notSynchronized
  have hm1 : (.fieldLink RX1 47 "GearBrake" "reference" "J" : Cond) ∈ wsX1_nextReference := by decide +kernel
  have hm2 : (.constantLong RX1 120 (3) : Cond) ∈ wsX1_nextReference := by decide +kernel
  have hm3 : (.methodLink RX1 122 Lib.MathLoose.max_long.x : Cond) ∈ wsX1_nextReference := by decide +kernel
  have hm4 : (.static Lib.MathLoose.max_long.x : Cond) ∈ wsX1_nextReference := by decide +kernel
  have hm5 : (.initialized "java/lang/Math" : Cond) ∈ wsX1_nextReference := by decide +kernel
  have hm6 : (.code Lib.MathLoose.max_long.x Lib.MathLoose.max_long.code 4 (some .long) : Cond) ∈ wsX1_nextReference := by decide +kernel
  have hm7 : (.fieldLink RX1 11 "GearBrake" "wheels" "[LGearBrake$Wheel;" : Cond) ∈ wsX1_nextReference := by decide +kernel
  have hl := lv_entry ([.ref h0, .long ped]) (n := 7) (Nat.le_of_ble_eq_true rfl)
  rw [lg_entry_eq]
  generalize (lg_sl ([.ref h0, .long ped]) ++ List.replicate (7 - (lg_sl ([.ref h0, .long ped])).length) Slot.unset).toArray = ls at hl ⊢
  replace hl : lv_has ls 7 [(0, .ref h0), (1, .long ped)] := hl
  refine lv_aload_n hx hb dX1_nextReference_0 rfl (lv_at hl 0 rfl) ?_
  refine va_get (D := D) (ci := 1) (v := .long rf) (C := RX1) (T := TX1) (N := 6) hx hb hts (by decide +kernel) hown hK hP 0 rfl rfl 1 (by decide) (hts _ hm1) (fun _ h9 => h9) rfl dX1_nextReference_1 ?_
  refine lv_ldc2 hx hb hown (hts _ hm2) dX1_nextReference_4 ?_
  refine lv_lsub hx hb dX1_nextReference_7 ?_
  refine lv_lconst (v := 0) hx hb dX1_nextReference_8 (by decide) ?_
  refine va_mmax_long hx hb (by rw [hml]; exact hl.1.symm) hown (hts _ hm3) (hts _ hm4) (hts _ hm5) (hts _ hm6) (Nat.le_of_ble_eq_true rfl) (Nat.le_of_ble_eq_true rfl) (Nat.le_of_ble_eq_true rfl) (Nat.le_of_ble_eq_true rfl) dX1_nextReference_9 ?_
  refine lv_lstore_n (lv' := [(3, .long (if 0 < (rf - 3) then (rf - 3) else 0)), (0, .ref h0), (1, .long ped)]) hx hb dX1_nextReference_12 rfl hl (by decide) rfl (fun ls hl => ?_)
  refine lv_aload_n hx hb dX1_nextReference_13 rfl (lv_at hl 1 rfl) ?_
  refine vp_callSi (W.runV (As := []) (rest := []) ⟨hx, hb, hml, hown, hts⟩ (c1_countLost l D cW h0 hw n q g sp lo ph pr bo mo rf hd gr st nx hn hg) (cwV 0 hts gX1_nextReference_X1_countLost rfl rfl rfl (by decide +kernel) ⟨Nat.le_of_ble_eq_true rfl, Nat.le_of_ble_eq_true rfl⟩) ⟨xP_blind, va_recv hK hP (ci := 1) (q0 := 0) rfl rfl, xP_at hP hK hN⟩ rfl rfl hl.1 rfl (lv_room (Nat.le_of_ble_eq_true rfl)) dX1_nextReference_14 ⟨Nat.le_of_ble_eq_true rfl, Nat.le_of_ble_eq_true rfl⟩) (fun r_1 hr_2 => ?_)
  subst hr_2
  refine lv_aload_n hx hb dX1_nextReference_17 rfl (lv_at hl 1 rfl) ?_
  refine va_get (D := D) (ci := 1) (v := .ref hw) (C := RX1) (T := TX1) (N := 6) hx hb hts (by decide +kernel) hown hK hP 0 rfl rfl 0 (by decide) (hts _ hm7) (fun _ h9 => h9) rfl dX1_nextReference_18 ?_
  refine va_alen (D := D) (x := (n, .inr (.inr (.inr (.inr g))))) (v := nI n) hx hb hK hP 1 0 rfl rfl rfl dX1_nextReference_21 ?_
  refine lv_icmp_ne (tgt := 27) hx hb dX1_nextReference_22 (by decide) (fun c_3 => ?_) (fun c_3 => ?_)
  · skip
    refine lv_aload_n hx hb dX1_nextReference_27 rfl (lv_at hl 1 rfl) ?_
    refine vp_callSl (W.runV (As := []) (rest := []) ⟨hx, hb, hml, hown, hts⟩ (c1_greatest l D cW h0 hw n q g sp lo ph pr bo mo rf hd gr st nx hn hg) (cwV 0 hts gX1_nextReference_X1_greatestSpeed rfl rfl rfl (by decide +kernel) ⟨Nat.le_of_ble_eq_true rfl, Nat.le_of_ble_eq_true rfl⟩) ⟨xP_blind, va_recv hK hP (ci := 1) (q0 := 0) rfl rfl, xP_at hP hK hN⟩ rfl rfl hl.1 rfl (lv_room (Nat.le_of_ble_eq_true rfl)) dX1_nextReference_28 ⟨Nat.le_of_ble_eq_true rfl, Nat.le_of_ble_eq_true rfl⟩) (fun r_4 hr_5 => ?_)
    subst hr_5
    refine lv_lstore (lv' := [(5, .long (cTop lo sp n)), (3, .long (if 0 < (rf - 3) then (rf - 3) else 0)), (0, .ref h0), (1, .long ped)]) hx hb dX1_nextReference_31 hl (by decide) rfl (fun ls hl => ?_)
    refine lv_lload_n hx hb dX1_nextReference_33 rfl (lv_at hl 3 rfl) ?_
    refine lv_lconst (v := 0) hx hb dX1_nextReference_34 (by decide) ?_
    refine W.lcmp hx hb dX1_nextReference_35 ?_
    refine lv_if_le (tgt := 48) hx hb dX1_nextReference_36 (by decide) (fun c_6 => ?_) (fun c_6 => ?_)
    · skip
      replace c_6 := (lg_cmp_le _ _).mp c_6
      refine lv_lload hx hb dX1_nextReference_48 (lv_at hl 0 rfl) ?_
      exact W.lret (v := (cTop lo sp n)) hx hb hr (fun t ht hW => ⟨_, rfl, by first | (simp [cRef, cLess, c_3, c_6]; done) | (simp [cRef, cLess, c_3, c_6]; rfl), ht⟩) (fun q h => absurd h List.not_mem_nil) dX1_nextReference_50
    · skip
      replace c_6 := mt (lg_cmp_le _ _).mpr c_6
      refine lv_lload hx hb dX1_nextReference_39 (lv_at hl 0 rfl) ?_
      refine lv_lload_n hx hb dX1_nextReference_41 rfl (lv_at hl 1 rfl) ?_
      refine va_mmax_long hx hb (by rw [hml]; exact hl.1.symm) hown (hts _ hm3) (hts _ hm4) (hts _ hm5) (hts _ hm6) (Nat.le_of_ble_eq_true rfl) (Nat.le_of_ble_eq_true rfl) (Nat.le_of_ble_eq_true rfl) (Nat.le_of_ble_eq_true rfl) dX1_nextReference_42 ?_
      refine lv_goto (tgt := 50) hx hb dX1_nextReference_45 (by decide) ?_
      exact W.lret (v := (if (if 0 < (rf - 3) then (rf - 3) else 0) < (cTop lo sp n) then (cTop lo sp n) else (if 0 < (rf - 3) then (rf - 3) else 0))) hx hb hr (fun t ht hW => ⟨_, rfl, by first | (simp [cRef, cLess, c_3, c_6]; done) | (simp [cRef, cLess, c_3, c_6]; rfl), ht⟩) (fun q h => absurd h List.not_mem_nil) dX1_nextReference_50
  · skip
    refine lv_lload_n hx hb dX1_nextReference_25 rfl (lv_at hl 0 rfl) ?_
    exact W.lret (v := (if 0 < (rf - 3) then (rf - 3) else 0)) hx hb hr (fun t ht hW => ⟨_, rfl, by first | (simp [cRef, cLess, c_3]; done) | (simp [cRef, cLess, c_3]; rfl), ht⟩) (fun q h => absurd h List.not_mem_nil) dX1_nextReference_26
set_option maxHeartbeats 4000000 in
set_option maxRecDepth 100000 in
/-- nextPhase of wheel i + 1 -/
theorem c0_nextPhase (l : Launch) (D : va_G) (cW : ClassId) (h0 hw n : Nat) (q : Nat → Nat) (g : Nat → Option Nat) (sp : Nat → Int64) (lo ph : Nat → Int32) (pr bo : Nat → Int64) (mo : Nat → UInt64) (rf : Int64) (hd gr st nx : Int32) (hn : n ≤ 8) (hg : ∀ i, i < n → g i = some (q i)) (i : Nat) (hi : i < n) (ped rfA : Int64) : Met l yX0_nextPhase wsX0_nextPhase ({ frames := 0, cells := 0, slots := 0, locals := 0 }) (va_Pc [.ref (q i), .long ped, .long rfA] (xP D [(cW, .object RX0)] (cw h0 hw cW n q g sp lo ph pr bo mo rf hd gr st nx))) (vp_Si (fun r : Int32 => r = sPh (lo (i + 1)) rfA ped (sp (i + 1)) (ph (i + 1)) (pr (i + 1)))) 0 0 (fun _ => False) := by
  refine Met.ofW (cc := cX0_nextPhase) (maxL := 6) (ret := (some .int)) (by decide) rfl ?_
  intro p e s m args below meth c s₁ B hml hv
  obtain ⟨rfl, hP, hK, hN⟩ := hv
  have hx := B.exec
  have hb := B.bytes
  have hr := B.returns
  have hts := atoms_spec (ws := wsX0_nextPhase) B.pre
  have hown : s.vm.findClass RX0 = some m.cls := findClass_of_methodNamed B.named
  have hlocks := B.notSynchronized
  have hm1 : (.fieldLink RX0 41 "GearBrake$Wheel" "lost" "Z" : Cond) ∈ wsX0_nextPhase := by decide +kernel
  have hm2 : (.constantLong RX0 15 (100) : Cond) ∈ wsX0_nextPhase := by decide +kernel
  have hm3 : (.fieldLink RX0 45 "GearBrake$Wheel" "speed" "J" : Cond) ∈ wsX0_nextPhase := by decide +kernel
  have hm4 : (.constantLong RX0 48 (80) : Cond) ∈ wsX0_nextPhase := by decide +kernel
  have hm5 : (.constantLong RX0 50 (90) : Cond) ∈ wsX0_nextPhase := by decide +kernel
  have hm6 : (.fieldLink RX0 9 "GearBrake$Wheel" "phase" "I" : Cond) ∈ wsX0_nextPhase := by decide +kernel
  have hm7 : (.fieldLink RX0 52 "GearBrake$Wheel" "pressure" "J" : Cond) ∈ wsX0_nextPhase := by decide +kernel
  have hl := lv_entry ([.ref (q i), .long ped, .long rfA]) (n := 6) (Nat.le_of_ble_eq_true rfl)
  rw [lg_entry_eq]
  generalize (lg_sl ([.ref (q i), .long ped, .long rfA]) ++ List.replicate (6 - (lg_sl ([.ref (q i), .long ped, .long rfA])).length) Slot.unset).toArray = ls at hl ⊢
  replace hl : lv_has ls 6 [(0, .ref (q i)), (1, .long ped), (3, .long rfA)] := hl
  refine lv_aload_n hx hb dX0_nextPhase_0 rfl (lv_at hl 0 rfl) ?_
  refine va_get (D := D) (ci := 0) (v := .int (lo (i + 1))) (C := RX0) (T := TX0) (N := 6) hx hb hts (by decide +kernel) hown hK hP (i + 2) (cw_at hi) rfl 1 (by decide) (hts _ hm1) (fun _ h9 => h9) rfl dX0_nextPhase_1 ?_
  refine lv_if_ne (tgt := 19) hx hb dX0_nextPhase_4 (by decide) (fun c_1 => ?_) (fun c_1 => ?_)
  · skip
    refine lv_iconst (v := 0) hx hb dX0_nextPhase_19 (by decide) ?_
    exact W.iret (v := 0) hx hb hr (fun t ht hW => ⟨_, rfl, by first | (simp [sPh, c_1]; done) | (simp [sPh, c_1]; rfl), ht⟩) (fun q h => absurd h List.not_mem_nil) dX0_nextPhase_20
  · skip
    refine lv_lload_n hx hb dX0_nextPhase_7 rfl (lv_at hl 2 rfl) ?_
    refine lv_lconst (v := 0) hx hb dX0_nextPhase_8 (by decide) ?_
    refine W.lcmp hx hb dX0_nextPhase_9 ?_
    refine lv_if_eq (tgt := 19) hx hb dX0_nextPhase_10 (by decide) (fun c_2 => ?_) (fun c_2 => ?_)
    · skip
      replace c_2 := (lg_cmp_eq _ _).mp c_2
      refine lv_iconst (v := 0) hx hb dX0_nextPhase_19 (by decide) ?_
      exact W.iret (v := 0) hx hb hr (fun t ht hW => ⟨_, rfl, by first | (simp [sPh, c_1, c_2]; done) | (simp [sPh, c_1, c_2]; rfl), ht⟩) (fun q h => absurd h List.not_mem_nil) dX0_nextPhase_20
    · skip
      replace c_2 := mt (lg_cmp_eq _ _).mpr c_2
      refine lv_lload_n hx hb dX0_nextPhase_13 rfl (lv_at hl 1 rfl) ?_
      refine lv_lconst (v := 0) hx hb dX0_nextPhase_14 (by decide) ?_
      refine W.lcmp hx hb dX0_nextPhase_15 ?_
      refine lv_if_ne (tgt := 21) hx hb dX0_nextPhase_16 (by decide) (fun c_3 => ?_) (fun c_3 => ?_)
      · skip
        replace c_3 := mt (lg_cmp_eq _ _).mpr c_3
        refine lv_ldc2 hx hb hown (hts _ hm2) dX0_nextPhase_21 ?_
        refine lv_aload_n hx hb dX0_nextPhase_24 rfl (lv_at hl 0 rfl) ?_
        refine va_get (D := D) (ci := 0) (v := .long (sp (i + 1))) (C := RX0) (T := TX0) (N := 6) hx hb hts (by decide +kernel) hown hK hP (i + 2) (cw_at hi) rfl 0 (by decide) (hts _ hm3) (fun _ h9 => h9) rfl dX0_nextPhase_25 ?_
        refine lv_lmul hx hb dX0_nextPhase_28 ?_
        refine lv_ldc2 hx hb hown (hts _ hm4) dX0_nextPhase_29 ?_
        refine lv_lload_n hx hb dX0_nextPhase_32 rfl (lv_at hl 2 rfl) ?_
        refine lv_lmul hx hb dX0_nextPhase_33 ?_
        refine W.lcmp hx hb dX0_nextPhase_34 ?_
        refine lv_if_ge (tgt := 40) hx hb dX0_nextPhase_35 (by decide) (fun c_4 => ?_) (fun c_4 => ?_)
        · skip
          replace c_4 := (lg_cmp_ge _ _).mp c_4
          refine lv_ldc2 hx hb hown (hts _ hm2) dX0_nextPhase_40 ?_
          refine lv_aload_n hx hb dX0_nextPhase_43 rfl (lv_at hl 0 rfl) ?_
          refine va_get (D := D) (ci := 0) (v := .long (sp (i + 1))) (C := RX0) (T := TX0) (N := 6) hx hb hts (by decide +kernel) hown hK hP (i + 2) (cw_at hi) rfl 0 (by decide) (hts _ hm3) (fun _ h9 => h9) rfl dX0_nextPhase_44 ?_
          refine lv_lmul hx hb dX0_nextPhase_47 ?_
          refine lv_ldc2 hx hb hown (hts _ hm5) dX0_nextPhase_48 ?_
          refine lv_lload_n hx hb dX0_nextPhase_51 rfl (lv_at hl 2 rfl) ?_
          refine lv_lmul hx hb dX0_nextPhase_52 ?_
          refine W.lcmp hx hb dX0_nextPhase_53 ?_
          refine lv_if_ge (tgt := 59) hx hb dX0_nextPhase_54 (by decide) (fun c_5 => ?_) (fun c_5 => ?_)
          · skip
            replace c_5 := (lg_cmp_ge _ _).mp c_5
            refine lv_aload_n hx hb dX0_nextPhase_59 rfl (lv_at hl 0 rfl) ?_
            refine va_get (D := D) (ci := 0) (v := .int (ph (i + 1))) (C := RX0) (T := TX0) (N := 6) hx hb hts (by decide +kernel) hown hK hP (i + 2) (cw_at hi) rfl 2 (by decide) (hts _ hm6) (fun _ h9 => h9) rfl dX0_nextPhase_60 ?_
            refine lv_iconst (v := 1) hx hb dX0_nextPhase_63 (by decide) ?_
            refine lv_icmp_eq (tgt := 92) hx hb dX0_nextPhase_64 (by decide) (fun c_6 => ?_) (fun c_6 => ?_)
            · skip
              refine lv_iconst (v := 1) hx hb dX0_nextPhase_92 (by decide) ?_
              refine lv_goto (tgt := 97) hx hb dX0_nextPhase_93 (by decide) ?_
              refine lv_istore (lv' := [(5, .int 1), (0, .ref (q i)), (1, .long ped), (3, .long rfA)]) hx hb dX0_nextPhase_97 hl (by decide) rfl (fun ls hl => ?_)
              refine lv_iload hx hb dX0_nextPhase_99 (lv_at hl 0 rfl) ?_
              refine lv_if_eq (tgt := 108) hx hb dX0_nextPhase_101 (by decide) (fun c_7 => absurd c_7 (by decide)) (fun c_7 => ?_)
              refine lv_iconst (v := 3) hx hb dX0_nextPhase_104 (by decide) ?_
              refine lv_goto (tgt := 109) hx hb dX0_nextPhase_105 (by decide) ?_
              exact W.iret (v := 3) hx hb hr (fun t ht hW => ⟨_, rfl, by first | (simp [sPh, c_1, c_2, c_3, c_4, c_5, c_6]; done) | (simp [sPh, c_1, c_2, c_3, c_4, c_5, c_6]; rfl), ht⟩) (fun q h => absurd h List.not_mem_nil) dX0_nextPhase_109
            · skip
              refine lv_aload_n hx hb dX0_nextPhase_67 rfl (lv_at hl 0 rfl) ?_
              refine va_get (D := D) (ci := 0) (v := .int (ph (i + 1))) (C := RX0) (T := TX0) (N := 6) hx hb hts (by decide +kernel) hown hK hP (i + 2) (cw_at hi) rfl 2 (by decide) (hts _ hm6) (fun _ h9 => h9) rfl dX0_nextPhase_68 ?_
              refine lv_iconst (v := 2) hx hb dX0_nextPhase_71 (by decide) ?_
              refine lv_icmp_eq (tgt := 92) hx hb dX0_nextPhase_72 (by decide) (fun c_8 => ?_) (fun c_8 => ?_)
              · skip
                refine lv_iconst (v := 1) hx hb dX0_nextPhase_92 (by decide) ?_
                refine lv_goto (tgt := 97) hx hb dX0_nextPhase_93 (by decide) ?_
                refine lv_istore (lv' := [(5, .int 1), (0, .ref (q i)), (1, .long ped), (3, .long rfA)]) hx hb dX0_nextPhase_97 hl (by decide) rfl (fun ls hl => ?_)
                refine lv_iload hx hb dX0_nextPhase_99 (lv_at hl 0 rfl) ?_
                refine lv_if_eq (tgt := 108) hx hb dX0_nextPhase_101 (by decide) (fun c_9 => absurd c_9 (by decide)) (fun c_9 => ?_)
                refine lv_iconst (v := 3) hx hb dX0_nextPhase_104 (by decide) ?_
                refine lv_goto (tgt := 109) hx hb dX0_nextPhase_105 (by decide) ?_
                exact W.iret (v := 3) hx hb hr (fun t ht hW => ⟨_, rfl, by first | (simp [sPh, c_1, c_2, c_3, c_4, c_5, c_6, c_8]; done) | (simp [sPh, c_1, c_2, c_3, c_4, c_5, c_6, c_8]; rfl), ht⟩) (fun q h => absurd h List.not_mem_nil) dX0_nextPhase_109
              · skip
                refine lv_aload_n hx hb dX0_nextPhase_75 rfl (lv_at hl 0 rfl) ?_
                refine va_get (D := D) (ci := 0) (v := .int (ph (i + 1))) (C := RX0) (T := TX0) (N := 6) hx hb hts (by decide +kernel) hown hK hP (i + 2) (cw_at hi) rfl 2 (by decide) (hts _ hm6) (fun _ h9 => h9) rfl dX0_nextPhase_76 ?_
                refine lv_iconst (v := 3) hx hb dX0_nextPhase_79 (by decide) ?_
                refine lv_icmp_ne (tgt := 96) hx hb dX0_nextPhase_80 (by decide) (fun c_10 => ?_) (fun c_10 => ?_)
                · skip
                  refine lv_iconst (v := 0) hx hb dX0_nextPhase_96 (by decide) ?_
                  refine lv_istore (lv' := [(5, .int 0), (0, .ref (q i)), (1, .long ped), (3, .long rfA)]) hx hb dX0_nextPhase_97 hl (by decide) rfl (fun ls hl => ?_)
                  refine lv_iload hx hb dX0_nextPhase_99 (lv_at hl 0 rfl) ?_
                  refine lv_if_eq (tgt := 108) hx hb dX0_nextPhase_101 (by decide) (fun c_11 => ?_) (fun c_11 => absurd (by decide) c_11)
                  refine lv_iconst (v := 0) hx hb dX0_nextPhase_108 (by decide) ?_
                  exact W.iret (v := 0) hx hb hr (fun t ht hW => ⟨_, rfl, by first | (simp [sPh, c_1, c_2, c_3, c_4, c_5, c_6, c_8, c_10]; done) | (simp [sPh, c_1, c_2, c_3, c_4, c_5, c_6, c_8, c_10]; rfl), ht⟩) (fun q h => absurd h List.not_mem_nil) dX0_nextPhase_109
                · skip
                  refine lv_aload_n hx hb dX0_nextPhase_83 rfl (lv_at hl 0 rfl) ?_
                  refine va_get (D := D) (ci := 0) (v := .long (pr (i + 1))) (C := RX0) (T := TX0) (N := 6) hx hb hts (by decide +kernel) hown hK hP (i + 2) (cw_at hi) rfl 3 (by decide) (hts _ hm7) (fun _ h9 => h9) rfl dX0_nextPhase_84 ?_
                  refine lv_lload_n hx hb dX0_nextPhase_87 rfl (lv_at hl 1 rfl) ?_
                  refine W.lcmp hx hb dX0_nextPhase_88 ?_
                  refine lv_if_ge (tgt := 96) hx hb dX0_nextPhase_89 (by decide) (fun c_12 => ?_) (fun c_12 => ?_)
                  · skip
                    replace c_12 := (lg_cmp_ge _ _).mp c_12
                    refine lv_iconst (v := 0) hx hb dX0_nextPhase_96 (by decide) ?_
                    refine lv_istore (lv' := [(5, .int 0), (0, .ref (q i)), (1, .long ped), (3, .long rfA)]) hx hb dX0_nextPhase_97 hl (by decide) rfl (fun ls hl => ?_)
                    refine lv_iload hx hb dX0_nextPhase_99 (lv_at hl 0 rfl) ?_
                    refine lv_if_eq (tgt := 108) hx hb dX0_nextPhase_101 (by decide) (fun c_13 => ?_) (fun c_13 => absurd (by decide) c_13)
                    refine lv_iconst (v := 0) hx hb dX0_nextPhase_108 (by decide) ?_
                    exact W.iret (v := 0) hx hb hr (fun t ht hW => ⟨_, rfl, by first | (simp [sPh, c_1, c_2, c_3, c_4, c_5, c_6, c_8, c_10, c_12]; done) | (simp [sPh, c_1, c_2, c_3, c_4, c_5, c_6, c_8, c_10, c_12]; rfl), ht⟩) (fun q h => absurd h List.not_mem_nil) dX0_nextPhase_109
                  · skip
                    replace c_12 := mt (lg_cmp_ge _ _).mpr c_12
                    refine lv_iconst (v := 1) hx hb dX0_nextPhase_92 (by decide) ?_
                    refine lv_goto (tgt := 97) hx hb dX0_nextPhase_93 (by decide) ?_
                    refine lv_istore (lv' := [(5, .int 1), (0, .ref (q i)), (1, .long ped), (3, .long rfA)]) hx hb dX0_nextPhase_97 hl (by decide) rfl (fun ls hl => ?_)
                    refine lv_iload hx hb dX0_nextPhase_99 (lv_at hl 0 rfl) ?_
                    refine lv_if_eq (tgt := 108) hx hb dX0_nextPhase_101 (by decide) (fun c_14 => absurd c_14 (by decide)) (fun c_14 => ?_)
                    refine lv_iconst (v := 3) hx hb dX0_nextPhase_104 (by decide) ?_
                    refine lv_goto (tgt := 109) hx hb dX0_nextPhase_105 (by decide) ?_
                    exact W.iret (v := 3) hx hb hr (fun t ht hW => ⟨_, rfl, by first | (simp [sPh, c_1, c_2, c_3, c_4, c_5, c_6, c_8, c_10, c_12]; done) | (simp [sPh, c_1, c_2, c_3, c_4, c_5, c_6, c_8, c_10, c_12]; rfl), ht⟩) (fun q h => absurd h List.not_mem_nil) dX0_nextPhase_109
          · skip
            replace c_5 := mt (lg_cmp_ge _ _).mpr c_5
            refine lv_iconst (v := 1) hx hb dX0_nextPhase_57 (by decide) ?_
            exact W.iret (v := 1) hx hb hr (fun t ht hW => ⟨_, rfl, by first | (simp [sPh, c_1, c_2, c_3, c_4, c_5]; done) | (simp [sPh, c_1, c_2, c_3, c_4, c_5]; rfl), ht⟩) (fun q h => absurd h List.not_mem_nil) dX0_nextPhase_58
        · skip
          replace c_4 := mt (lg_cmp_ge _ _).mpr c_4
          refine lv_iconst (v := 2) hx hb dX0_nextPhase_38 (by decide) ?_
          exact W.iret (v := 2) hx hb hr (fun t ht hW => ⟨_, rfl, by first | (simp [sPh, c_1, c_2, c_3, c_4]; done) | (simp [sPh, c_1, c_2, c_3, c_4]; rfl), ht⟩) (fun q h => absurd h List.not_mem_nil) dX0_nextPhase_39
      · skip
        replace c_3 := (lg_cmp_eq _ _).mp c_3
        refine lv_iconst (v := 0) hx hb dX0_nextPhase_19 (by decide) ?_
        exact W.iret (v := 0) hx hb hr (fun t ht hW => ⟨_, rfl, by first | (simp [sPh, c_1, c_2, c_3]; done) | (simp [sPh, c_1, c_2, c_3]; rfl), ht⟩) (fun q h => absurd h List.not_mem_nil) dX0_nextPhase_20
set_option maxHeartbeats 4000000 in
set_option maxRecDepth 100000 in
/-- wantedPressure of wheel i + 1 -/
theorem c0_wanted (l : Launch) (D : va_G) (cW : ClassId) (h0 hw n : Nat) (q : Nat → Nat) (g : Nat → Option Nat) (sp : Nat → Int64) (lo ph : Nat → Int32) (pr bo : Nat → Int64) (mo : Nat → UInt64) (rf : Int64) (hd gr st nx : Int32) (hn : n ≤ 8) (hg : ∀ i, i < n → g i = some (q i)) (i : Nat) (hi : i < n) (ped : Int64) : Met l yX0_wantedPressure wsX0_wantedPressure ({ frames := 1, cells := 0, slots := 0, locals := 23 }) (va_Pc [.ref (q i), .long ped] (xP D [(cW, .object RX0)] (cw h0 hw cW n q g sp lo ph pr bo mo rf hd gr st nx))) (vp_Sl (fun r : Int64 => r = cWant (ph (i + 1)) ped (pr (i + 1)))) 0 0 (fun _ => False) := by
  refine Met.ofW (cc := cX0_wantedPressure) (maxL := 3) (ret := (some .long)) (by decide) rfl ?_
  intro p e s m args below meth c s₁ B hml hv
  obtain ⟨rfl, hP, hK, hN⟩ := hv
  have hx := B.exec
  have hb := B.bytes
  have hr := B.returns
  have hts := atoms_spec (ws := wsX0_wantedPressure) B.pre
  have hown : s.vm.findClass RX0 = some m.cls := findClass_of_methodNamed B.named
  have hlocks := B.notSynchronized
  have hm1 : (.fieldLink RX0 9 "GearBrake$Wheel" "phase" "I" : Cond) ∈ wsX0_wantedPressure := by decide +kernel
  have hm2 : (.fieldLink RX0 52 "GearBrake$Wheel" "pressure" "J" : Cond) ∈ wsX0_wantedPressure := by decide +kernel
  have hm3 : (.constantLong RX0 55 (10) : Cond) ∈ wsX0_wantedPressure := by decide +kernel
  have hm4 : (.methodLink RX0 31 Lib.MathLoose.max_long.x : Cond) ∈ wsX0_wantedPressure := by decide +kernel
  have hm5 : (.static Lib.MathLoose.max_long.x : Cond) ∈ wsX0_wantedPressure := by decide +kernel
  have hm6 : (.initialized "java/lang/Math" : Cond) ∈ wsX0_wantedPressure := by decide +kernel
  have hm7 : (.code Lib.MathLoose.max_long.x Lib.MathLoose.max_long.code 4 (some .long) : Cond) ∈ wsX0_wantedPressure := by decide +kernel
  have hm8 : (.constantLong RX0 57 (5) : Cond) ∈ wsX0_wantedPressure := by decide +kernel
  have hm9 : (.methodLink RX0 59 Lib.MathLoose.min_long.x : Cond) ∈ wsX0_wantedPressure := by decide +kernel
  have hm10 : (.static Lib.MathLoose.min_long.x : Cond) ∈ wsX0_wantedPressure := by decide +kernel
  have hm11 : (.code Lib.MathLoose.min_long.x Lib.MathLoose.min_long.code 4 (some .long) : Cond) ∈ wsX0_wantedPressure := by decide +kernel
  have hl := lv_entry ([.ref (q i), .long ped]) (n := 3) (Nat.le_of_ble_eq_true rfl)
  rw [lg_entry_eq]
  generalize (lg_sl ([.ref (q i), .long ped]) ++ List.replicate (3 - (lg_sl ([.ref (q i), .long ped])).length) Slot.unset).toArray = ls at hl ⊢
  replace hl : lv_has ls 3 [(0, .ref (q i)), (1, .long ped)] := hl
  refine lv_aload_n hx hb dX0_wantedPressure_0 rfl (lv_at hl 0 rfl) ?_
  refine va_get (D := D) (ci := 0) (v := .int (ph (i + 1))) (C := RX0) (T := TX0) (N := 6) hx hb hts (by decide +kernel) hown hK hP (i + 2) (cw_at hi) rfl 2 (by decide) (hts _ hm1) (fun _ h9 => h9) rfl dX0_wantedPressure_1 ?_
  by_cases k0 : (ph (i + 1)) < 1 ∨ 3 < (ph (i + 1))
  · skip
    refine lv_tableOut (tgt := 63) hx hb dX0_wantedPressure_4 (sw_out k0) (by decide) ?_
    refine lv_lload_n hx hb dX0_wantedPressure_63 rfl (lv_at hl 1 rfl) ?_
    exact W.lret (v := ped) hx hb hr (fun t ht hW => ⟨_, rfl, by first | (simp [cWant, sw_n1 k0, sw_n2 k0, sw_n3 k0]; done) | (simp [cWant, sw_n1 k0, sw_n2 k0, sw_n3 k0]; rfl), ht⟩) (fun q h => absurd h List.not_mem_nil) dX0_wantedPressure_64
  · skip
    rcases sw_in k0 with k1 | k1 | k1
    · skip
      refine lv_tableIn (off := 28) (tgt := 32) hx hb dX0_wantedPressure_4 (by rw [k1]; decide) (by rw [k1]; decide) (by rw [k1]; rfl) (by decide) ?_
      refine lv_aload_n hx hb dX0_wantedPressure_32 rfl (lv_at hl 0 rfl) ?_
      refine va_get (D := D) (ci := 0) (v := .long (pr (i + 1))) (C := RX0) (T := TX0) (N := 6) hx hb hts (by decide +kernel) hown hK hP (i + 2) (cw_at hi) rfl 3 (by decide) (hts _ hm2) (fun _ h9 => h9) rfl dX0_wantedPressure_33 ?_
      exact W.lret (v := (pr (i + 1))) hx hb hr (fun t ht hW => ⟨_, rfl, by first | (simp [cWant, k1]; done) | (simp [cWant, k1]; rfl), ht⟩) (fun q h => absurd h List.not_mem_nil) dX0_wantedPressure_36
    · skip
      refine lv_tableIn (off := 33) (tgt := 37) hx hb dX0_wantedPressure_4 (by rw [k1]; decide) (by rw [k1]; decide) (by rw [k1]; rfl) (by decide) ?_
      refine lv_aload_n hx hb dX0_wantedPressure_37 rfl (lv_at hl 0 rfl) ?_
      refine va_get (D := D) (ci := 0) (v := .long (pr (i + 1))) (C := RX0) (T := TX0) (N := 6) hx hb hts (by decide +kernel) hown hK hP (i + 2) (cw_at hi) rfl 3 (by decide) (hts _ hm2) (fun _ h9 => h9) rfl dX0_wantedPressure_38 ?_
      refine lv_ldc2 hx hb hown (hts _ hm3) dX0_wantedPressure_41 ?_
      refine lv_lsub hx hb dX0_wantedPressure_44 ?_
      refine lv_lconst (v := 0) hx hb dX0_wantedPressure_45 (by decide) ?_
      refine va_mmax_long hx hb (by rw [hml]; exact hl.1.symm) hown (hts _ hm4) (hts _ hm5) (hts _ hm6) (hts _ hm7) (Nat.le_of_ble_eq_true rfl) (Nat.le_of_ble_eq_true rfl) (Nat.le_of_ble_eq_true rfl) (Nat.le_of_ble_eq_true rfl) dX0_wantedPressure_46 ?_
      exact W.lret (v := (if 0 < ((pr (i + 1)) - 10) then ((pr (i + 1)) - 10) else 0)) hx hb hr (fun t ht hW => ⟨_, rfl, by first | (simp [cWant, k1]; done) | (simp [cWant, k1]; rfl), ht⟩) (fun q h => absurd h List.not_mem_nil) dX0_wantedPressure_49
    · skip
      refine lv_tableIn (off := 46) (tgt := 50) hx hb dX0_wantedPressure_4 (by rw [k1]; decide) (by rw [k1]; decide) (by rw [k1]; rfl) (by decide) ?_
      refine lv_aload_n hx hb dX0_wantedPressure_50 rfl (lv_at hl 0 rfl) ?_
      refine va_get (D := D) (ci := 0) (v := .long (pr (i + 1))) (C := RX0) (T := TX0) (N := 6) hx hb hts (by decide +kernel) hown hK hP (i + 2) (cw_at hi) rfl 3 (by decide) (hts _ hm2) (fun _ h9 => h9) rfl dX0_wantedPressure_51 ?_
      refine lv_ldc2 hx hb hown (hts _ hm8) dX0_wantedPressure_54 ?_
      refine lv_ladd hx hb dX0_wantedPressure_57 ?_
      refine lv_lload_n hx hb dX0_wantedPressure_58 rfl (lv_at hl 1 rfl) ?_
      refine va_mmin_long hx hb (by rw [hml]; exact hl.1.symm) hown (hts _ hm9) (hts _ hm10) (hts _ hm6) (hts _ hm11) (Nat.le_of_ble_eq_true rfl) (Nat.le_of_ble_eq_true rfl) (Nat.le_of_ble_eq_true rfl) (Nat.le_of_ble_eq_true rfl) dX0_wantedPressure_59 ?_
      exact W.lret (v := (if ped < ((pr (i + 1)) + 5) then ped else ((pr (i + 1)) + 5))) hx hb hr (fun t ht hW => ⟨_, rfl, by first | (simp [cWant, k1]; done) | (simp [cWant, k1]; rfl), ht⟩) (fun q h => absurd h List.not_mem_nil) dX0_wantedPressure_62
set_option maxHeartbeats 4000000 in
set_option maxRecDepth 100000 in
/-- phase -/
theorem c1_phase (l : Launch) (D : va_G) (cW : ClassId) (h0 hw n : Nat) (q : Nat → Nat) (g : Nat → Option Nat) (sp : Nat → Int64) (lo ph : Nat → Int32) (pr bo : Nat → Int64) (mo : Nat → UInt64) (rf : Int64) (hd gr st nx : Int32) (hn : n ≤ 8) (hg : ∀ i, i < n → g i = some (q i)) (w : Int32) : Met l yX1_phase wsX1_phase ({ frames := 1, cells := 0, slots := 0, locals := 21 }) (va_Pc [.ref h0, .int w] (xP D [(cW, .object RX0)] (cw h0 hw cW n q g sp lo ph pr bo mo rf hd gr st nx))) (vp_Si (fun r : Int32 => r = if wOut n w then -1 else ph w.toNatClampNeg)) 0 0 (fun _ => False) := by
  rcases w_io n w hn with hwo | ⟨i, hi, rfl⟩
  · skip
    refine Met.ofW (cc := cX1_phase) (maxL := 3) (ret := (some .int)) (by decide) rfl ?_
    intro p e s m args below meth c s₁ B hml hv
    obtain ⟨rfl, hP, hK, hN⟩ := hv
    have hx := B.exec
    have hb := B.bytes
    have hr := B.returns
    have hts := atoms_spec (ws := wsX1_phase) B.pre
    have hown : s.vm.findClass RX1 = some m.cls := findClass_of_methodNamed B.named
    have hlocks := B.notSynchronized
    have hl := lv_entry ([.ref h0, .int w]) (n := 3) (Nat.le_of_ble_eq_true rfl)
    rw [lg_entry_eq]
    generalize (lg_sl ([.ref h0, .int w]) ++ List.replicate (3 - (lg_sl ([.ref h0, .int w])).length) Slot.unset).toArray = ls at hl ⊢
    replace hl : lv_has ls 3 [(0, .ref h0), (1, .int w)] := hl
    refine lv_aload_n hx hb dX1_phase_0 rfl (lv_at hl 0 rfl) ?_
    refine lv_iload_n hx hb dX1_phase_1 rfl (lv_at hl 1 rfl) ?_
    refine va_csq (W.runV (As := [.int w]) (rest := []) ⟨hx, hb, hml, hown, hts⟩ (c1_find_out l D cW h0 hw n q g sp lo ph pr bo mo rf hd gr st nx hn hg w hwo) (cwV 1 hts gX1_phase_X1_find rfl rfl rfl (by decide +kernel) ⟨Nat.le_of_ble_eq_true rfl, Nat.le_of_ble_eq_true rfl⟩) ⟨xP_blind, va_recv hK hP (ci := 1) (q0 := 0) rfl rfl, xP_at hP hK hN⟩ rfl rfl hl.1 rfl (lv_room (Nat.le_of_ble_eq_true rfl)) dX1_phase_2 ⟨Nat.le_of_ble_eq_true rfl, Nat.le_of_ble_eq_true rfl⟩) (fun r_1 hr_2 => ?_)
    subst hr_2
    refine W.eq (g2 := F0 m 5 ls [.null]) rfl ?_
    refine lv_astore_nN (lv' := [(2, .null), (0, .ref h0), (1, .int w)]) hx hb dX1_phase_5 rfl hl (by decide) rfl (fun ls hl => ?_)
    refine lv_aload_nN hx hb dX1_phase_6 rfl (lv_at hl 0 rfl) ?_
    refine lv_ifnonnullN hx hb dX1_phase_7 ?_
    refine lv_iconst (v := (-1)) hx hb dX1_phase_10 (by decide) ?_
    refine lv_goto (tgt := 18) hx hb dX1_phase_11 (by decide) ?_
    exact W.iret (v := (-1)) hx hb hr (fun t ht hW => ⟨_, rfl, by rw [if_pos hwo], ht⟩) (fun q h => absurd h List.not_mem_nil) dX1_phase_18
  · skip
    refine Met.ofW (cc := cX1_phase) (maxL := 3) (ret := (some .int)) (by decide) rfl ?_
    intro p e s m args below meth c s₁ B hml hv
    obtain ⟨rfl, hP, hK, hN⟩ := hv
    have hx := B.exec
    have hb := B.bytes
    have hr := B.returns
    have hts := atoms_spec (ws := wsX1_phase) B.pre
    have hown : s.vm.findClass RX1 = some m.cls := findClass_of_methodNamed B.named
    have hlocks := B.notSynchronized
    have hl := lv_entry ([.ref h0, .int (nI (i + 1))]) (n := 3) (Nat.le_of_ble_eq_true rfl)
    rw [lg_entry_eq]
    generalize (lg_sl ([.ref h0, .int (nI (i + 1))]) ++ List.replicate (3 - (lg_sl ([.ref h0, .int (nI (i + 1))])).length) Slot.unset).toArray = ls at hl ⊢
    replace hl : lv_has ls 3 [(0, .ref h0), (1, .int (nI (i + 1)))] := hl
    refine lv_aload_n hx hb dX1_phase_0 rfl (lv_at hl 0 rfl) ?_
    refine lv_iload_n hx hb dX1_phase_1 rfl (lv_at hl 1 rfl) ?_
    refine va_csq (W.runV (As := [.int (nI (i + 1))]) (rest := []) ⟨hx, hb, hml, hown, hts⟩ (c1_find_in l D cW h0 hw n q g sp lo ph pr bo mo rf hd gr st nx hn hg i hi) (cwV 1 hts gX1_phase_X1_find rfl rfl rfl (by decide +kernel) ⟨Nat.le_of_ble_eq_true rfl, Nat.le_of_ble_eq_true rfl⟩) ⟨xP_blind, va_recv hK hP (ci := 1) (q0 := 0) rfl rfl, xP_at hP hK hN⟩ rfl rfl hl.1 rfl (lv_room (Nat.le_of_ble_eq_true rfl)) dX1_phase_2 ⟨Nat.le_of_ble_eq_true rfl, Nat.le_of_ble_eq_true rfl⟩) (fun r_1 hr_2 => ?_)
    subst hr_2
    refine W.eq (g2 := F0 m 5 ls [.ref (q i)]) rfl ?_
    refine lv_astore_n (lv' := [(2, .ref (q i)), (0, .ref h0), (1, .int (nI (i + 1)))]) hx hb dX1_phase_5 rfl hl (by decide) rfl (fun ls hl => ?_)
    refine lv_aload_n hx hb dX1_phase_6 rfl (lv_at hl 0 rfl) ?_
    refine lv_ifnonnull (tgt := 14) hx hb dX1_phase_7 (by decide) ?_
    refine lv_aload_n hx hb dX1_phase_14 rfl (lv_at hl 0 rfl) ?_
    refine va_getN (D := D) (ci := 0) (v := .int (ph (i + 1))) (C := RX0) (T := TX0) (N := 6) hx hb hts (by decide +kernel) hown hK hP (i + 2) (cw_at hi) rfl 2 (by decide) (va_Nw.use rfl hN.2.2.1) (fun _ h9 => h9) rfl dX1_phase_15 ?_
    exact W.iret (v := (ph (i + 1))) hx hb hr (fun t ht hW => ⟨_, rfl, by rw [if_neg (wOut_in hn hi), wIx hn hi], ht⟩) (fun q h => absurd h List.not_mem_nil) dX1_phase_18
set_option maxHeartbeats 4000000 in
set_option maxRecDepth 100000 in
/-- pressure -/
theorem c1_pressure (l : Launch) (D : va_G) (cW : ClassId) (h0 hw n : Nat) (q : Nat → Nat) (g : Nat → Option Nat) (sp : Nat → Int64) (lo ph : Nat → Int32) (pr bo : Nat → Int64) (mo : Nat → UInt64) (rf : Int64) (hd gr st nx : Int32) (hn : n ≤ 8) (hg : ∀ i, i < n → g i = some (q i)) (w : Int32) : Met l yX1_pressure wsX1_pressure ({ frames := 1, cells := 0, slots := 0, locals := 21 }) (va_Pc [.ref h0, .int w] (xP D [(cW, .object RX0)] (cw h0 hw cW n q g sp lo ph pr bo mo rf hd gr st nx))) (vp_Sl (fun r : Int64 => r = if wOut n w then -1 else pr w.toNatClampNeg)) 0 0 (fun _ => False) := by
  rcases w_io n w hn with hwo | ⟨i, hi, rfl⟩
  · skip
    refine Met.ofW (cc := cX1_pressure) (maxL := 3) (ret := (some .long)) (by decide) rfl ?_
    intro p e s m args below meth c s₁ B hml hv
    obtain ⟨rfl, hP, hK, hN⟩ := hv
    have hx := B.exec
    have hb := B.bytes
    have hr := B.returns
    have hts := atoms_spec (ws := wsX1_pressure) B.pre
    have hown : s.vm.findClass RX1 = some m.cls := findClass_of_methodNamed B.named
    have hlocks := B.notSynchronized
    have hm1 : (.constantLong RX1 70 (-1) : Cond) ∈ wsX1_pressure := by decide +kernel
    have hl := lv_entry ([.ref h0, .int w]) (n := 3) (Nat.le_of_ble_eq_true rfl)
    rw [lg_entry_eq]
    generalize (lg_sl ([.ref h0, .int w]) ++ List.replicate (3 - (lg_sl ([.ref h0, .int w])).length) Slot.unset).toArray = ls at hl ⊢
    replace hl : lv_has ls 3 [(0, .ref h0), (1, .int w)] := hl
    refine lv_aload_n hx hb dX1_pressure_0 rfl (lv_at hl 0 rfl) ?_
    refine lv_iload_n hx hb dX1_pressure_1 rfl (lv_at hl 1 rfl) ?_
    refine va_csq (W.runV (As := [.int w]) (rest := []) ⟨hx, hb, hml, hown, hts⟩ (c1_find_out l D cW h0 hw n q g sp lo ph pr bo mo rf hd gr st nx hn hg w hwo) (cwV 1 hts gX1_pressure_X1_find rfl rfl rfl (by decide +kernel) ⟨Nat.le_of_ble_eq_true rfl, Nat.le_of_ble_eq_true rfl⟩) ⟨xP_blind, va_recv hK hP (ci := 1) (q0 := 0) rfl rfl, xP_at hP hK hN⟩ rfl rfl hl.1 rfl (lv_room (Nat.le_of_ble_eq_true rfl)) dX1_pressure_2 ⟨Nat.le_of_ble_eq_true rfl, Nat.le_of_ble_eq_true rfl⟩) (fun r_1 hr_2 => ?_)
    subst hr_2
    refine W.eq (g2 := F0 m 5 ls [.null]) rfl ?_
    refine lv_astore_nN (lv' := [(2, .null), (0, .ref h0), (1, .int w)]) hx hb dX1_pressure_5 rfl hl (by decide) rfl (fun ls hl => ?_)
    refine lv_aload_nN hx hb dX1_pressure_6 rfl (lv_at hl 0 rfl) ?_
    refine lv_ifnonnullN hx hb dX1_pressure_7 ?_
    refine lv_ldc2 hx hb hown (hts _ hm1) dX1_pressure_10 ?_
    refine lv_goto (tgt := 20) hx hb dX1_pressure_13 (by decide) ?_
    exact W.lret (v := (-1)) hx hb hr (fun t ht hW => ⟨_, rfl, by rw [if_pos hwo], ht⟩) (fun q h => absurd h List.not_mem_nil) dX1_pressure_20
  · skip
    refine Met.ofW (cc := cX1_pressure) (maxL := 3) (ret := (some .long)) (by decide) rfl ?_
    intro p e s m args below meth c s₁ B hml hv
    obtain ⟨rfl, hP, hK, hN⟩ := hv
    have hx := B.exec
    have hb := B.bytes
    have hr := B.returns
    have hts := atoms_spec (ws := wsX1_pressure) B.pre
    have hown : s.vm.findClass RX1 = some m.cls := findClass_of_methodNamed B.named
    have hlocks := B.notSynchronized
    have hl := lv_entry ([.ref h0, .int (nI (i + 1))]) (n := 3) (Nat.le_of_ble_eq_true rfl)
    rw [lg_entry_eq]
    generalize (lg_sl ([.ref h0, .int (nI (i + 1))]) ++ List.replicate (3 - (lg_sl ([.ref h0, .int (nI (i + 1))])).length) Slot.unset).toArray = ls at hl ⊢
    replace hl : lv_has ls 3 [(0, .ref h0), (1, .int (nI (i + 1)))] := hl
    refine lv_aload_n hx hb dX1_pressure_0 rfl (lv_at hl 0 rfl) ?_
    refine lv_iload_n hx hb dX1_pressure_1 rfl (lv_at hl 1 rfl) ?_
    refine va_csq (W.runV (As := [.int (nI (i + 1))]) (rest := []) ⟨hx, hb, hml, hown, hts⟩ (c1_find_in l D cW h0 hw n q g sp lo ph pr bo mo rf hd gr st nx hn hg i hi) (cwV 1 hts gX1_pressure_X1_find rfl rfl rfl (by decide +kernel) ⟨Nat.le_of_ble_eq_true rfl, Nat.le_of_ble_eq_true rfl⟩) ⟨xP_blind, va_recv hK hP (ci := 1) (q0 := 0) rfl rfl, xP_at hP hK hN⟩ rfl rfl hl.1 rfl (lv_room (Nat.le_of_ble_eq_true rfl)) dX1_pressure_2 ⟨Nat.le_of_ble_eq_true rfl, Nat.le_of_ble_eq_true rfl⟩) (fun r_1 hr_2 => ?_)
    subst hr_2
    refine W.eq (g2 := F0 m 5 ls [.ref (q i)]) rfl ?_
    refine lv_astore_n (lv' := [(2, .ref (q i)), (0, .ref h0), (1, .int (nI (i + 1)))]) hx hb dX1_pressure_5 rfl hl (by decide) rfl (fun ls hl => ?_)
    refine lv_aload_n hx hb dX1_pressure_6 rfl (lv_at hl 0 rfl) ?_
    refine lv_ifnonnull (tgt := 16) hx hb dX1_pressure_7 (by decide) ?_
    refine lv_aload_n hx hb dX1_pressure_16 rfl (lv_at hl 0 rfl) ?_
    refine va_getN (D := D) (ci := 0) (v := .long (pr (i + 1))) (C := RX0) (T := TX0) (N := 6) hx hb hts (by decide +kernel) hown hK hP (i + 2) (cw_at hi) rfl 3 (by decide) (va_Nw.use rfl hN.2.2.2.1) (fun _ h9 => h9) rfl dX1_pressure_17 ?_
    exact W.lret (v := (pr (i + 1))) hx hb hr (fun t ht hW => ⟨_, rfl, by rw [if_neg (wOut_in hn hi), wIx hn hi], ht⟩) (fun q h => absurd h List.not_mem_nil) dX1_pressure_20
set_option maxHeartbeats 4000000 in
set_option maxRecDepth 100000 in
/-- plant -/
theorem c1_plant (l : Launch) (D : va_G) (cW : ClassId) (h0 hw n : Nat) (q : Nat → Nat) (g : Nat → Option Nat) (sp : Nat → Int64) (lo ph : Nat → Int32) (pr bo : Nat → Int64) (mo : Nat → UInt64) (rf : Int64) (hd gr st nx : Int32) (hn : n ≤ 8) (hg : ∀ i, i < n → g i = some (q i)) (w : Int32) : Met l yX1_plant wsX1_plant ({ frames := 1, cells := 0, slots := 0, locals := 21 }) (va_Pc [.ref h0, .int w] (xP D [(cW, .object RX0)] (cw h0 hw cW n q g sp lo ph pr bo mo rf hd gr st nx))) (vp_Sd (fun r : UInt64 => r = if wOut n w then FP.dconst0 else mo w.toNatClampNeg)) 0 0 (fun _ => False) := by
  rcases w_io n w hn with hwo | ⟨i, hi, rfl⟩
  · skip
    refine Met.ofW (cc := cX1_plant) (maxL := 3) (ret := (some .double)) (by decide) rfl ?_
    intro p e s m args below meth c s₁ B hml hv
    obtain ⟨rfl, hP, hK, hN⟩ := hv
    have hx := B.exec
    have hb := B.bytes
    have hr := B.returns
    have hts := atoms_spec (ws := wsX1_plant) B.pre
    have hown : s.vm.findClass RX1 = some m.cls := findClass_of_methodNamed B.named
    have hlocks := B.notSynchronized
    have hl := lv_entry ([.ref h0, .int w]) (n := 3) (Nat.le_of_ble_eq_true rfl)
    rw [lg_entry_eq]
    generalize (lg_sl ([.ref h0, .int w]) ++ List.replicate (3 - (lg_sl ([.ref h0, .int w])).length) Slot.unset).toArray = ls at hl ⊢
    replace hl : lv_has ls 3 [(0, .ref h0), (1, .int w)] := hl
    refine lv_aload_n hx hb dX1_plant_0 rfl (lv_at hl 0 rfl) ?_
    refine lv_iload_n hx hb dX1_plant_1 rfl (lv_at hl 1 rfl) ?_
    refine va_csq (W.runV (As := [.int w]) (rest := []) ⟨hx, hb, hml, hown, hts⟩ (c1_find_out l D cW h0 hw n q g sp lo ph pr bo mo rf hd gr st nx hn hg w hwo) (cwV 1 hts gX1_plant_X1_find rfl rfl rfl (by decide +kernel) ⟨Nat.le_of_ble_eq_true rfl, Nat.le_of_ble_eq_true rfl⟩) ⟨xP_blind, va_recv hK hP (ci := 1) (q0 := 0) rfl rfl, xP_at hP hK hN⟩ rfl rfl hl.1 rfl (lv_room (Nat.le_of_ble_eq_true rfl)) dX1_plant_2 ⟨Nat.le_of_ble_eq_true rfl, Nat.le_of_ble_eq_true rfl⟩) (fun r_1 hr_2 => ?_)
    subst hr_2
    refine W.eq (g2 := F0 m 5 ls [.null]) rfl ?_
    refine lv_astore_nN (lv' := [(2, .null), (0, .ref h0), (1, .int w)]) hx hb dX1_plant_5 rfl hl (by decide) rfl (fun ls hl => ?_)
    refine lv_aload_nN hx hb dX1_plant_6 rfl (lv_at hl 0 rfl) ?_
    refine lv_ifnonnullN hx hb dX1_plant_7 ?_
    refine lv_dconst0 hx hb dX1_plant_10 ?_
    refine lv_goto (tgt := 18) hx hb dX1_plant_11 (by decide) ?_
    exact W.dret (v := FP.dconst0) hx hb hr (fun t ht hW => ⟨_, rfl, by rw [if_pos hwo], ht⟩) (fun q h => absurd h List.not_mem_nil) dX1_plant_18
  · skip
    refine Met.ofW (cc := cX1_plant) (maxL := 3) (ret := (some .double)) (by decide) rfl ?_
    intro p e s m args below meth c s₁ B hml hv
    obtain ⟨rfl, hP, hK, hN⟩ := hv
    have hx := B.exec
    have hb := B.bytes
    have hr := B.returns
    have hts := atoms_spec (ws := wsX1_plant) B.pre
    have hown : s.vm.findClass RX1 = some m.cls := findClass_of_methodNamed B.named
    have hlocks := B.notSynchronized
    have hl := lv_entry ([.ref h0, .int (nI (i + 1))]) (n := 3) (Nat.le_of_ble_eq_true rfl)
    rw [lg_entry_eq]
    generalize (lg_sl ([.ref h0, .int (nI (i + 1))]) ++ List.replicate (3 - (lg_sl ([.ref h0, .int (nI (i + 1))])).length) Slot.unset).toArray = ls at hl ⊢
    replace hl : lv_has ls 3 [(0, .ref h0), (1, .int (nI (i + 1)))] := hl
    refine lv_aload_n hx hb dX1_plant_0 rfl (lv_at hl 0 rfl) ?_
    refine lv_iload_n hx hb dX1_plant_1 rfl (lv_at hl 1 rfl) ?_
    refine va_csq (W.runV (As := [.int (nI (i + 1))]) (rest := []) ⟨hx, hb, hml, hown, hts⟩ (c1_find_in l D cW h0 hw n q g sp lo ph pr bo mo rf hd gr st nx hn hg i hi) (cwV 1 hts gX1_plant_X1_find rfl rfl rfl (by decide +kernel) ⟨Nat.le_of_ble_eq_true rfl, Nat.le_of_ble_eq_true rfl⟩) ⟨xP_blind, va_recv hK hP (ci := 1) (q0 := 0) rfl rfl, xP_at hP hK hN⟩ rfl rfl hl.1 rfl (lv_room (Nat.le_of_ble_eq_true rfl)) dX1_plant_2 ⟨Nat.le_of_ble_eq_true rfl, Nat.le_of_ble_eq_true rfl⟩) (fun r_1 hr_2 => ?_)
    subst hr_2
    refine W.eq (g2 := F0 m 5 ls [.ref (q i)]) rfl ?_
    refine lv_astore_n (lv' := [(2, .ref (q i)), (0, .ref h0), (1, .int (nI (i + 1)))]) hx hb dX1_plant_5 rfl hl (by decide) rfl (fun ls hl => ?_)
    refine lv_aload_n hx hb dX1_plant_6 rfl (lv_at hl 0 rfl) ?_
    refine lv_ifnonnull (tgt := 14) hx hb dX1_plant_7 (by decide) ?_
    refine lv_aload_n hx hb dX1_plant_14 rfl (lv_at hl 0 rfl) ?_
    refine va_getN (D := D) (ci := 0) (v := .double (mo (i + 1))) (C := RX0) (T := TX0) (N := 6) hx hb hts (by decide +kernel) hown hK hP (i + 2) (cw_at hi) rfl 5 (by decide) (va_Nw.use rfl hN.2.2.2.2.2.1) (fun _ h9 => h9) rfl dX1_plant_15 ?_
    exact W.dret (v := (mo (i + 1))) hx hb hr (fun t ht hW => ⟨_, rfl, by rw [if_neg (wOut_in hn hi), wIx hn hi], ht⟩) (fun q h => absurd h List.not_mem_nil) dX1_plant_18
set_option maxHeartbeats 4000000 in
set_option maxRecDepth 100000 in
/-- gear -/
theorem c1_gear (l : Launch) (D : va_G) (cW : ClassId) (h0 hw n : Nat) (q : Nat → Nat) (g : Nat → Option Nat) (sp : Nat → Int64) (lo ph : Nat → Int32) (pr bo : Nat → Int64) (mo : Nat → UInt64) (rf : Int64) (hd gr st nx : Int32) (hn : n ≤ 8) (hg : ∀ i, i < n → g i = some (q i)) : Met l yX1_gear wsX1_gear ({ frames := 0, cells := 0, slots := 0, locals := 0 }) (va_Pc [.ref h0] (xP D [(cW, .object RX0)] (cw h0 hw cW n q g sp lo ph pr bo mo rf hd gr st nx))) (vp_Si (fun r : Int32 => r = gr)) 0 0 (fun _ => False) := by
  refine Met.ofW (cc := cX1_gear) (maxL := 1) (ret := (some .int)) (by decide) rfl ?_
  intro p e s m args below meth c s₁ B hml hv
  obtain ⟨rfl, hP, hK, hN⟩ := hv
  have hx := B.exec
  have hb := B.bytes
  have hr := B.returns
  have hts := atoms_spec (ws := wsX1_gear) B.pre
  have hown : s.vm.findClass RX1 = some m.cls := findClass_of_methodNamed B.named
  have hlocks := B.notSynchronized
  have hm1 : (.fieldLink RX1 16 "GearBrake" "gear" "I" : Cond) ∈ wsX1_gear := by decide +kernel
  have hl := lv_entry ([.ref h0]) (n := 1) (Nat.le_of_ble_eq_true rfl)
  rw [lg_entry_eq]
  generalize (lg_sl ([.ref h0]) ++ List.replicate (1 - (lg_sl ([.ref h0])).length) Slot.unset).toArray = ls at hl ⊢
  replace hl : lv_has ls 1 [(0, .ref h0)] := hl
  refine lv_aload_n hx hb dX1_gear_0 rfl (lv_at hl 0 rfl) ?_
  refine va_get (D := D) (ci := 1) (v := .int gr) (C := RX1) (T := TX1) (N := 6) hx hb hts (by decide +kernel) hown hK hP 0 rfl rfl 3 (by decide) (hts _ hm1) (fun _ h9 => h9) rfl dX1_gear_1 ?_
  exact W.iret (v := gr) hx hb hr (fun t ht hW => ⟨_, rfl, rfl, ht⟩) (fun q h => absurd h List.not_mem_nil) dX1_gear_4
set_option maxHeartbeats 4000000 in
set_option maxRecDepth 100000 in
/-- reference -/
theorem c1_reference (l : Launch) (D : va_G) (cW : ClassId) (h0 hw n : Nat) (q : Nat → Nat) (g : Nat → Option Nat) (sp : Nat → Int64) (lo ph : Nat → Int32) (pr bo : Nat → Int64) (mo : Nat → UInt64) (rf : Int64) (hd gr st nx : Int32) (hn : n ≤ 8) (hg : ∀ i, i < n → g i = some (q i)) : Met l yX1_reference wsX1_reference ({ frames := 0, cells := 0, slots := 0, locals := 0 }) (va_Pc [.ref h0] (xP D [(cW, .object RX0)] (cw h0 hw cW n q g sp lo ph pr bo mo rf hd gr st nx))) (vp_Sl (fun r : Int64 => r = rf)) 0 0 (fun _ => False) := by
  refine Met.ofW (cc := cX1_reference) (maxL := 1) (ret := (some .long)) (by decide) rfl ?_
  intro p e s m args below meth c s₁ B hml hv
  obtain ⟨rfl, hP, hK, hN⟩ := hv
  have hx := B.exec
  have hb := B.bytes
  have hr := B.returns
  have hts := atoms_spec (ws := wsX1_reference) B.pre
  have hown : s.vm.findClass RX1 = some m.cls := findClass_of_methodNamed B.named
  have hlocks := B.notSynchronized
  have hm1 : (.fieldLink RX1 47 "GearBrake" "reference" "J" : Cond) ∈ wsX1_reference := by decide +kernel
  have hl := lv_entry ([.ref h0]) (n := 1) (Nat.le_of_ble_eq_true rfl)
  rw [lg_entry_eq]
  generalize (lg_sl ([.ref h0]) ++ List.replicate (1 - (lg_sl ([.ref h0])).length) Slot.unset).toArray = ls at hl ⊢
  replace hl : lv_has ls 1 [(0, .ref h0)] := hl
  refine lv_aload_n hx hb dX1_reference_0 rfl (lv_at hl 0 rfl) ?_
  refine va_get (D := D) (ci := 1) (v := .long rf) (C := RX1) (T := TX1) (N := 6) hx hb hts (by decide +kernel) hown hK hP 0 rfl rfl 1 (by decide) (hts _ hm1) (fun _ h9 => h9) rfl dX1_reference_1 ?_
  exact W.lret (v := rf) hx hb hr (fun t ht hW => ⟨_, rfl, rfl, ht⟩) (fun q h => absurd h List.not_mem_nil) dX1_reference_4
set_option maxHeartbeats 4000000 in
set_option maxRecDepth 100000 in
/-- mode -/
theorem c1_mode (l : Launch) (D : va_G) (cW : ClassId) (h0 hw n : Nat) (q : Nat → Nat) (g : Nat → Option Nat) (sp : Nat → Int64) (lo ph : Nat → Int32) (pr bo : Nat → Int64) (mo : Nat → UInt64) (rf : Int64) (hd gr st nx : Int32) (hn : n ≤ 8) (hg : ∀ i, i < n → g i = some (q i)) : Met l yX1_mode wsX1_mode ({ frames := 1, cells := 0, slots := 0, locals := 22 }) (va_Pc [.ref h0] (xP D [(cW, .object RX0)] (cw h0 hw cW n q g sp lo ph pr bo mo rf hd gr st nx))) (vp_Si (fun r : Int32 => r = if hd = 0 then (if cnt lo n ≤ 0 then 0 else 1) else 2)) 0 0 (fun _ => False) := by
  refine Met.ofW (cc := cX1_mode) (maxL := 1) (ret := (some .int)) (by decide) rfl ?_
  intro p e s m args below meth c s₁ B hml hv
  obtain ⟨rfl, hP, hK, hN⟩ := hv
  have hx := B.exec
  have hb := B.bytes
  have hr := B.returns
  have hts := atoms_spec (ws := wsX1_mode) B.pre
  have hown : s.vm.findClass RX1 = some m.cls := findClass_of_methodNamed B.named
  have hlocks := B.notSynchronized
  have hm1 : (.fieldLink RX1 50 "GearBrake" "held" "Z" : Cond) ∈ wsX1_mode := by decide +kernel
  have hl := lv_entry ([.ref h0]) (n := 1) (Nat.le_of_ble_eq_true rfl)
  rw [lg_entry_eq]
  generalize (lg_sl ([.ref h0]) ++ List.replicate (1 - (lg_sl ([.ref h0])).length) Slot.unset).toArray = ls at hl ⊢
  replace hl : lv_has ls 1 [(0, .ref h0)] := hl
  refine lv_aload_n hx hb dX1_mode_0 rfl (lv_at hl 0 rfl) ?_
  refine va_get (D := D) (ci := 1) (v := .int hd) (C := RX1) (T := TX1) (N := 6) hx hb hts (by decide +kernel) hown hK hP 0 rfl rfl 2 (by decide) (hts _ hm1) (fun _ h9 => h9) rfl dX1_mode_1 ?_
  refine lv_if_eq (tgt := 9) hx hb dX1_mode_4 (by decide) (fun c_1 => ?_) (fun c_1 => ?_)
  · skip
    refine lv_aload_n hx hb dX1_mode_9 rfl (lv_at hl 0 rfl) ?_
    refine vp_callSi (W.runV (As := []) (rest := []) ⟨hx, hb, hml, hown, hts⟩ (c1_countLost l D cW h0 hw n q g sp lo ph pr bo mo rf hd gr st nx hn hg) (cwV 0 hts gX1_mode_X1_countLost rfl rfl rfl (by decide +kernel) ⟨Nat.le_of_ble_eq_true rfl, Nat.le_of_ble_eq_true rfl⟩) ⟨xP_blind, va_recv hK hP (ci := 1) (q0 := 0) rfl rfl, xP_at hP hK hN⟩ rfl rfl hl.1 rfl (lv_room (Nat.le_of_ble_eq_true rfl)) dX1_mode_10 ⟨Nat.le_of_ble_eq_true rfl, Nat.le_of_ble_eq_true rfl⟩) (fun r_2 hr_3 => ?_)
    subst hr_3
    refine lv_if_le (tgt := 20) hx hb dX1_mode_13 (by decide) (fun c_4 => ?_) (fun c_4 => ?_)
    · skip
      refine lv_iconst (v := 0) hx hb dX1_mode_20 (by decide) ?_
      exact W.iret (v := 0) hx hb hr (fun t ht hW => ⟨_, rfl, by first | (simp [c_1, c_4]; done) | (simp [c_1, c_4]; rfl), ht⟩) (fun q h => absurd h List.not_mem_nil) dX1_mode_21
    · skip
      refine lv_iconst (v := 1) hx hb dX1_mode_16 (by decide) ?_
      refine lv_goto (tgt := 21) hx hb dX1_mode_17 (by decide) ?_
      exact W.iret (v := 1) hx hb hr (fun t ht hW => ⟨_, rfl, by first | (simp [c_1, c_4]; done) | (simp [c_1, c_4]; rfl), ht⟩) (fun q h => absurd h List.not_mem_nil) dX1_mode_21
  · skip
    refine lv_iconst (v := 2) hx hb dX1_mode_7 (by decide) ?_
    exact W.iret (v := 2) hx hb hr (fun t ht hW => ⟨_, rfl, by first | (simp [c_1]; done) | (simp [c_1]; rfl), ht⟩) (fun q h => absurd h List.not_mem_nil) dX1_mode_8
