/-! ===== the reference: methods that write ===== -/
set_option maxHeartbeats 4000000 in
set_option maxRecDepth 100000 in
/-- refer -/
theorem m2_refer (l : Launch) (D : va_G) (m0 : Nat) (a : Nat → Nat) (C : Nat → ClassId) (n : Nat) (th : Int32) (sp : Nat → Int64) (lo ph : Nat → Int32) (pr bo : Nat → Int64) (mo : Nat → UInt64) (rf : Int64) (gr hd st ch rs : Int32) (hn : n ≤ 8) (ped : Int64) (sz : Nat) : Met l yX2_refer wsX2_refer ({ frames := 1, cells := 0, slots := 0, locals := 22 }) (va_Pc [.ref m0, .long ped] (xW D [(C 1, .long), (C 2, .boolean), (C 3, .int), (C 4, .long), (C 5, .long), (C 6, .double)] (mw m0 a C th (nI n) sp lo ph pr bo mo rf gr hd st ch rs) sz)) (va_Qv (fun (u : (Int64)) => u = mRef n ped rf lo sp) (fun (u : (Int64)) => xB D [(C 1, .long), (C 2, .boolean), (C 3, .int), (C 4, .long), (C 5, .long), (C 6, .double)] (va_A (mw m0 a C th (nI n) sp lo ph pr bo mo rf gr hd st ch rs) sz) (mw m0 a C th (nI n) sp lo ph pr bo mo u gr hd st ch rs)) (va_A (mw m0 a C th (nI n) sp lo ph pr bo mo rf gr hd st ch rs) sz)) 0 0 (va_A (mw m0 a C th (nI n) sp lo ph pr bo mo rf gr hd st ch rs) sz) := by
  refine Met.ofW (cc := cX2_refer) (maxL := 8) (ret := none) (by decide) rfl ?_
  intro p e s m args below meth c s₁ B hml hv
  obtain ⟨rfl, hsz, ⟨hP, hK, hN⟩, hDt⟩ := hv
  have hx := B.exec
  have hb := B.bytes
  have hr := B.returns
  have hts := atoms_spec (ws := wsX2_refer) B.pre
  have hown : s.vm.findClass RX2 = some m.cls := findClass_of_methodNamed B.named
  have hlocks := B.notSynchronized
  have hm1 : (.fieldLink RX2 35 "GearBrakeModel" "wheels" "I" : Cond) ∈ wsX2_refer := by decide +kernel
  have hm2 : (.fieldLink RX2 53 "GearBrakeModel" "reference" "J" : Cond) ∈ wsX2_refer := by decide +kernel
  have hm3 : (.constantLong RX2 57 (3) : Cond) ∈ wsX2_refer := by decide +kernel
  have hm4 : (.fieldLink RX2 13 "GearBrakeModel" "losts" "[Z" : Cond) ∈ wsX2_refer := by decide +kernel
  have hm5 : (.fieldLink RX2 7 "GearBrakeModel" "speeds" "[J" : Cond) ∈ wsX2_refer := by decide +kernel
  subst hsz
  have hD := hDt.self (sz := s.heap.size)
  generalize hAe : va_A (mw m0 a C th (nI n) sp lo ph pr bo mo rf gr hd st ch rs) s.heap.size = A at hD ⊢
  have hA : ∀ q : Nat, s.heap.size ≤ q → A q := fun q h => by rw [← hAe]; exact Or.inr h
  have hS : va_S A s.heap s.heap [] := va_S.rf
  have hl := lv_entry ([.ref m0, .long ped]) (n := 8) (Nat.le_of_ble_eq_true rfl)
  rw [lg_entry_eq]
  generalize (lg_sl ([.ref m0, .long ped]) ++ List.replicate (8 - (lg_sl ([.ref m0, .long ped])).length) Slot.unset).toArray = ls at hl ⊢
  replace hl : lv_has ls 8 [(0, .ref m0), (1, .long ped)] := hl
  refine lv_lconst (v := 0) hx hb dX2_refer_0 (by decide) ?_
  refine lv_lstore_n (lv' := [(3, .long 0), (0, .ref m0), (1, .long ped)]) hx hb dX2_refer_1 rfl hl (by decide) rfl (fun ls hl => ?_)
  refine lv_iconst (v := 1) hx hb dX2_refer_2 (by decide) ?_
  refine lv_istore (lv' := [(5, .int 1), (3, .long 0), (0, .ref m0), (1, .long ped)]) hx hb dX2_refer_3 hl (by decide) rfl (fun ls hl => ?_)
  obtain ⟨j, hI⟩ : ∃ (j : Nat), j ≤ n ∧ lv_has ls 8 [(5, .int (nI (j + 1))), (3, .long (mTop lo sp j)), (0, .ref m0), (1, .long ped)] := ⟨0, Nat.zero_le _, by exact lv_sub hl [0, 1, 2, 3] rfl⟩
  obtain ⟨d, hjd⟩ : ∃ d, j + d = n := ⟨n - j, by omega⟩
  clear hl
  induction d generalizing ls j with
  | zero =>
    obtain ⟨hjn, hl⟩ := hI
    have hjn : j = n := by omega
    rw [hjn] at hl
    refine lv_iload hx hb dX2_refer_5 (lv_at hl 0 rfl) ?_
    refine lv_aload_n hx hb dX2_refer_7 rfl (lv_at hl 2 rfl) ?_
    refine va_get (D := D) (ci := 2) (v := .int (nI n)) (C := RX2) (T := TX2) (N := 14) hx hb hts (by decide +kernel) hown hK hP 0 rfl rfl 1 (by decide) (hts _ hm1) (fun _ h9 => h9) rfl dX2_refer_8 ?_
    refine lv_icmp_gt (tgt := 54) hx hb dX2_refer_11 (by decide) (fun c_1 => ?_) (fun c_1 => absurd (nI_lt (Nat.lt_succ_self n) (by omega)) c_1)
    refine lv_aload_n hx hb dX2_refer_54 rfl (lv_at hl 2 rfl) ?_
    refine vp_callSi (W.runV (As := []) (rest := []) ⟨hx, hb, hml, hown, hts⟩ (m2_lostOnes l D m0 a C n th sp lo ph pr bo mo rf gr hd st ch rs hn) (cwV 0 hts gX2_refer_X2_lostOnes rfl rfl rfl (by decide +kernel) ⟨Nat.le_of_ble_eq_true rfl, Nat.le_of_ble_eq_true rfl⟩) ⟨xP_blind, va_recv hK hP (ci := 2) (q0 := 0) rfl rfl, xP_at hP hK hN⟩ rfl rfl hl.1 rfl (lv_room (Nat.le_of_ble_eq_true rfl)) dX2_refer_55 ⟨Nat.le_of_ble_eq_true rfl, Nat.le_of_ble_eq_true rfl⟩) (fun r_2 hr_3 => ?_)
    subst hr_3
    refine lv_aload_n hx hb dX2_refer_58 rfl (lv_at hl 2 rfl) ?_
    refine va_get (D := D) (ci := 2) (v := .int (nI n)) (C := RX2) (T := TX2) (N := 14) hx hb hts (by decide +kernel) hown hK hP 0 rfl rfl 1 (by decide) (hts _ hm1) (fun _ h9 => h9) rfl dX2_refer_59 ?_
    refine lv_icmp_ne (tgt := 69) hx hb dX2_refer_62 (by decide) (fun c_4 => ?_) (fun c_4 => ?_)
    · skip
      refine lv_iconst (v := 0) hx hb dX2_refer_69 (by decide) ?_
      refine lv_istore (lv' := [(5, .int 0), (3, .long (mTop lo sp n)), (0, .ref m0), (1, .long ped)]) hx hb dX2_refer_70 hl (by decide) rfl (fun ls hl => ?_)
      refine lv_aload_n hx hb dX2_refer_72 rfl (lv_at hl 2 rfl) ?_
      refine va_get (D := D) (ci := 2) (v := .long rf) (C := RX2) (T := TX2) (N := 14) hx hb hts (by decide +kernel) hown hK hP 0 rfl rfl 8 (by decide) (hts _ hm2) (fun _ h9 => h9) rfl dX2_refer_73 ?_
      refine lv_ldc2 hx hb hown (hts _ hm3) dX2_refer_76 ?_
      refine W.lcmp hx hb dX2_refer_79 ?_
      refine lv_if_ge (tgt := 87) hx hb dX2_refer_80 (by decide) (fun c_5 => ?_) (fun c_5 => ?_)
      · skip
        replace c_5 := (lg_cmp_ge _ _).mp c_5
        refine lv_aload_n hx hb dX2_refer_87 rfl (lv_at hl 2 rfl) ?_
        refine va_get (D := D) (ci := 2) (v := .long rf) (C := RX2) (T := TX2) (N := 14) hx hb hts (by decide +kernel) hown hK hP 0 rfl rfl 8 (by decide) (hts _ hm2) (fun _ h9 => h9) rfl dX2_refer_88 ?_
        refine lv_ldc2 hx hb hown (hts _ hm3) dX2_refer_91 ?_
        refine lv_lsub hx hb dX2_refer_94 ?_
        refine lv_lstore (lv' := [(6, .long (rf - 3)), (5, .int 0), (3, .long (mTop lo sp n)), (0, .ref m0), (1, .long ped)]) hx hb dX2_refer_95 hl (by decide) rfl (fun ls hl => ?_)
        refine lv_iload hx hb dX2_refer_97 (lv_at hl 1 rfl) ?_
        refine lv_if_eq (tgt := 111) hx hb dX2_refer_99 (by decide) (fun c_6 => ?_) (fun c_6 => absurd (by decide) c_6)
        refine lv_aload_n hx hb dX2_refer_111 rfl (lv_at hl 3 rfl) ?_
        refine lv_lload_n hx hb dX2_refer_112 rfl (lv_at hl 4 rfl) ?_
        refine lv_lconst (v := 0) hx hb dX2_refer_113 (by decide) ?_
        refine W.lcmp hx hb dX2_refer_114 ?_
        refine lv_if_le (tgt := 130) hx hb dX2_refer_115 (by decide) (fun c_7 => ?_) (fun c_7 => ?_)
        · skip
          replace c_7 := (lg_cmp_le _ _).mp c_7
          refine lv_lload_n hx hb dX2_refer_130 rfl (lv_at hl 2 rfl) ?_
          refine va_put (D := D) (ci := 2) (v := .long (mTop lo sp n)) (ty := .long) (C := RX2) (T := TX2) (N := 14) hx hb hts (by decide +kernel) tyX2 tyX2_ok nmX2 hown hK hP hD hS 0 rfl rfl 8 (by decide) (hts _ hm2) (fun _ h9 => h9) rfl (by decide +kernel) rfl rfl (Nat.le_of_ble_eq_true rfl) dX2_refer_131 (fun H locs hP hD hS => ?_)
          replace hP : va_P D vwCl (mw m0 a C th (nI n) sp lo ph pr bo mo (mTop lo sp n) gr hd st ch rs) H := hP
          replace hD : va_D A (mw m0 a C th (nI n) sp lo ph pr bo mo (mTop lo sp n) gr hd st ch rs) := hD
          exact W.vret hx hb hr (fun t ht hW => ⟨⟨(mTop lo sp n), rfl, by simp [mRef, mLess, c_4, c_5, c_7], xB_end hP hK hN hD ht hW⟩, hS.F ht⟩) hS.2.2 dX2_refer_134
        · skip
          replace c_7 := mt (lg_cmp_le _ _).mpr c_7
          refine lv_lload hx hb dX2_refer_118 (lv_at hl 0 rfl) ?_
          refine lv_lload_n hx hb dX2_refer_120 rfl (lv_at hl 2 rfl) ?_
          refine W.lcmp hx hb dX2_refer_121 ?_
          refine lv_if_le (tgt := 130) hx hb dX2_refer_122 (by decide) (fun c_8 => ?_) (fun c_8 => ?_)
          · skip
            replace c_8 := (lg_cmp_le _ _).mp c_8
            refine lv_lload_n hx hb dX2_refer_130 rfl (lv_at hl 2 rfl) ?_
            refine va_put (D := D) (ci := 2) (v := .long (mTop lo sp n)) (ty := .long) (C := RX2) (T := TX2) (N := 14) hx hb hts (by decide +kernel) tyX2 tyX2_ok nmX2 hown hK hP hD hS 0 rfl rfl 8 (by decide) (hts _ hm2) (fun _ h9 => h9) rfl (by decide +kernel) rfl rfl (Nat.le_of_ble_eq_true rfl) dX2_refer_131 (fun H locs hP hD hS => ?_)
            replace hP : va_P D vwCl (mw m0 a C th (nI n) sp lo ph pr bo mo (mTop lo sp n) gr hd st ch rs) H := hP
            replace hD : va_D A (mw m0 a C th (nI n) sp lo ph pr bo mo (mTop lo sp n) gr hd st ch rs) := hD
            exact W.vret hx hb hr (fun t ht hW => ⟨⟨(mTop lo sp n), rfl, by simp [mRef, mLess, c_4, c_5, c_7, c_8], xB_end hP hK hN hD ht hW⟩, hS.F ht⟩) hS.2.2 dX2_refer_134
          · skip
            replace c_8 := mt (lg_cmp_le _ _).mpr c_8
            refine lv_lload hx hb dX2_refer_125 (lv_at hl 0 rfl) ?_
            refine lv_goto (tgt := 131) hx hb dX2_refer_127 (by decide) ?_
            refine va_put (D := D) (ci := 2) (v := .long (rf - 3)) (ty := .long) (C := RX2) (T := TX2) (N := 14) hx hb hts (by decide +kernel) tyX2 tyX2_ok nmX2 hown hK hP hD hS 0 rfl rfl 8 (by decide) (hts _ hm2) (fun _ h9 => h9) rfl (by decide +kernel) rfl rfl (Nat.le_of_ble_eq_true rfl) dX2_refer_131 (fun H locs hP hD hS => ?_)
            replace hP : va_P D vwCl (mw m0 a C th (nI n) sp lo ph pr bo mo (rf - 3) gr hd st ch rs) H := hP
            replace hD : va_D A (mw m0 a C th (nI n) sp lo ph pr bo mo (rf - 3) gr hd st ch rs) := hD
            exact W.vret hx hb hr (fun t ht hW => ⟨⟨(rf - 3), rfl, by simp [mRef, mLess, c_4, c_5, c_7, c_8], xB_end hP hK hN hD ht hW⟩, hS.F ht⟩) hS.2.2 dX2_refer_134
      · skip
        replace c_5 := mt (lg_cmp_ge _ _).mpr c_5
        refine lv_lconst (v := 0) hx hb dX2_refer_83 (by decide) ?_
        refine lv_goto (tgt := 95) hx hb dX2_refer_84 (by decide) ?_
        refine lv_lstore (lv' := [(6, .long 0), (5, .int 0), (3, .long (mTop lo sp n)), (0, .ref m0), (1, .long ped)]) hx hb dX2_refer_95 hl (by decide) rfl (fun ls hl => ?_)
        refine lv_iload hx hb dX2_refer_97 (lv_at hl 1 rfl) ?_
        refine lv_if_eq (tgt := 111) hx hb dX2_refer_99 (by decide) (fun c_9 => ?_) (fun c_9 => absurd (by decide) c_9)
        refine lv_aload_n hx hb dX2_refer_111 rfl (lv_at hl 3 rfl) ?_
        refine lv_lload_n hx hb dX2_refer_112 rfl (lv_at hl 4 rfl) ?_
        refine lv_lconst (v := 0) hx hb dX2_refer_113 (by decide) ?_
        refine W.lcmp hx hb dX2_refer_114 ?_
        refine lv_if_le (tgt := 130) hx hb dX2_refer_115 (by decide) (fun c_10 => ?_) (fun c_10 => ?_)
        · skip
          replace c_10 := (lg_cmp_le _ _).mp c_10
          refine lv_lload_n hx hb dX2_refer_130 rfl (lv_at hl 2 rfl) ?_
          refine va_put (D := D) (ci := 2) (v := .long (mTop lo sp n)) (ty := .long) (C := RX2) (T := TX2) (N := 14) hx hb hts (by decide +kernel) tyX2 tyX2_ok nmX2 hown hK hP hD hS 0 rfl rfl 8 (by decide) (hts _ hm2) (fun _ h9 => h9) rfl (by decide +kernel) rfl rfl (Nat.le_of_ble_eq_true rfl) dX2_refer_131 (fun H locs hP hD hS => ?_)
          replace hP : va_P D vwCl (mw m0 a C th (nI n) sp lo ph pr bo mo (mTop lo sp n) gr hd st ch rs) H := hP
          replace hD : va_D A (mw m0 a C th (nI n) sp lo ph pr bo mo (mTop lo sp n) gr hd st ch rs) := hD
          exact W.vret hx hb hr (fun t ht hW => ⟨⟨(mTop lo sp n), rfl, by simp [mRef, mLess, c_4, c_5, c_10], xB_end hP hK hN hD ht hW⟩, hS.F ht⟩) hS.2.2 dX2_refer_134
        · skip
          replace c_10 := mt (lg_cmp_le _ _).mpr c_10
          refine lv_lload hx hb dX2_refer_118 (lv_at hl 0 rfl) ?_
          refine lv_lload_n hx hb dX2_refer_120 rfl (lv_at hl 2 rfl) ?_
          refine W.lcmp hx hb dX2_refer_121 ?_
          refine lv_if_le (tgt := 130) hx hb dX2_refer_122 (by decide) (fun c_11 => ?_) (fun c_11 => ?_)
          · skip
            replace c_11 := (lg_cmp_le _ _).mp c_11
            refine lv_lload_n hx hb dX2_refer_130 rfl (lv_at hl 2 rfl) ?_
            refine va_put (D := D) (ci := 2) (v := .long (mTop lo sp n)) (ty := .long) (C := RX2) (T := TX2) (N := 14) hx hb hts (by decide +kernel) tyX2 tyX2_ok nmX2 hown hK hP hD hS 0 rfl rfl 8 (by decide) (hts _ hm2) (fun _ h9 => h9) rfl (by decide +kernel) rfl rfl (Nat.le_of_ble_eq_true rfl) dX2_refer_131 (fun H locs hP hD hS => ?_)
            replace hP : va_P D vwCl (mw m0 a C th (nI n) sp lo ph pr bo mo (mTop lo sp n) gr hd st ch rs) H := hP
            replace hD : va_D A (mw m0 a C th (nI n) sp lo ph pr bo mo (mTop lo sp n) gr hd st ch rs) := hD
            exact W.vret hx hb hr (fun t ht hW => ⟨⟨(mTop lo sp n), rfl, by simp [mRef, mLess, c_4, c_5, c_10, c_11], xB_end hP hK hN hD ht hW⟩, hS.F ht⟩) hS.2.2 dX2_refer_134
          · skip
            replace c_11 := mt (lg_cmp_le _ _).mpr c_11
            refine lv_lload hx hb dX2_refer_125 (lv_at hl 0 rfl) ?_
            refine lv_goto (tgt := 131) hx hb dX2_refer_127 (by decide) ?_
            refine va_put (D := D) (ci := 2) (v := .long 0) (ty := .long) (C := RX2) (T := TX2) (N := 14) hx hb hts (by decide +kernel) tyX2 tyX2_ok nmX2 hown hK hP hD hS 0 rfl rfl 8 (by decide) (hts _ hm2) (fun _ h9 => h9) rfl (by decide +kernel) rfl rfl (Nat.le_of_ble_eq_true rfl) dX2_refer_131 (fun H locs hP hD hS => ?_)
            replace hP : va_P D vwCl (mw m0 a C th (nI n) sp lo ph pr bo mo 0 gr hd st ch rs) H := hP
            replace hD : va_D A (mw m0 a C th (nI n) sp lo ph pr bo mo 0 gr hd st ch rs) := hD
            exact W.vret hx hb hr (fun t ht hW => ⟨⟨(0), rfl, by simp [mRef, mLess, c_4, c_5, c_10, c_11], xB_end hP hK hN hD ht hW⟩, hS.F ht⟩) hS.2.2 dX2_refer_134
    · skip
      refine lv_iconst (v := 1) hx hb dX2_refer_65 (by decide) ?_
      refine lv_goto (tgt := 70) hx hb dX2_refer_66 (by decide) ?_
      refine lv_istore (lv' := [(5, .int 1), (3, .long (mTop lo sp n)), (0, .ref m0), (1, .long ped)]) hx hb dX2_refer_70 hl (by decide) rfl (fun ls hl => ?_)
      refine lv_aload_n hx hb dX2_refer_72 rfl (lv_at hl 2 rfl) ?_
      refine va_get (D := D) (ci := 2) (v := .long rf) (C := RX2) (T := TX2) (N := 14) hx hb hts (by decide +kernel) hown hK hP 0 rfl rfl 8 (by decide) (hts _ hm2) (fun _ h9 => h9) rfl dX2_refer_73 ?_
      refine lv_ldc2 hx hb hown (hts _ hm3) dX2_refer_76 ?_
      refine W.lcmp hx hb dX2_refer_79 ?_
      refine lv_if_ge (tgt := 87) hx hb dX2_refer_80 (by decide) (fun c_12 => ?_) (fun c_12 => ?_)
      · skip
        replace c_12 := (lg_cmp_ge _ _).mp c_12
        refine lv_aload_n hx hb dX2_refer_87 rfl (lv_at hl 2 rfl) ?_
        refine va_get (D := D) (ci := 2) (v := .long rf) (C := RX2) (T := TX2) (N := 14) hx hb hts (by decide +kernel) hown hK hP 0 rfl rfl 8 (by decide) (hts _ hm2) (fun _ h9 => h9) rfl dX2_refer_88 ?_
        refine lv_ldc2 hx hb hown (hts _ hm3) dX2_refer_91 ?_
        refine lv_lsub hx hb dX2_refer_94 ?_
        refine lv_lstore (lv' := [(6, .long (rf - 3)), (5, .int 1), (3, .long (mTop lo sp n)), (0, .ref m0), (1, .long ped)]) hx hb dX2_refer_95 hl (by decide) rfl (fun ls hl => ?_)
        refine lv_iload hx hb dX2_refer_97 (lv_at hl 1 rfl) ?_
        refine lv_if_eq (tgt := 111) hx hb dX2_refer_99 (by decide) (fun c_13 => absurd c_13 (by decide)) (fun c_13 => ?_)
        refine lv_aload_n hx hb dX2_refer_102 rfl (lv_at hl 3 rfl) ?_
        refine lv_lload hx hb dX2_refer_103 (lv_at hl 0 rfl) ?_
        refine va_put (D := D) (ci := 2) (v := .long (rf - 3)) (ty := .long) (C := RX2) (T := TX2) (N := 14) hx hb hts (by decide +kernel) tyX2 tyX2_ok nmX2 hown hK hP hD hS 0 rfl rfl 8 (by decide) (hts _ hm2) (fun _ h9 => h9) rfl (by decide +kernel) rfl rfl (Nat.le_of_ble_eq_true rfl) dX2_refer_105 (fun H locs hP hD hS => ?_)
        replace hP : va_P D vwCl (mw m0 a C th (nI n) sp lo ph pr bo mo (rf - 3) gr hd st ch rs) H := hP
        replace hD : va_D A (mw m0 a C th (nI n) sp lo ph pr bo mo (rf - 3) gr hd st ch rs) := hD
        refine lv_goto (tgt := 134) hx hb dX2_refer_108 (by decide) ?_
        exact W.vret hx hb hr (fun t ht hW => ⟨⟨(rf - 3), rfl, by simp [mRef, mLess, c_4, c_12], xB_end hP hK hN hD ht hW⟩, hS.F ht⟩) hS.2.2 dX2_refer_134
      · skip
        replace c_12 := mt (lg_cmp_ge _ _).mpr c_12
        refine lv_lconst (v := 0) hx hb dX2_refer_83 (by decide) ?_
        refine lv_goto (tgt := 95) hx hb dX2_refer_84 (by decide) ?_
        refine lv_lstore (lv' := [(6, .long 0), (5, .int 1), (3, .long (mTop lo sp n)), (0, .ref m0), (1, .long ped)]) hx hb dX2_refer_95 hl (by decide) rfl (fun ls hl => ?_)
        refine lv_iload hx hb dX2_refer_97 (lv_at hl 1 rfl) ?_
        refine lv_if_eq (tgt := 111) hx hb dX2_refer_99 (by decide) (fun c_14 => absurd c_14 (by decide)) (fun c_14 => ?_)
        refine lv_aload_n hx hb dX2_refer_102 rfl (lv_at hl 3 rfl) ?_
        refine lv_lload hx hb dX2_refer_103 (lv_at hl 0 rfl) ?_
        refine va_put (D := D) (ci := 2) (v := .long 0) (ty := .long) (C := RX2) (T := TX2) (N := 14) hx hb hts (by decide +kernel) tyX2 tyX2_ok nmX2 hown hK hP hD hS 0 rfl rfl 8 (by decide) (hts _ hm2) (fun _ h9 => h9) rfl (by decide +kernel) rfl rfl (Nat.le_of_ble_eq_true rfl) dX2_refer_105 (fun H locs hP hD hS => ?_)
        replace hP : va_P D vwCl (mw m0 a C th (nI n) sp lo ph pr bo mo 0 gr hd st ch rs) H := hP
        replace hD : va_D A (mw m0 a C th (nI n) sp lo ph pr bo mo 0 gr hd st ch rs) := hD
        refine lv_goto (tgt := 134) hx hb dX2_refer_108 (by decide) ?_
        exact W.vret hx hb hr (fun t ht hW => ⟨⟨(0), rfl, by simp [mRef, mLess, c_4, c_12], xB_end hP hK hN hD ht hW⟩, hS.F ht⟩) hS.2.2 dX2_refer_134
  | succ d ih =>
    obtain ⟨hjn, hl⟩ := hI
    have hlt : j < n := by omega
    refine lv_iload hx hb dX2_refer_5 (lv_at hl 0 rfl) ?_
    refine lv_aload_n hx hb dX2_refer_7 rfl (lv_at hl 2 rfl) ?_
    refine va_get (D := D) (ci := 2) (v := .int (nI n)) (C := RX2) (T := TX2) (N := 14) hx hb hts (by decide +kernel) hown hK hP 0 rfl rfl 1 (by decide) (hts _ hm1) (fun _ h9 => h9) rfl dX2_refer_8 ?_
    refine lv_icmp_gt (tgt := 54) hx hb dX2_refer_11 (by decide) (fun c_15 => absurd c_15 (nI_nlt (by omega) (by omega))) (fun c_15 => ?_)
    refine lv_aload_n hx hb dX2_refer_14 rfl (lv_at hl 2 rfl) ?_
    refine va_get (D := D) (ci := 2) (v := .ref (a 2)) (C := RX2) (T := TX2) (N := 14) hx hb hts (by decide +kernel) hown hK hP 0 rfl rfl 3 (by decide) (hts _ hm4) (fun _ h9 => h9) rfl dX2_refer_15 ?_
    refine lv_iload hx hb dX2_refer_18 (lv_at hl 0 rfl) ?_
    refine va_zald (D := D) (f := lo) hx hb hK hP 2 1 rfl rfl (ix_9 hn hlt) dX2_refer_20 ?_
    refine W.eq (g2 := F0 m 21 ls [.int (lo (j + 1))]) (by rw [wIx hn hlt]) ?_
    refine lv_if_ne (tgt := 46) hx hb dX2_refer_21 (by decide) (fun c_16 => ?_) (fun c_16 => ?_)
    · skip
      refine lv_lload_n hx hb dX2_refer_46 rfl (lv_at hl 1 rfl) ?_
      refine lv_lstore_n (lv' := [(3, .long (mTop lo sp j)), (5, .int (nI (j + 1))), (0, .ref m0), (1, .long ped)]) hx hb dX2_refer_47 rfl hl (by decide) rfl (fun ls hl => ?_)
      refine lv_iinc (v := nI (j + 1 + 1)) (lv' := [(5, .int (nI (j + 1 + 1))), (3, .long (mTop lo sp j)), (0, .ref m0), (1, .long ped)]) hx hb dX2_refer_48 hl (k := 1) rfl (nI_1 (j + 1)) (by decide) rfl (fun ls hl => ?_)
      refine lv_goto (tgt := 5) hx hb dX2_refer_51 (by decide) ?_
      exact ih _ (j + 1) ⟨by omega, by rw [show nI ((j + 1) + 1) = nI (j + 1 + 1) from rfl]; rw [show mTop lo sp (j + 1) = mTop lo sp j from by simp only [mTop]; simp [c_16]]; exact lv_sub hl [0, 1, 2, 3] rfl⟩ (by omega)
    · skip
      refine lv_aload_n hx hb dX2_refer_24 rfl (lv_at hl 2 rfl) ?_
      refine va_get (D := D) (ci := 2) (v := .ref (a 1)) (C := RX2) (T := TX2) (N := 14) hx hb hts (by decide +kernel) hown hK hP 0 rfl rfl 2 (by decide) (hts _ hm5) (fun _ h9 => h9) rfl dX2_refer_25 ?_
      refine lv_iload hx hb dX2_refer_28 (lv_at hl 0 rfl) ?_
      refine va_lald (D := D) (f := sp) hx hb hK hP 1 0 rfl rfl (ix_9 hn hlt) dX2_refer_30 ?_
      refine W.eq (g2 := F0 m 31 ls [.long (sp (j + 1))]) (by rw [wIx hn hlt]) ?_
      refine lv_lload_n hx hb dX2_refer_31 rfl (lv_at hl 1 rfl) ?_
      refine W.lcmp hx hb dX2_refer_32 ?_
      refine lv_if_le (tgt := 46) hx hb dX2_refer_33 (by decide) (fun c_17 => ?_) (fun c_17 => ?_)
      · skip
        replace c_17 := (lg_cmp_le _ _).mp c_17
        refine lv_lload_n hx hb dX2_refer_46 rfl (lv_at hl 1 rfl) ?_
        refine lv_lstore_n (lv' := [(3, .long (mTop lo sp j)), (5, .int (nI (j + 1))), (0, .ref m0), (1, .long ped)]) hx hb dX2_refer_47 rfl hl (by decide) rfl (fun ls hl => ?_)
        refine lv_iinc (v := nI (j + 1 + 1)) (lv' := [(5, .int (nI (j + 1 + 1))), (3, .long (mTop lo sp j)), (0, .ref m0), (1, .long ped)]) hx hb dX2_refer_48 hl (k := 1) rfl (nI_1 (j + 1)) (by decide) rfl (fun ls hl => ?_)
        refine lv_goto (tgt := 5) hx hb dX2_refer_51 (by decide) ?_
        exact ih _ (j + 1) ⟨by omega, by rw [show nI ((j + 1) + 1) = nI (j + 1 + 1) from rfl]; rw [show mTop lo sp (j + 1) = mTop lo sp j from by simp only [mTop]; simp [c_16, c_17]]; exact lv_sub hl [0, 1, 2, 3] rfl⟩ (by omega)
      · skip
        replace c_17 := mt (lg_cmp_le _ _).mpr c_17
        refine lv_aload_n hx hb dX2_refer_36 rfl (lv_at hl 2 rfl) ?_
        refine va_get (D := D) (ci := 2) (v := .ref (a 1)) (C := RX2) (T := TX2) (N := 14) hx hb hts (by decide +kernel) hown hK hP 0 rfl rfl 2 (by decide) (hts _ hm5) (fun _ h9 => h9) rfl dX2_refer_37 ?_
        refine lv_iload hx hb dX2_refer_40 (lv_at hl 0 rfl) ?_
        refine va_lald (D := D) (f := sp) hx hb hK hP 1 0 rfl rfl (ix_9 hn hlt) dX2_refer_42 ?_
        refine W.eq (g2 := F0 m 43 ls [.long (sp (j + 1))]) (by rw [wIx hn hlt]) ?_
        refine lv_goto (tgt := 47) hx hb dX2_refer_43 (by decide) ?_
        refine lv_lstore_n (lv' := [(3, .long (sp (j + 1))), (5, .int (nI (j + 1))), (0, .ref m0), (1, .long ped)]) hx hb dX2_refer_47 rfl hl (by decide) rfl (fun ls hl => ?_)
        refine lv_iinc (v := nI (j + 1 + 1)) (lv' := [(5, .int (nI (j + 1 + 1))), (3, .long (sp (j + 1))), (0, .ref m0), (1, .long ped)]) hx hb dX2_refer_48 hl (k := 1) rfl (nI_1 (j + 1)) (by decide) rfl (fun ls hl => ?_)
        refine lv_goto (tgt := 5) hx hb dX2_refer_51 (by decide) ?_
        exact ih _ (j + 1) ⟨by omega, by rw [show nI ((j + 1) + 1) = nI (j + 1 + 1) from rfl]; rw [show mTop lo sp (j + 1) = sp (j + 1) from by simp only [mTop]; simp [c_16, c_17]]; exact lv_sub hl [0, 1, 2, 3] rfl⟩ (by omega)
set_option maxHeartbeats 4000000 in
set_option maxRecDepth 100000 in
/-- turn -/
theorem m2_turn (l : Launch) (D : va_G) (m0 : Nat) (a : Nat → Nat) (C : Nat → ClassId) (n : Nat) (th : Int32) (sp : Nat → Int64) (lo ph : Nat → Int32) (pr bo : Nat → Int64) (mo : Nat → UInt64) (rf : Int64) (gr hd st ch rs : Int32) (hn : n ≤ 8) (gx gy : Int32) (sz : Nat) : Met l yX2_turn wsX2_turn ({ frames := 0, cells := 0, slots := 0, locals := 0 }) (va_Pc [.ref m0, .int gx, .int gy] (xW D [(C 1, .long), (C 2, .boolean), (C 3, .int), (C 4, .long), (C 5, .long), (C 6, .double)] (mw m0 a C th (nI n) sp lo ph pr bo mo rf gr hd st ch rs) sz)) (va_Qv (fun (u : (Int32) × (Int32) × (Int32)) => u.1 = gx ∧ u.2.1 = st ∧ u.2.2 = gy) (fun (u : (Int32) × (Int32) × (Int32)) => xB D [(C 1, .long), (C 2, .boolean), (C 3, .int), (C 4, .long), (C 5, .long), (C 6, .double)] (va_A (mw m0 a C th (nI n) sp lo ph pr bo mo rf gr hd st ch rs) sz) (mw m0 a C th (nI n) sp lo ph pr bo mo rf u.1 hd st u.2.1 u.2.2)) (va_A (mw m0 a C th (nI n) sp lo ph pr bo mo rf gr hd st ch rs) sz)) 0 0 (va_A (mw m0 a C th (nI n) sp lo ph pr bo mo rf gr hd st ch rs) sz) := by
  refine Met.ofW (cc := cX2_turn) (maxL := 3) (ret := none) (by decide) rfl ?_
  intro p e s m args below meth c s₁ B hml hv
  obtain ⟨rfl, hsz, ⟨hP, hK, hN⟩, hDt⟩ := hv
  have hx := B.exec
  have hb := B.bytes
  have hr := B.returns
  have hts := atoms_spec (ws := wsX2_turn) B.pre
  have hown : s.vm.findClass RX2 = some m.cls := findClass_of_methodNamed B.named
  have hlocks := B.notSynchronized
  have hm1 : (.fieldLink RX2 31 "GearBrakeModel" "gear" "I" : Cond) ∈ wsX2_turn := by decide +kernel
  have hm2 : (.fieldLink RX2 75 "GearBrakeModel" "steps" "I" : Cond) ∈ wsX2_turn := by decide +kernel
  have hm3 : (.fieldLink RX2 96 "GearBrakeModel" "changed" "I" : Cond) ∈ wsX2_turn := by decide +kernel
  have hm4 : (.fieldLink RX2 99 "GearBrakeModel" "rest" "I" : Cond) ∈ wsX2_turn := by decide +kernel
  subst hsz
  have hD := hDt.self (sz := s.heap.size)
  generalize hAe : va_A (mw m0 a C th (nI n) sp lo ph pr bo mo rf gr hd st ch rs) s.heap.size = A at hD ⊢
  have hA : ∀ q : Nat, s.heap.size ≤ q → A q := fun q h => by rw [← hAe]; exact Or.inr h
  have hS : va_S A s.heap s.heap [] := va_S.rf
  have hl := lv_entry ([.ref m0, .int gx, .int gy]) (n := 3) (Nat.le_of_ble_eq_true rfl)
  rw [lg_entry_eq]
  generalize (lg_sl ([.ref m0, .int gx, .int gy]) ++ List.replicate (3 - (lg_sl ([.ref m0, .int gx, .int gy])).length) Slot.unset).toArray = ls at hl ⊢
  replace hl : lv_has ls 3 [(0, .ref m0), (1, .int gx), (2, .int gy)] := hl
  refine lv_aload_n hx hb dX2_turn_0 rfl (lv_at hl 0 rfl) ?_
  refine lv_iload_n hx hb dX2_turn_1 rfl (lv_at hl 1 rfl) ?_
  refine va_put (D := D) (ci := 2) (v := .int gx) (ty := .int) (C := RX2) (T := TX2) (N := 14) hx hb hts (by decide +kernel) tyX2 tyX2_ok nmX2 hown hK hP hD hS 0 rfl rfl 9 (by decide) (hts _ hm1) (fun _ h9 => h9) rfl (by decide +kernel) rfl rfl (Nat.le_of_ble_eq_true rfl) dX2_turn_2 (fun H locs hP hD hS => ?_)
  replace hP : va_P D vwCl (mw m0 a C th (nI n) sp lo ph pr bo mo rf gx hd st ch rs) H := hP
  replace hD : va_D A (mw m0 a C th (nI n) sp lo ph pr bo mo rf gx hd st ch rs) := hD
  refine lv_aload_n hx hb dX2_turn_5 rfl (lv_at hl 0 rfl) ?_
  refine lv_aload_n hx hb dX2_turn_6 rfl (lv_at hl 0 rfl) ?_
  refine va_get (D := D) (ci := 2) (v := .int st) (C := RX2) (T := TX2) (N := 14) hx hb hts (by decide +kernel) hown hK hP 0 rfl rfl 11 (by decide) (hts _ hm2) (fun _ h9 => h9) rfl dX2_turn_7 ?_
  refine va_put (D := D) (ci := 2) (v := .int st) (ty := .int) (C := RX2) (T := TX2) (N := 14) hx hb hts (by decide +kernel) tyX2 tyX2_ok nmX2 hown hK hP hD hS 0 rfl rfl 12 (by decide) (hts _ hm3) (fun _ h9 => h9) rfl (by decide +kernel) rfl rfl (Nat.le_of_ble_eq_true rfl) dX2_turn_10 (fun H locs hP hD hS => ?_)
  replace hP : va_P D vwCl (mw m0 a C th (nI n) sp lo ph pr bo mo rf gx hd st st rs) H := hP
  replace hD : va_D A (mw m0 a C th (nI n) sp lo ph pr bo mo rf gx hd st st rs) := hD
  refine lv_aload_n hx hb dX2_turn_13 rfl (lv_at hl 0 rfl) ?_
  refine lv_iload_n hx hb dX2_turn_14 rfl (lv_at hl 2 rfl) ?_
  refine va_put (D := D) (ci := 2) (v := .int gy) (ty := .int) (C := RX2) (T := TX2) (N := 14) hx hb hts (by decide +kernel) tyX2 tyX2_ok nmX2 hown hK hP hD hS 0 rfl rfl 13 (by decide) (hts _ hm4) (fun _ h9 => h9) rfl (by decide +kernel) rfl rfl (Nat.le_of_ble_eq_true rfl) dX2_turn_15 (fun H locs hP hD hS => ?_)
  replace hP : va_P D vwCl (mw m0 a C th (nI n) sp lo ph pr bo mo rf gx hd st st gy) H := hP
  replace hD : va_D A (mw m0 a C th (nI n) sp lo ph pr bo mo rf gx hd st st gy) := hD
  exact W.vret hx hb hr (fun t ht hW => ⟨⟨(gx, st, gy), rfl, ⟨rfl, rfl, rfl⟩, xB_end hP hK hN hD ht hW⟩, hS.F ht⟩) hS.2.2 dX2_turn_18
set_option maxHeartbeats 4000000 in
set_option maxRecDepth 100000 in
/-- wheel -/
theorem m2_wheel (l : Launch) (D : va_G) (m0 : Nat) (a : Nat → Nat) (C : Nat → ClassId) (n : Nat) (th : Int32) (sp : Nat → Int64) (lo ph : Nat → Int32) (pr bo : Nat → Int64) (mo : Nat → UInt64) (rf : Int64) (gr hd st ch rs : Int32) (hn : n ≤ 8) (w : Int32) (v : Int64) (sz : Nat) : Met l yX2_wheel wsX2_wheel ({ frames := 1, cells := 0, slots := 0, locals := 22 }) (va_Pc [.ref m0, .int w, .long v] (xW D [(C 1, .long), (C 2, .boolean), (C 3, .int), (C 4, .long), (C 5, .long), (C 6, .double)] (mw m0 a C th (nI n) sp lo ph pr bo mo rf gr hd st ch rs) sz)) (va_Qi (fun (r : Int32) (u : (Int32) × (Nat → Int64)) => r = fW n w v 1000 ∧ u.1 = 0 ∧ u.2 = gW n w v 1000 sp v) (fun (u : (Int32) × (Nat → Int64)) => xB D [(C 1, .long), (C 2, .boolean), (C 3, .int), (C 4, .long), (C 5, .long), (C 6, .double)] (va_A (mw m0 a C th (nI n) sp lo ph pr bo mo rf gr hd st ch rs) sz) (mw m0 a C u.1 (nI n) u.2 lo ph pr bo mo rf gr hd st ch rs)) (va_A (mw m0 a C th (nI n) sp lo ph pr bo mo rf gr hd st ch rs) sz)) 0 0 (va_A (mw m0 a C th (nI n) sp lo ph pr bo mo rf gr hd st ch rs) sz) := by
  rcases w_io n w hn with hwo | ⟨i, hi, rfl⟩
  · skip
    refine Met.ofW (cc := cX2_wheel) (maxL := 4) (ret := (some .int)) (by decide) rfl ?_
    intro p e s m args below meth c s₁ B hml hv
    obtain ⟨rfl, hsz, ⟨hP, hK, hN⟩, hDt⟩ := hv
    have hx := B.exec
    have hb := B.bytes
    have hr := B.returns
    have hts := atoms_spec (ws := wsX2_wheel) B.pre
    have hown : s.vm.findClass RX2 = some m.cls := findClass_of_methodNamed B.named
    have hlocks := B.notSynchronized
    have hm1 : (.fieldLink RX2 40 "GearBrakeModel" "thrown" "I" : Cond) ∈ wsX2_wheel := by decide +kernel
    subst hsz
    have hD := hDt.self (sz := s.heap.size)
    generalize hAe : va_A (mw m0 a C th (nI n) sp lo ph pr bo mo rf gr hd st ch rs) s.heap.size = A at hD ⊢
    have hA : ∀ q : Nat, s.heap.size ≤ q → A q := fun q h => by rw [← hAe]; exact Or.inr h
    have hS : va_S A s.heap s.heap [] := va_S.rf
    have hl := lv_entry ([.ref m0, .int w, .long v]) (n := 4) (Nat.le_of_ble_eq_true rfl)
    rw [lg_entry_eq]
    generalize (lg_sl ([.ref m0, .int w, .long v]) ++ List.replicate (4 - (lg_sl ([.ref m0, .int w, .long v])).length) Slot.unset).toArray = ls at hl ⊢
    replace hl : lv_has ls 4 [(0, .ref m0), (1, .int w), (2, .long v)] := hl
    refine lv_aload_n hx hb dX2_wheel_0 rfl (lv_at hl 0 rfl) ?_
    refine lv_iconst (v := 0) hx hb dX2_wheel_1 (by decide) ?_
    refine va_put (D := D) (ci := 2) (v := .int 0) (ty := .int) (C := RX2) (T := TX2) (N := 14) hx hb hts (by decide +kernel) tyX2 tyX2_ok nmX2 hown hK hP hD hS 0 rfl rfl 0 (by decide) (hts _ hm1) (fun _ h9 => h9) rfl (by decide +kernel) rfl rfl (Nat.le_of_ble_eq_true rfl) dX2_wheel_2 (fun H locs hP hD hS => ?_)
    replace hP : va_P D vwCl (mw m0 a C 0 (nI n) sp lo ph pr bo mo rf gr hd st ch rs) H := hP
    replace hD : va_D A (mw m0 a C 0 (nI n) sp lo ph pr bo mo rf gr hd st ch rs) := hD
    refine lv_aload_n hx hb dX2_wheel_5 rfl (lv_at hl 0 rfl) ?_
    refine lv_iload_n hx hb dX2_wheel_6 rfl (lv_at hl 1 rfl) ?_
    refine vp_callSi (W.runV (As := [.int w]) (rest := []) ⟨hx, hb, hml, hown, hts⟩ (m2_no_out l D m0 a C n 0 sp lo ph pr bo mo rf gr hd st ch rs hn w hwo) (cwV 1 hts gX2_wheel_X2_noWheel rfl rfl rfl (by decide +kernel) ⟨Nat.le_of_ble_eq_true rfl, Nat.le_of_ble_eq_true rfl⟩) ⟨xP_blind, va_recv hK hP (ci := 2) (q0 := 0) rfl rfl, xP_at hP hK hN⟩ rfl rfl hl.1 rfl (lv_room (Nat.le_of_ble_eq_true rfl)) dX2_wheel_7 ⟨Nat.le_of_ble_eq_true rfl, Nat.le_of_ble_eq_true rfl⟩) (fun r_1 hr_2 => ?_)
    subst hr_2
    refine lv_if_eq (tgt := 15) hx hb dX2_wheel_10 (by decide) (fun c_3 => absurd c_3 (by decide)) (fun c_3 => ?_)
    refine lv_iconst (v := (-1)) hx hb dX2_wheel_13 (by decide) ?_
    exact W.iret (v := (-1)) hx hb hr (fun t ht hW => ⟨⟨_, (0, sp), rfl, ⟨by simp [fW, gW, hwo], by simp [fW, gW, hwo], by simp [fW, gW, hwo]⟩, xB_end hP hK hN hD ht hW⟩, hS.F ht⟩) hS.2.2 dX2_wheel_14
  · skip
    refine Met.ofW (cc := cX2_wheel) (maxL := 4) (ret := (some .int)) (by decide) rfl ?_
    intro p e s m args below meth c s₁ B hml hv
    obtain ⟨rfl, hsz, ⟨hP, hK, hN⟩, hDt⟩ := hv
    have hx := B.exec
    have hb := B.bytes
    have hr := B.returns
    have hts := atoms_spec (ws := wsX2_wheel) B.pre
    have hown : s.vm.findClass RX2 = some m.cls := findClass_of_methodNamed B.named
    have hlocks := B.notSynchronized
    have hm1 : (.fieldLink RX2 40 "GearBrakeModel" "thrown" "I" : Cond) ∈ wsX2_wheel := by decide +kernel
    have hm2 : (.constantLong RX2 47 (1000) : Cond) ∈ wsX2_wheel := by decide +kernel
    have hm3 : (.fieldLink RX2 7 "GearBrakeModel" "speeds" "[J" : Cond) ∈ wsX2_wheel := by decide +kernel
    subst hsz
    have hD := hDt.self (sz := s.heap.size)
    generalize hAe : va_A (mw m0 a C th (nI n) sp lo ph pr bo mo rf gr hd st ch rs) s.heap.size = A at hD ⊢
    have hA : ∀ q : Nat, s.heap.size ≤ q → A q := fun q h => by rw [← hAe]; exact Or.inr h
    have hS : va_S A s.heap s.heap [] := va_S.rf
    have hl := lv_entry ([.ref m0, .int (nI (i + 1)), .long v]) (n := 4) (Nat.le_of_ble_eq_true rfl)
    rw [lg_entry_eq]
    generalize (lg_sl ([.ref m0, .int (nI (i + 1)), .long v]) ++ List.replicate (4 - (lg_sl ([.ref m0, .int (nI (i + 1)), .long v])).length) Slot.unset).toArray = ls at hl ⊢
    replace hl : lv_has ls 4 [(0, .ref m0), (1, .int (nI (i + 1))), (2, .long v)] := hl
    refine lv_aload_n hx hb dX2_wheel_0 rfl (lv_at hl 0 rfl) ?_
    refine lv_iconst (v := 0) hx hb dX2_wheel_1 (by decide) ?_
    refine va_put (D := D) (ci := 2) (v := .int 0) (ty := .int) (C := RX2) (T := TX2) (N := 14) hx hb hts (by decide +kernel) tyX2 tyX2_ok nmX2 hown hK hP hD hS 0 rfl rfl 0 (by decide) (hts _ hm1) (fun _ h9 => h9) rfl (by decide +kernel) rfl rfl (Nat.le_of_ble_eq_true rfl) dX2_wheel_2 (fun H locs hP hD hS => ?_)
    replace hP : va_P D vwCl (mw m0 a C 0 (nI n) sp lo ph pr bo mo rf gr hd st ch rs) H := hP
    replace hD : va_D A (mw m0 a C 0 (nI n) sp lo ph pr bo mo rf gr hd st ch rs) := hD
    refine lv_aload_n hx hb dX2_wheel_5 rfl (lv_at hl 0 rfl) ?_
    refine lv_iload_n hx hb dX2_wheel_6 rfl (lv_at hl 1 rfl) ?_
    refine vp_callSi (W.runV (As := [.int (nI (i + 1))]) (rest := []) ⟨hx, hb, hml, hown, hts⟩ (m2_no_in l D m0 a C n 0 sp lo ph pr bo mo rf gr hd st ch rs hn i hi) (cwV 1 hts gX2_wheel_X2_noWheel rfl rfl rfl (by decide +kernel) ⟨Nat.le_of_ble_eq_true rfl, Nat.le_of_ble_eq_true rfl⟩) ⟨xP_blind, va_recv hK hP (ci := 2) (q0 := 0) rfl rfl, xP_at hP hK hN⟩ rfl rfl hl.1 rfl (lv_room (Nat.le_of_ble_eq_true rfl)) dX2_wheel_7 ⟨Nat.le_of_ble_eq_true rfl, Nat.le_of_ble_eq_true rfl⟩) (fun r_1 hr_2 => ?_)
    subst hr_2
    refine lv_if_eq (tgt := 15) hx hb dX2_wheel_10 (by decide) (fun c_3 => ?_) (fun c_3 => absurd (by decide) c_3)
    refine lv_lload_n hx hb dX2_wheel_15 rfl (lv_at hl 2 rfl) ?_
    refine lv_lconst (v := 0) hx hb dX2_wheel_16 (by decide) ?_
    refine W.lcmp hx hb dX2_wheel_17 ?_
    refine lv_if_lt (tgt := 29) hx hb dX2_wheel_18 (by decide) (fun c_4 => ?_) (fun c_4 => ?_)
    · skip
      replace c_4 := (lg_cmp_lt _ _).mp c_4
      refine lv_bipush (v := (-2)) hx hb dX2_wheel_29 (by decide) ?_
      exact W.iret (v := (-2)) hx hb hr (fun t ht hW => ⟨⟨_, (0, sp), rfl, ⟨by simp [fW, gW, wOut_in hn hi, wIx hn hi, c_4], by simp [fW, gW, wOut_in hn hi, wIx hn hi, c_4], by simp [fW, gW, wOut_in hn hi, wIx hn hi, c_4]⟩, xB_end hP hK hN hD ht hW⟩, hS.F ht⟩) hS.2.2 dX2_wheel_31
    · skip
      replace c_4 := mt (lg_cmp_lt _ _).mpr c_4
      refine lv_lload_n hx hb dX2_wheel_21 rfl (lv_at hl 2 rfl) ?_
      refine lv_ldc2 hx hb hown (hts _ hm2) dX2_wheel_22 ?_
      refine W.lcmp hx hb dX2_wheel_25 ?_
      refine lv_if_le (tgt := 32) hx hb dX2_wheel_26 (by decide) (fun c_5 => ?_) (fun c_5 => ?_)
      · skip
        replace c_5 := (lg_cmp_le _ _).mp c_5
        replace c_5 := i64_nlt c_5
        refine lv_aload_n hx hb dX2_wheel_32 rfl (lv_at hl 0 rfl) ?_
        refine va_get (D := D) (ci := 2) (v := .ref (a 1)) (C := RX2) (T := TX2) (N := 14) hx hb hts (by decide +kernel) hown hK hP 0 rfl rfl 2 (by decide) (hts _ hm3) (fun _ h9 => h9) rfl dX2_wheel_33 ?_
        refine lv_iload_n hx hb dX2_wheel_36 rfl (lv_at hl 1 rfl) ?_
        refine lv_lload_n hx hb dX2_wheel_37 rfl (lv_at hl 2 rfl) ?_
        refine va_last (D := D) (f := sp) hx hb hK hP hD hS 1 0 rfl rfl (ix_9 hn hi) dX2_wheel_38 (fun H locs hP hD hS => ?_)
        rw [wIx hn hi] at hP hD
        replace hP : va_P D vwCl (mw m0 a C 0 (nI n) (va_up sp (i + 1) v) lo ph pr bo mo rf gr hd st ch rs) H := hP
        replace hD : va_D A (mw m0 a C 0 (nI n) (va_up sp (i + 1) v) lo ph pr bo mo rf gr hd st ch rs) := hD
        refine lv_iconst (v := 1) hx hb dX2_wheel_39 (by decide) ?_
        exact W.iret (v := 1) hx hb hr (fun t ht hW => ⟨⟨_, (0, va_up sp (i + 1) v), rfl, ⟨by simp [fW, gW, wOut_in hn hi, wIx hn hi, c_4, c_5], by simp [fW, gW, wOut_in hn hi, wIx hn hi, c_4, c_5], by simp [fW, gW, wOut_in hn hi, wIx hn hi, c_4, c_5]⟩, xB_end hP hK hN hD ht hW⟩, hS.F ht⟩) hS.2.2 dX2_wheel_40
      · skip
        replace c_5 := mt (lg_cmp_le _ _).mpr c_5
        replace c_5 := i64_lt c_5
        refine lv_bipush (v := (-2)) hx hb dX2_wheel_29 (by decide) ?_
        exact W.iret (v := (-2)) hx hb hr (fun t ht hW => ⟨⟨_, (0, sp), rfl, ⟨by simp [fW, gW, wOut_in hn hi, wIx hn hi, c_4, c_5], by simp [fW, gW, wOut_in hn hi, wIx hn hi, c_4, c_5], by simp [fW, gW, wOut_in hn hi, wIx hn hi, c_4, c_5]⟩, xB_end hP hK hN hD ht hW⟩, hS.F ht⟩) hS.2.2 dX2_wheel_31
set_option maxHeartbeats 4000000 in
set_option maxRecDepth 100000 in
/-- phase -/
theorem m2_phase (l : Launch) (D : va_G) (m0 : Nat) (a : Nat → Nat) (C : Nat → ClassId) (n : Nat) (th : Int32) (sp : Nat → Int64) (lo ph : Nat → Int32) (pr bo : Nat → Int64) (mo : Nat → UInt64) (rf : Int64) (gr hd st ch rs : Int32) (hn : n ≤ 8) (w : Int32) (sz : Nat) : Met l yX2_phase wsX2_phase ({ frames := 1, cells := 0, slots := 0, locals := 22 }) (va_Pc [.ref m0, .int w] (xW D [(C 1, .long), (C 2, .boolean), (C 3, .int), (C 4, .long), (C 5, .long), (C 6, .double)] (mw m0 a C th (nI n) sp lo ph pr bo mo rf gr hd st ch rs) sz)) (va_Qi (fun (r : Int32) (u : (Int32)) => r = (if wOut n w then -1 else ph w.toNatClampNeg) ∧ u = 0) (fun (u : (Int32)) => xB D [(C 1, .long), (C 2, .boolean), (C 3, .int), (C 4, .long), (C 5, .long), (C 6, .double)] (va_A (mw m0 a C th (nI n) sp lo ph pr bo mo rf gr hd st ch rs) sz) (mw m0 a C u (nI n) sp lo ph pr bo mo rf gr hd st ch rs)) (va_A (mw m0 a C th (nI n) sp lo ph pr bo mo rf gr hd st ch rs) sz)) 0 0 (va_A (mw m0 a C th (nI n) sp lo ph pr bo mo rf gr hd st ch rs) sz) := by
  rcases w_io n w hn with hwo | ⟨i, hi, rfl⟩
  · skip
    refine Met.ofW (cc := cX2_phase) (maxL := 2) (ret := (some .int)) (by decide) rfl ?_
    intro p e s m args below meth c s₁ B hml hv
    obtain ⟨rfl, hsz, ⟨hP, hK, hN⟩, hDt⟩ := hv
    have hx := B.exec
    have hb := B.bytes
    have hr := B.returns
    have hts := atoms_spec (ws := wsX2_phase) B.pre
    have hown : s.vm.findClass RX2 = some m.cls := findClass_of_methodNamed B.named
    have hlocks := B.notSynchronized
    have hm1 : (.fieldLink RX2 40 "GearBrakeModel" "thrown" "I" : Cond) ∈ wsX2_phase := by decide +kernel
    subst hsz
    have hD := hDt.self (sz := s.heap.size)
    generalize hAe : va_A (mw m0 a C th (nI n) sp lo ph pr bo mo rf gr hd st ch rs) s.heap.size = A at hD ⊢
    have hA : ∀ q : Nat, s.heap.size ≤ q → A q := fun q h => by rw [← hAe]; exact Or.inr h
    have hS : va_S A s.heap s.heap [] := va_S.rf
    have hl := lv_entry ([.ref m0, .int w]) (n := 2) (Nat.le_of_ble_eq_true rfl)
    rw [lg_entry_eq]
    generalize (lg_sl ([.ref m0, .int w]) ++ List.replicate (2 - (lg_sl ([.ref m0, .int w])).length) Slot.unset).toArray = ls at hl ⊢
    replace hl : lv_has ls 2 [(0, .ref m0), (1, .int w)] := hl
    refine lv_aload_n hx hb dX2_phase_0 rfl (lv_at hl 0 rfl) ?_
    refine lv_iconst (v := 0) hx hb dX2_phase_1 (by decide) ?_
    refine va_put (D := D) (ci := 2) (v := .int 0) (ty := .int) (C := RX2) (T := TX2) (N := 14) hx hb hts (by decide +kernel) tyX2 tyX2_ok nmX2 hown hK hP hD hS 0 rfl rfl 0 (by decide) (hts _ hm1) (fun _ h9 => h9) rfl (by decide +kernel) rfl rfl (Nat.le_of_ble_eq_true rfl) dX2_phase_2 (fun H locs hP hD hS => ?_)
    replace hP : va_P D vwCl (mw m0 a C 0 (nI n) sp lo ph pr bo mo rf gr hd st ch rs) H := hP
    replace hD : va_D A (mw m0 a C 0 (nI n) sp lo ph pr bo mo rf gr hd st ch rs) := hD
    refine lv_aload_n hx hb dX2_phase_5 rfl (lv_at hl 0 rfl) ?_
    refine lv_iload_n hx hb dX2_phase_6 rfl (lv_at hl 1 rfl) ?_
    refine vp_callSi (W.runV (As := [.int w]) (rest := []) ⟨hx, hb, hml, hown, hts⟩ (m2_no_out l D m0 a C n 0 sp lo ph pr bo mo rf gr hd st ch rs hn w hwo) (cwV 1 hts gX2_phase_X2_noWheel rfl rfl rfl (by decide +kernel) ⟨Nat.le_of_ble_eq_true rfl, Nat.le_of_ble_eq_true rfl⟩) ⟨xP_blind, va_recv hK hP (ci := 2) (q0 := 0) rfl rfl, xP_at hP hK hN⟩ rfl rfl hl.1 rfl (lv_room (Nat.le_of_ble_eq_true rfl)) dX2_phase_7 ⟨Nat.le_of_ble_eq_true rfl, Nat.le_of_ble_eq_true rfl⟩) (fun r_1 hr_2 => ?_)
    subst hr_2
    refine lv_if_eq (tgt := 17) hx hb dX2_phase_10 (by decide) (fun c_3 => absurd c_3 (by decide)) (fun c_3 => ?_)
    refine lv_iconst (v := (-1)) hx hb dX2_phase_13 (by decide) ?_
    refine lv_goto (tgt := 23) hx hb dX2_phase_14 (by decide) ?_
    exact W.iret (v := (-1)) hx hb hr (fun t ht hW => ⟨⟨_, (0), rfl, ⟨by simp [hwo], by simp [hwo]⟩, xB_end hP hK hN hD ht hW⟩, hS.F ht⟩) hS.2.2 dX2_phase_23
  · skip
    refine Met.ofW (cc := cX2_phase) (maxL := 2) (ret := (some .int)) (by decide) rfl ?_
    intro p e s m args below meth c s₁ B hml hv
    obtain ⟨rfl, hsz, ⟨hP, hK, hN⟩, hDt⟩ := hv
    have hx := B.exec
    have hb := B.bytes
    have hr := B.returns
    have hts := atoms_spec (ws := wsX2_phase) B.pre
    have hown : s.vm.findClass RX2 = some m.cls := findClass_of_methodNamed B.named
    have hlocks := B.notSynchronized
    have hm1 : (.fieldLink RX2 40 "GearBrakeModel" "thrown" "I" : Cond) ∈ wsX2_phase := by decide +kernel
    have hm2 : (.fieldLink RX2 17 "GearBrakeModel" "phases" "[I" : Cond) ∈ wsX2_phase := by decide +kernel
    subst hsz
    have hD := hDt.self (sz := s.heap.size)
    generalize hAe : va_A (mw m0 a C th (nI n) sp lo ph pr bo mo rf gr hd st ch rs) s.heap.size = A at hD ⊢
    have hA : ∀ q : Nat, s.heap.size ≤ q → A q := fun q h => by rw [← hAe]; exact Or.inr h
    have hS : va_S A s.heap s.heap [] := va_S.rf
    have hl := lv_entry ([.ref m0, .int (nI (i + 1))]) (n := 2) (Nat.le_of_ble_eq_true rfl)
    rw [lg_entry_eq]
    generalize (lg_sl ([.ref m0, .int (nI (i + 1))]) ++ List.replicate (2 - (lg_sl ([.ref m0, .int (nI (i + 1))])).length) Slot.unset).toArray = ls at hl ⊢
    replace hl : lv_has ls 2 [(0, .ref m0), (1, .int (nI (i + 1)))] := hl
    refine lv_aload_n hx hb dX2_phase_0 rfl (lv_at hl 0 rfl) ?_
    refine lv_iconst (v := 0) hx hb dX2_phase_1 (by decide) ?_
    refine va_put (D := D) (ci := 2) (v := .int 0) (ty := .int) (C := RX2) (T := TX2) (N := 14) hx hb hts (by decide +kernel) tyX2 tyX2_ok nmX2 hown hK hP hD hS 0 rfl rfl 0 (by decide) (hts _ hm1) (fun _ h9 => h9) rfl (by decide +kernel) rfl rfl (Nat.le_of_ble_eq_true rfl) dX2_phase_2 (fun H locs hP hD hS => ?_)
    replace hP : va_P D vwCl (mw m0 a C 0 (nI n) sp lo ph pr bo mo rf gr hd st ch rs) H := hP
    replace hD : va_D A (mw m0 a C 0 (nI n) sp lo ph pr bo mo rf gr hd st ch rs) := hD
    refine lv_aload_n hx hb dX2_phase_5 rfl (lv_at hl 0 rfl) ?_
    refine lv_iload_n hx hb dX2_phase_6 rfl (lv_at hl 1 rfl) ?_
    refine vp_callSi (W.runV (As := [.int (nI (i + 1))]) (rest := []) ⟨hx, hb, hml, hown, hts⟩ (m2_no_in l D m0 a C n 0 sp lo ph pr bo mo rf gr hd st ch rs hn i hi) (cwV 1 hts gX2_phase_X2_noWheel rfl rfl rfl (by decide +kernel) ⟨Nat.le_of_ble_eq_true rfl, Nat.le_of_ble_eq_true rfl⟩) ⟨xP_blind, va_recv hK hP (ci := 2) (q0 := 0) rfl rfl, xP_at hP hK hN⟩ rfl rfl hl.1 rfl (lv_room (Nat.le_of_ble_eq_true rfl)) dX2_phase_7 ⟨Nat.le_of_ble_eq_true rfl, Nat.le_of_ble_eq_true rfl⟩) (fun r_1 hr_2 => ?_)
    subst hr_2
    refine lv_if_eq (tgt := 17) hx hb dX2_phase_10 (by decide) (fun c_3 => ?_) (fun c_3 => absurd (by decide) c_3)
    refine lv_aload_n hx hb dX2_phase_17 rfl (lv_at hl 0 rfl) ?_
    refine va_get (D := D) (ci := 2) (v := .ref (a 3)) (C := RX2) (T := TX2) (N := 14) hx hb hts (by decide +kernel) hown hK hP 0 rfl rfl 4 (by decide) (hts _ hm2) (fun _ h9 => h9) rfl dX2_phase_18 ?_
    refine lv_iload_n hx hb dX2_phase_21 rfl (lv_at hl 1 rfl) ?_
    refine va_iald (D := D) (f := ph) hx hb hK hP 3 2 rfl rfl (ix_9 hn hi) dX2_phase_22 ?_
    refine W.eq (g2 := F0 m 23 ls [.int (ph (i + 1))]) (by rw [wIx hn hi]) ?_
    exact W.iret (v := (ph (i + 1))) hx hb hr (fun t ht hW => ⟨⟨_, (0), rfl, ⟨by simp [wOut_in hn hi, wIx hn hi], by simp [wOut_in hn hi, wIx hn hi]⟩, xB_end hP hK hN hD ht hW⟩, hS.F ht⟩) hS.2.2 dX2_phase_23
set_option maxHeartbeats 4000000 in
set_option maxRecDepth 100000 in
/-- pressure -/
theorem m2_pressure (l : Launch) (D : va_G) (m0 : Nat) (a : Nat → Nat) (C : Nat → ClassId) (n : Nat) (th : Int32) (sp : Nat → Int64) (lo ph : Nat → Int32) (pr bo : Nat → Int64) (mo : Nat → UInt64) (rf : Int64) (gr hd st ch rs : Int32) (hn : n ≤ 8) (w : Int32) (sz : Nat) : Met l yX2_pressure wsX2_pressure ({ frames := 1, cells := 0, slots := 0, locals := 22 }) (va_Pc [.ref m0, .int w] (xW D [(C 1, .long), (C 2, .boolean), (C 3, .int), (C 4, .long), (C 5, .long), (C 6, .double)] (mw m0 a C th (nI n) sp lo ph pr bo mo rf gr hd st ch rs) sz)) (va_Ql (fun (r : Int64) (u : (Int32)) => r = (if wOut n w then -1 else pr w.toNatClampNeg) ∧ u = 0) (fun (u : (Int32)) => xB D [(C 1, .long), (C 2, .boolean), (C 3, .int), (C 4, .long), (C 5, .long), (C 6, .double)] (va_A (mw m0 a C th (nI n) sp lo ph pr bo mo rf gr hd st ch rs) sz) (mw m0 a C u (nI n) sp lo ph pr bo mo rf gr hd st ch rs)) (va_A (mw m0 a C th (nI n) sp lo ph pr bo mo rf gr hd st ch rs) sz)) 0 0 (va_A (mw m0 a C th (nI n) sp lo ph pr bo mo rf gr hd st ch rs) sz) := by
  rcases w_io n w hn with hwo | ⟨i, hi, rfl⟩
  · skip
    refine Met.ofW (cc := cX2_pressure) (maxL := 2) (ret := (some .long)) (by decide) rfl ?_
    intro p e s m args below meth c s₁ B hml hv
    obtain ⟨rfl, hsz, ⟨hP, hK, hN⟩, hDt⟩ := hv
    have hx := B.exec
    have hb := B.bytes
    have hr := B.returns
    have hts := atoms_spec (ws := wsX2_pressure) B.pre
    have hown : s.vm.findClass RX2 = some m.cls := findClass_of_methodNamed B.named
    have hlocks := B.notSynchronized
    have hm1 : (.fieldLink RX2 40 "GearBrakeModel" "thrown" "I" : Cond) ∈ wsX2_pressure := by decide +kernel
    have hm2 : (.constantLong RX2 106 (-1) : Cond) ∈ wsX2_pressure := by decide +kernel
    subst hsz
    have hD := hDt.self (sz := s.heap.size)
    generalize hAe : va_A (mw m0 a C th (nI n) sp lo ph pr bo mo rf gr hd st ch rs) s.heap.size = A at hD ⊢
    have hA : ∀ q : Nat, s.heap.size ≤ q → A q := fun q h => by rw [← hAe]; exact Or.inr h
    have hS : va_S A s.heap s.heap [] := va_S.rf
    have hl := lv_entry ([.ref m0, .int w]) (n := 2) (Nat.le_of_ble_eq_true rfl)
    rw [lg_entry_eq]
    generalize (lg_sl ([.ref m0, .int w]) ++ List.replicate (2 - (lg_sl ([.ref m0, .int w])).length) Slot.unset).toArray = ls at hl ⊢
    replace hl : lv_has ls 2 [(0, .ref m0), (1, .int w)] := hl
    refine lv_aload_n hx hb dX2_pressure_0 rfl (lv_at hl 0 rfl) ?_
    refine lv_iconst (v := 0) hx hb dX2_pressure_1 (by decide) ?_
    refine va_put (D := D) (ci := 2) (v := .int 0) (ty := .int) (C := RX2) (T := TX2) (N := 14) hx hb hts (by decide +kernel) tyX2 tyX2_ok nmX2 hown hK hP hD hS 0 rfl rfl 0 (by decide) (hts _ hm1) (fun _ h9 => h9) rfl (by decide +kernel) rfl rfl (Nat.le_of_ble_eq_true rfl) dX2_pressure_2 (fun H locs hP hD hS => ?_)
    replace hP : va_P D vwCl (mw m0 a C 0 (nI n) sp lo ph pr bo mo rf gr hd st ch rs) H := hP
    replace hD : va_D A (mw m0 a C 0 (nI n) sp lo ph pr bo mo rf gr hd st ch rs) := hD
    refine lv_aload_n hx hb dX2_pressure_5 rfl (lv_at hl 0 rfl) ?_
    refine lv_iload_n hx hb dX2_pressure_6 rfl (lv_at hl 1 rfl) ?_
    refine vp_callSi (W.runV (As := [.int w]) (rest := []) ⟨hx, hb, hml, hown, hts⟩ (m2_no_out l D m0 a C n 0 sp lo ph pr bo mo rf gr hd st ch rs hn w hwo) (cwV 1 hts gX2_pressure_X2_noWheel rfl rfl rfl (by decide +kernel) ⟨Nat.le_of_ble_eq_true rfl, Nat.le_of_ble_eq_true rfl⟩) ⟨xP_blind, va_recv hK hP (ci := 2) (q0 := 0) rfl rfl, xP_at hP hK hN⟩ rfl rfl hl.1 rfl (lv_room (Nat.le_of_ble_eq_true rfl)) dX2_pressure_7 ⟨Nat.le_of_ble_eq_true rfl, Nat.le_of_ble_eq_true rfl⟩) (fun r_1 hr_2 => ?_)
    subst hr_2
    refine lv_if_eq (tgt := 19) hx hb dX2_pressure_10 (by decide) (fun c_3 => absurd c_3 (by decide)) (fun c_3 => ?_)
    refine lv_ldc2 hx hb hown (hts _ hm2) dX2_pressure_13 ?_
    refine lv_goto (tgt := 25) hx hb dX2_pressure_16 (by decide) ?_
    exact W.lret (v := (-1)) hx hb hr (fun t ht hW => ⟨⟨_, (0), rfl, ⟨by simp [hwo], by simp [hwo]⟩, xB_end hP hK hN hD ht hW⟩, hS.F ht⟩) hS.2.2 dX2_pressure_25
  · skip
    refine Met.ofW (cc := cX2_pressure) (maxL := 2) (ret := (some .long)) (by decide) rfl ?_
    intro p e s m args below meth c s₁ B hml hv
    obtain ⟨rfl, hsz, ⟨hP, hK, hN⟩, hDt⟩ := hv
    have hx := B.exec
    have hb := B.bytes
    have hr := B.returns
    have hts := atoms_spec (ws := wsX2_pressure) B.pre
    have hown : s.vm.findClass RX2 = some m.cls := findClass_of_methodNamed B.named
    have hlocks := B.notSynchronized
    have hm1 : (.fieldLink RX2 40 "GearBrakeModel" "thrown" "I" : Cond) ∈ wsX2_pressure := by decide +kernel
    have hm2 : (.fieldLink RX2 21 "GearBrakeModel" "pressures" "[J" : Cond) ∈ wsX2_pressure := by decide +kernel
    subst hsz
    have hD := hDt.self (sz := s.heap.size)
    generalize hAe : va_A (mw m0 a C th (nI n) sp lo ph pr bo mo rf gr hd st ch rs) s.heap.size = A at hD ⊢
    have hA : ∀ q : Nat, s.heap.size ≤ q → A q := fun q h => by rw [← hAe]; exact Or.inr h
    have hS : va_S A s.heap s.heap [] := va_S.rf
    have hl := lv_entry ([.ref m0, .int (nI (i + 1))]) (n := 2) (Nat.le_of_ble_eq_true rfl)
    rw [lg_entry_eq]
    generalize (lg_sl ([.ref m0, .int (nI (i + 1))]) ++ List.replicate (2 - (lg_sl ([.ref m0, .int (nI (i + 1))])).length) Slot.unset).toArray = ls at hl ⊢
    replace hl : lv_has ls 2 [(0, .ref m0), (1, .int (nI (i + 1)))] := hl
    refine lv_aload_n hx hb dX2_pressure_0 rfl (lv_at hl 0 rfl) ?_
    refine lv_iconst (v := 0) hx hb dX2_pressure_1 (by decide) ?_
    refine va_put (D := D) (ci := 2) (v := .int 0) (ty := .int) (C := RX2) (T := TX2) (N := 14) hx hb hts (by decide +kernel) tyX2 tyX2_ok nmX2 hown hK hP hD hS 0 rfl rfl 0 (by decide) (hts _ hm1) (fun _ h9 => h9) rfl (by decide +kernel) rfl rfl (Nat.le_of_ble_eq_true rfl) dX2_pressure_2 (fun H locs hP hD hS => ?_)
    replace hP : va_P D vwCl (mw m0 a C 0 (nI n) sp lo ph pr bo mo rf gr hd st ch rs) H := hP
    replace hD : va_D A (mw m0 a C 0 (nI n) sp lo ph pr bo mo rf gr hd st ch rs) := hD
    refine lv_aload_n hx hb dX2_pressure_5 rfl (lv_at hl 0 rfl) ?_
    refine lv_iload_n hx hb dX2_pressure_6 rfl (lv_at hl 1 rfl) ?_
    refine vp_callSi (W.runV (As := [.int (nI (i + 1))]) (rest := []) ⟨hx, hb, hml, hown, hts⟩ (m2_no_in l D m0 a C n 0 sp lo ph pr bo mo rf gr hd st ch rs hn i hi) (cwV 1 hts gX2_pressure_X2_noWheel rfl rfl rfl (by decide +kernel) ⟨Nat.le_of_ble_eq_true rfl, Nat.le_of_ble_eq_true rfl⟩) ⟨xP_blind, va_recv hK hP (ci := 2) (q0 := 0) rfl rfl, xP_at hP hK hN⟩ rfl rfl hl.1 rfl (lv_room (Nat.le_of_ble_eq_true rfl)) dX2_pressure_7 ⟨Nat.le_of_ble_eq_true rfl, Nat.le_of_ble_eq_true rfl⟩) (fun r_1 hr_2 => ?_)
    subst hr_2
    refine lv_if_eq (tgt := 19) hx hb dX2_pressure_10 (by decide) (fun c_3 => ?_) (fun c_3 => absurd (by decide) c_3)
    refine lv_aload_n hx hb dX2_pressure_19 rfl (lv_at hl 0 rfl) ?_
    refine va_get (D := D) (ci := 2) (v := .ref (a 4)) (C := RX2) (T := TX2) (N := 14) hx hb hts (by decide +kernel) hown hK hP 0 rfl rfl 5 (by decide) (hts _ hm2) (fun _ h9 => h9) rfl dX2_pressure_20 ?_
    refine lv_iload_n hx hb dX2_pressure_23 rfl (lv_at hl 1 rfl) ?_
    refine va_lald (D := D) (f := pr) hx hb hK hP 4 3 rfl rfl (ix_9 hn hi) dX2_pressure_24 ?_
    refine W.eq (g2 := F0 m 25 ls [.long (pr (i + 1))]) (by rw [wIx hn hi]) ?_
    exact W.lret (v := (pr (i + 1))) hx hb hr (fun t ht hW => ⟨⟨_, (0), rfl, ⟨by simp [wOut_in hn hi, wIx hn hi], by simp [wOut_in hn hi, wIx hn hi]⟩, xB_end hP hK hN hD ht hW⟩, hS.F ht⟩) hS.2.2 dX2_pressure_25
set_option maxHeartbeats 4000000 in
set_option maxRecDepth 100000 in
/-- plant -/
theorem m2_plant (l : Launch) (D : va_G) (m0 : Nat) (a : Nat → Nat) (C : Nat → ClassId) (n : Nat) (th : Int32) (sp : Nat → Int64) (lo ph : Nat → Int32) (pr bo : Nat → Int64) (mo : Nat → UInt64) (rf : Int64) (gr hd st ch rs : Int32) (hn : n ≤ 8) (w : Int32) (sz : Nat) : Met l yX2_plant wsX2_plant ({ frames := 1, cells := 0, slots := 0, locals := 22 }) (va_Pc [.ref m0, .int w] (xW D [(C 1, .long), (C 2, .boolean), (C 3, .int), (C 4, .long), (C 5, .long), (C 6, .double)] (mw m0 a C th (nI n) sp lo ph pr bo mo rf gr hd st ch rs) sz)) (va_Qd (fun (r : UInt64) (u : (Int32)) => r = (if wOut n w then FP.dconst0 else mo w.toNatClampNeg) ∧ u = 0) (fun (u : (Int32)) => xB D [(C 1, .long), (C 2, .boolean), (C 3, .int), (C 4, .long), (C 5, .long), (C 6, .double)] (va_A (mw m0 a C th (nI n) sp lo ph pr bo mo rf gr hd st ch rs) sz) (mw m0 a C u (nI n) sp lo ph pr bo mo rf gr hd st ch rs)) (va_A (mw m0 a C th (nI n) sp lo ph pr bo mo rf gr hd st ch rs) sz)) 0 0 (va_A (mw m0 a C th (nI n) sp lo ph pr bo mo rf gr hd st ch rs) sz) := by
  rcases w_io n w hn with hwo | ⟨i, hi, rfl⟩
  · skip
    refine Met.ofW (cc := cX2_plant) (maxL := 2) (ret := (some .double)) (by decide) rfl ?_
    intro p e s m args below meth c s₁ B hml hv
    obtain ⟨rfl, hsz, ⟨hP, hK, hN⟩, hDt⟩ := hv
    have hx := B.exec
    have hb := B.bytes
    have hr := B.returns
    have hts := atoms_spec (ws := wsX2_plant) B.pre
    have hown : s.vm.findClass RX2 = some m.cls := findClass_of_methodNamed B.named
    have hlocks := B.notSynchronized
    have hm1 : (.fieldLink RX2 40 "GearBrakeModel" "thrown" "I" : Cond) ∈ wsX2_plant := by decide +kernel
    subst hsz
    have hD := hDt.self (sz := s.heap.size)
    generalize hAe : va_A (mw m0 a C th (nI n) sp lo ph pr bo mo rf gr hd st ch rs) s.heap.size = A at hD ⊢
    have hA : ∀ q : Nat, s.heap.size ≤ q → A q := fun q h => by rw [← hAe]; exact Or.inr h
    have hS : va_S A s.heap s.heap [] := va_S.rf
    have hl := lv_entry ([.ref m0, .int w]) (n := 2) (Nat.le_of_ble_eq_true rfl)
    rw [lg_entry_eq]
    generalize (lg_sl ([.ref m0, .int w]) ++ List.replicate (2 - (lg_sl ([.ref m0, .int w])).length) Slot.unset).toArray = ls at hl ⊢
    replace hl : lv_has ls 2 [(0, .ref m0), (1, .int w)] := hl
    refine lv_aload_n hx hb dX2_plant_0 rfl (lv_at hl 0 rfl) ?_
    refine lv_iconst (v := 0) hx hb dX2_plant_1 (by decide) ?_
    refine va_put (D := D) (ci := 2) (v := .int 0) (ty := .int) (C := RX2) (T := TX2) (N := 14) hx hb hts (by decide +kernel) tyX2 tyX2_ok nmX2 hown hK hP hD hS 0 rfl rfl 0 (by decide) (hts _ hm1) (fun _ h9 => h9) rfl (by decide +kernel) rfl rfl (Nat.le_of_ble_eq_true rfl) dX2_plant_2 (fun H locs hP hD hS => ?_)
    replace hP : va_P D vwCl (mw m0 a C 0 (nI n) sp lo ph pr bo mo rf gr hd st ch rs) H := hP
    replace hD : va_D A (mw m0 a C 0 (nI n) sp lo ph pr bo mo rf gr hd st ch rs) := hD
    refine lv_aload_n hx hb dX2_plant_5 rfl (lv_at hl 0 rfl) ?_
    refine lv_iload_n hx hb dX2_plant_6 rfl (lv_at hl 1 rfl) ?_
    refine vp_callSi (W.runV (As := [.int w]) (rest := []) ⟨hx, hb, hml, hown, hts⟩ (m2_no_out l D m0 a C n 0 sp lo ph pr bo mo rf gr hd st ch rs hn w hwo) (cwV 1 hts gX2_plant_X2_noWheel rfl rfl rfl (by decide +kernel) ⟨Nat.le_of_ble_eq_true rfl, Nat.le_of_ble_eq_true rfl⟩) ⟨xP_blind, va_recv hK hP (ci := 2) (q0 := 0) rfl rfl, xP_at hP hK hN⟩ rfl rfl hl.1 rfl (lv_room (Nat.le_of_ble_eq_true rfl)) dX2_plant_7 ⟨Nat.le_of_ble_eq_true rfl, Nat.le_of_ble_eq_true rfl⟩) (fun r_1 hr_2 => ?_)
    subst hr_2
    refine lv_if_eq (tgt := 17) hx hb dX2_plant_10 (by decide) (fun c_3 => absurd c_3 (by decide)) (fun c_3 => ?_)
    refine lv_dconst0 hx hb dX2_plant_13 ?_
    refine lv_goto (tgt := 23) hx hb dX2_plant_14 (by decide) ?_
    exact W.dret (v := FP.dconst0) hx hb hr (fun t ht hW => ⟨⟨_, (0), rfl, ⟨by simp [hwo], by simp [hwo]⟩, xB_end hP hK hN hD ht hW⟩, hS.F ht⟩) hS.2.2 dX2_plant_23
  · skip
    refine Met.ofW (cc := cX2_plant) (maxL := 2) (ret := (some .double)) (by decide) rfl ?_
    intro p e s m args below meth c s₁ B hml hv
    obtain ⟨rfl, hsz, ⟨hP, hK, hN⟩, hDt⟩ := hv
    have hx := B.exec
    have hb := B.bytes
    have hr := B.returns
    have hts := atoms_spec (ws := wsX2_plant) B.pre
    have hown : s.vm.findClass RX2 = some m.cls := findClass_of_methodNamed B.named
    have hlocks := B.notSynchronized
    have hm1 : (.fieldLink RX2 40 "GearBrakeModel" "thrown" "I" : Cond) ∈ wsX2_plant := by decide +kernel
    have hm2 : (.fieldLink RX2 27 "GearBrakeModel" "models" "[D" : Cond) ∈ wsX2_plant := by decide +kernel
    subst hsz
    have hD := hDt.self (sz := s.heap.size)
    generalize hAe : va_A (mw m0 a C th (nI n) sp lo ph pr bo mo rf gr hd st ch rs) s.heap.size = A at hD ⊢
    have hA : ∀ q : Nat, s.heap.size ≤ q → A q := fun q h => by rw [← hAe]; exact Or.inr h
    have hS : va_S A s.heap s.heap [] := va_S.rf
    have hl := lv_entry ([.ref m0, .int (nI (i + 1))]) (n := 2) (Nat.le_of_ble_eq_true rfl)
    rw [lg_entry_eq]
    generalize (lg_sl ([.ref m0, .int (nI (i + 1))]) ++ List.replicate (2 - (lg_sl ([.ref m0, .int (nI (i + 1))])).length) Slot.unset).toArray = ls at hl ⊢
    replace hl : lv_has ls 2 [(0, .ref m0), (1, .int (nI (i + 1)))] := hl
    refine lv_aload_n hx hb dX2_plant_0 rfl (lv_at hl 0 rfl) ?_
    refine lv_iconst (v := 0) hx hb dX2_plant_1 (by decide) ?_
    refine va_put (D := D) (ci := 2) (v := .int 0) (ty := .int) (C := RX2) (T := TX2) (N := 14) hx hb hts (by decide +kernel) tyX2 tyX2_ok nmX2 hown hK hP hD hS 0 rfl rfl 0 (by decide) (hts _ hm1) (fun _ h9 => h9) rfl (by decide +kernel) rfl rfl (Nat.le_of_ble_eq_true rfl) dX2_plant_2 (fun H locs hP hD hS => ?_)
    replace hP : va_P D vwCl (mw m0 a C 0 (nI n) sp lo ph pr bo mo rf gr hd st ch rs) H := hP
    replace hD : va_D A (mw m0 a C 0 (nI n) sp lo ph pr bo mo rf gr hd st ch rs) := hD
    refine lv_aload_n hx hb dX2_plant_5 rfl (lv_at hl 0 rfl) ?_
    refine lv_iload_n hx hb dX2_plant_6 rfl (lv_at hl 1 rfl) ?_
    refine vp_callSi (W.runV (As := [.int (nI (i + 1))]) (rest := []) ⟨hx, hb, hml, hown, hts⟩ (m2_no_in l D m0 a C n 0 sp lo ph pr bo mo rf gr hd st ch rs hn i hi) (cwV 1 hts gX2_plant_X2_noWheel rfl rfl rfl (by decide +kernel) ⟨Nat.le_of_ble_eq_true rfl, Nat.le_of_ble_eq_true rfl⟩) ⟨xP_blind, va_recv hK hP (ci := 2) (q0 := 0) rfl rfl, xP_at hP hK hN⟩ rfl rfl hl.1 rfl (lv_room (Nat.le_of_ble_eq_true rfl)) dX2_plant_7 ⟨Nat.le_of_ble_eq_true rfl, Nat.le_of_ble_eq_true rfl⟩) (fun r_1 hr_2 => ?_)
    subst hr_2
    refine lv_if_eq (tgt := 17) hx hb dX2_plant_10 (by decide) (fun c_3 => ?_) (fun c_3 => absurd (by decide) c_3)
    refine lv_aload_n hx hb dX2_plant_17 rfl (lv_at hl 0 rfl) ?_
    refine va_get (D := D) (ci := 2) (v := .ref (a 6)) (C := RX2) (T := TX2) (N := 14) hx hb hts (by decide +kernel) hown hK hP 0 rfl rfl 7 (by decide) (hts _ hm2) (fun _ h9 => h9) rfl dX2_plant_18 ?_
    refine lv_iload_n hx hb dX2_plant_21 rfl (lv_at hl 1 rfl) ?_
    refine va_dald (D := D) (f := mo) hx hb hK hP 6 5 rfl rfl (ix_9 hn hi) dX2_plant_22 ?_
    refine W.eq (g2 := F0 m 23 ls [.double (mo (i + 1))]) (by rw [wIx hn hi]) ?_
    exact W.dret (v := (mo (i + 1))) hx hb hr (fun t ht hW => ⟨⟨_, (0), rfl, ⟨by simp [wOut_in hn hi, wIx hn hi], by simp [wOut_in hn hi, wIx hn hi]⟩, xB_end hP hK hN hD ht hW⟩, hS.F ht⟩) hS.2.2 dX2_plant_23
set_option maxHeartbeats 4000000 in
set_option maxRecDepth 100000 in
/-- bound -/
theorem m2_bound (l : Launch) (D : va_G) (m0 : Nat) (a : Nat → Nat) (C : Nat → ClassId) (n : Nat) (th : Int32) (sp : Nat → Int64) (lo ph : Nat → Int32) (pr bo : Nat → Int64) (mo : Nat → UInt64) (rf : Int64) (gr hd st ch rs : Int32) (hn : n ≤ 8) (w : Int32) (v : Int64) (sz : Nat) : Met l yX2_bound wsX2_bound ({ frames := 1, cells := 0, slots := 0, locals := 22 }) (va_Pc [.ref m0, .int w, .long v] (xW D [(C 1, .long), (C 2, .boolean), (C 3, .int), (C 4, .long), (C 5, .long), (C 6, .double)] (mw m0 a C th (nI n) sp lo ph pr bo mo rf gr hd st ch rs) sz)) (va_Qi (fun (r : Int32) (u : (Int32) × (Nat → Int64) × (Nat → Int64)) => r = fW n w v 200 ∧ u.1 = 0 ∧ u.2.1 = gW n w v 200 bo v ∧ u.2.2 = gW n w v 200 pr (mMin (pr w.toNatClampNeg) v)) (fun (u : (Int32) × (Nat → Int64) × (Nat → Int64)) => xB D [(C 1, .long), (C 2, .boolean), (C 3, .int), (C 4, .long), (C 5, .long), (C 6, .double)] (va_A (mw m0 a C th (nI n) sp lo ph pr bo mo rf gr hd st ch rs) sz) (mw m0 a C u.1 (nI n) sp lo ph u.2.2 u.2.1 mo rf gr hd st ch rs)) (va_A (mw m0 a C th (nI n) sp lo ph pr bo mo rf gr hd st ch rs) sz)) 0 0 (va_A (mw m0 a C th (nI n) sp lo ph pr bo mo rf gr hd st ch rs) sz) := by
  rcases w_io n w hn with hwo | ⟨i, hi, rfl⟩
  · skip
    refine Met.ofW (cc := cX2_bound) (maxL := 4) (ret := (some .int)) (by decide) rfl ?_
    intro p e s m args below meth c s₁ B hml hv
    obtain ⟨rfl, hsz, ⟨hP, hK, hN⟩, hDt⟩ := hv
    have hx := B.exec
    have hb := B.bytes
    have hr := B.returns
    have hts := atoms_spec (ws := wsX2_bound) B.pre
    have hown : s.vm.findClass RX2 = some m.cls := findClass_of_methodNamed B.named
    have hlocks := B.notSynchronized
    have hm1 : (.fieldLink RX2 40 "GearBrakeModel" "thrown" "I" : Cond) ∈ wsX2_bound := by decide +kernel
    subst hsz
    have hD := hDt.self (sz := s.heap.size)
    generalize hAe : va_A (mw m0 a C th (nI n) sp lo ph pr bo mo rf gr hd st ch rs) s.heap.size = A at hD ⊢
    have hA : ∀ q : Nat, s.heap.size ≤ q → A q := fun q h => by rw [← hAe]; exact Or.inr h
    have hS : va_S A s.heap s.heap [] := va_S.rf
    have hl := lv_entry ([.ref m0, .int w, .long v]) (n := 4) (Nat.le_of_ble_eq_true rfl)
    rw [lg_entry_eq]
    generalize (lg_sl ([.ref m0, .int w, .long v]) ++ List.replicate (4 - (lg_sl ([.ref m0, .int w, .long v])).length) Slot.unset).toArray = ls at hl ⊢
    replace hl : lv_has ls 4 [(0, .ref m0), (1, .int w), (2, .long v)] := hl
    refine lv_aload_n hx hb dX2_bound_0 rfl (lv_at hl 0 rfl) ?_
    refine lv_iconst (v := 0) hx hb dX2_bound_1 (by decide) ?_
    refine va_put (D := D) (ci := 2) (v := .int 0) (ty := .int) (C := RX2) (T := TX2) (N := 14) hx hb hts (by decide +kernel) tyX2 tyX2_ok nmX2 hown hK hP hD hS 0 rfl rfl 0 (by decide) (hts _ hm1) (fun _ h9 => h9) rfl (by decide +kernel) rfl rfl (Nat.le_of_ble_eq_true rfl) dX2_bound_2 (fun H locs hP hD hS => ?_)
    replace hP : va_P D vwCl (mw m0 a C 0 (nI n) sp lo ph pr bo mo rf gr hd st ch rs) H := hP
    replace hD : va_D A (mw m0 a C 0 (nI n) sp lo ph pr bo mo rf gr hd st ch rs) := hD
    refine lv_aload_n hx hb dX2_bound_5 rfl (lv_at hl 0 rfl) ?_
    refine lv_iload_n hx hb dX2_bound_6 rfl (lv_at hl 1 rfl) ?_
    refine vp_callSi (W.runV (As := [.int w]) (rest := []) ⟨hx, hb, hml, hown, hts⟩ (m2_no_out l D m0 a C n 0 sp lo ph pr bo mo rf gr hd st ch rs hn w hwo) (cwV 1 hts gX2_bound_X2_noWheel rfl rfl rfl (by decide +kernel) ⟨Nat.le_of_ble_eq_true rfl, Nat.le_of_ble_eq_true rfl⟩) ⟨xP_blind, va_recv hK hP (ci := 2) (q0 := 0) rfl rfl, xP_at hP hK hN⟩ rfl rfl hl.1 rfl (lv_room (Nat.le_of_ble_eq_true rfl)) dX2_bound_7 ⟨Nat.le_of_ble_eq_true rfl, Nat.le_of_ble_eq_true rfl⟩) (fun r_1 hr_2 => ?_)
    subst hr_2
    refine lv_if_eq (tgt := 15) hx hb dX2_bound_10 (by decide) (fun c_3 => absurd c_3 (by decide)) (fun c_3 => ?_)
    refine lv_iconst (v := (-1)) hx hb dX2_bound_13 (by decide) ?_
    exact W.iret (v := (-1)) hx hb hr (fun t ht hW => ⟨⟨_, (0, bo, pr), rfl, ⟨by simp [fW, gW, mMin, hwo], by simp [fW, gW, mMin, hwo], by simp [fW, gW, mMin, hwo], by simp [fW, gW, mMin, hwo]⟩, xB_end hP hK hN hD ht hW⟩, hS.F ht⟩) hS.2.2 dX2_bound_14
  · skip
    refine Met.ofW (cc := cX2_bound) (maxL := 4) (ret := (some .int)) (by decide) rfl ?_
    intro p e s m args below meth c s₁ B hml hv
    obtain ⟨rfl, hsz, ⟨hP, hK, hN⟩, hDt⟩ := hv
    have hx := B.exec
    have hb := B.bytes
    have hr := B.returns
    have hts := atoms_spec (ws := wsX2_bound) B.pre
    have hown : s.vm.findClass RX2 = some m.cls := findClass_of_methodNamed B.named
    have hlocks := B.notSynchronized
    have hm1 : (.fieldLink RX2 40 "GearBrakeModel" "thrown" "I" : Cond) ∈ wsX2_bound := by decide +kernel
    have hm2 : (.constantLong RX2 110 (200) : Cond) ∈ wsX2_bound := by decide +kernel
    have hm3 : (.fieldLink RX2 24 "GearBrakeModel" "bounds" "[J" : Cond) ∈ wsX2_bound := by decide +kernel
    have hm4 : (.fieldLink RX2 21 "GearBrakeModel" "pressures" "[J" : Cond) ∈ wsX2_bound := by decide +kernel
    subst hsz
    have hD := hDt.self (sz := s.heap.size)
    generalize hAe : va_A (mw m0 a C th (nI n) sp lo ph pr bo mo rf gr hd st ch rs) s.heap.size = A at hD ⊢
    have hA : ∀ q : Nat, s.heap.size ≤ q → A q := fun q h => by rw [← hAe]; exact Or.inr h
    have hS : va_S A s.heap s.heap [] := va_S.rf
    have hl := lv_entry ([.ref m0, .int (nI (i + 1)), .long v]) (n := 4) (Nat.le_of_ble_eq_true rfl)
    rw [lg_entry_eq]
    generalize (lg_sl ([.ref m0, .int (nI (i + 1)), .long v]) ++ List.replicate (4 - (lg_sl ([.ref m0, .int (nI (i + 1)), .long v])).length) Slot.unset).toArray = ls at hl ⊢
    replace hl : lv_has ls 4 [(0, .ref m0), (1, .int (nI (i + 1))), (2, .long v)] := hl
    refine lv_aload_n hx hb dX2_bound_0 rfl (lv_at hl 0 rfl) ?_
    refine lv_iconst (v := 0) hx hb dX2_bound_1 (by decide) ?_
    refine va_put (D := D) (ci := 2) (v := .int 0) (ty := .int) (C := RX2) (T := TX2) (N := 14) hx hb hts (by decide +kernel) tyX2 tyX2_ok nmX2 hown hK hP hD hS 0 rfl rfl 0 (by decide) (hts _ hm1) (fun _ h9 => h9) rfl (by decide +kernel) rfl rfl (Nat.le_of_ble_eq_true rfl) dX2_bound_2 (fun H locs hP hD hS => ?_)
    replace hP : va_P D vwCl (mw m0 a C 0 (nI n) sp lo ph pr bo mo rf gr hd st ch rs) H := hP
    replace hD : va_D A (mw m0 a C 0 (nI n) sp lo ph pr bo mo rf gr hd st ch rs) := hD
    refine lv_aload_n hx hb dX2_bound_5 rfl (lv_at hl 0 rfl) ?_
    refine lv_iload_n hx hb dX2_bound_6 rfl (lv_at hl 1 rfl) ?_
    refine vp_callSi (W.runV (As := [.int (nI (i + 1))]) (rest := []) ⟨hx, hb, hml, hown, hts⟩ (m2_no_in l D m0 a C n 0 sp lo ph pr bo mo rf gr hd st ch rs hn i hi) (cwV 1 hts gX2_bound_X2_noWheel rfl rfl rfl (by decide +kernel) ⟨Nat.le_of_ble_eq_true rfl, Nat.le_of_ble_eq_true rfl⟩) ⟨xP_blind, va_recv hK hP (ci := 2) (q0 := 0) rfl rfl, xP_at hP hK hN⟩ rfl rfl hl.1 rfl (lv_room (Nat.le_of_ble_eq_true rfl)) dX2_bound_7 ⟨Nat.le_of_ble_eq_true rfl, Nat.le_of_ble_eq_true rfl⟩) (fun r_1 hr_2 => ?_)
    subst hr_2
    refine lv_if_eq (tgt := 15) hx hb dX2_bound_10 (by decide) (fun c_3 => ?_) (fun c_3 => absurd (by decide) c_3)
    refine lv_lload_n hx hb dX2_bound_15 rfl (lv_at hl 2 rfl) ?_
    refine lv_lconst (v := 0) hx hb dX2_bound_16 (by decide) ?_
    refine W.lcmp hx hb dX2_bound_17 ?_
    refine lv_if_lt (tgt := 29) hx hb dX2_bound_18 (by decide) (fun c_4 => ?_) (fun c_4 => ?_)
    · skip
      replace c_4 := (lg_cmp_lt _ _).mp c_4
      refine lv_bipush (v := (-2)) hx hb dX2_bound_29 (by decide) ?_
      exact W.iret (v := (-2)) hx hb hr (fun t ht hW => ⟨⟨_, (0, bo, pr), rfl, ⟨by simp [fW, gW, mMin, wOut_in hn hi, wIx hn hi, c_4], by simp [fW, gW, mMin, wOut_in hn hi, wIx hn hi, c_4], by simp [fW, gW, mMin, wOut_in hn hi, wIx hn hi, c_4], by simp [fW, gW, mMin, wOut_in hn hi, wIx hn hi, c_4]⟩, xB_end hP hK hN hD ht hW⟩, hS.F ht⟩) hS.2.2 dX2_bound_31
    · skip
      replace c_4 := mt (lg_cmp_lt _ _).mpr c_4
      refine lv_lload_n hx hb dX2_bound_21 rfl (lv_at hl 2 rfl) ?_
      refine lv_ldc2 hx hb hown (hts _ hm2) dX2_bound_22 ?_
      refine W.lcmp hx hb dX2_bound_25 ?_
      refine lv_if_le (tgt := 32) hx hb dX2_bound_26 (by decide) (fun c_5 => ?_) (fun c_5 => ?_)
      · skip
        replace c_5 := (lg_cmp_le _ _).mp c_5
        replace c_5 := i64_nlt c_5
        refine lv_aload_n hx hb dX2_bound_32 rfl (lv_at hl 0 rfl) ?_
        refine va_get (D := D) (ci := 2) (v := .ref (a 5)) (C := RX2) (T := TX2) (N := 14) hx hb hts (by decide +kernel) hown hK hP 0 rfl rfl 6 (by decide) (hts _ hm3) (fun _ h9 => h9) rfl dX2_bound_33 ?_
        refine lv_iload_n hx hb dX2_bound_36 rfl (lv_at hl 1 rfl) ?_
        refine lv_lload_n hx hb dX2_bound_37 rfl (lv_at hl 2 rfl) ?_
        refine va_last (D := D) (f := bo) hx hb hK hP hD hS 5 4 rfl rfl (ix_9 hn hi) dX2_bound_38 (fun H locs hP hD hS => ?_)
        rw [wIx hn hi] at hP hD
        replace hP : va_P D vwCl (mw m0 a C 0 (nI n) sp lo ph pr (va_up bo (i + 1) v) mo rf gr hd st ch rs) H := hP
        replace hD : va_D A (mw m0 a C 0 (nI n) sp lo ph pr (va_up bo (i + 1) v) mo rf gr hd st ch rs) := hD
        refine lv_aload_n hx hb dX2_bound_39 rfl (lv_at hl 0 rfl) ?_
        refine va_get (D := D) (ci := 2) (v := .ref (a 4)) (C := RX2) (T := TX2) (N := 14) hx hb hts (by decide +kernel) hown hK hP 0 rfl rfl 5 (by decide) (hts _ hm4) (fun _ h9 => h9) rfl dX2_bound_40 ?_
        refine lv_iload_n hx hb dX2_bound_43 rfl (lv_at hl 1 rfl) ?_
        refine lv_aload_n hx hb dX2_bound_44 rfl (lv_at hl 0 rfl) ?_
        refine va_get (D := D) (ci := 2) (v := .ref (a 4)) (C := RX2) (T := TX2) (N := 14) hx hb hts (by decide +kernel) hown hK hP 0 rfl rfl 5 (by decide) (hts _ hm4) (fun _ h9 => h9) rfl dX2_bound_45 ?_
        refine lv_iload_n hx hb dX2_bound_48 rfl (lv_at hl 1 rfl) ?_
        refine va_lald (D := D) (f := pr) hx hb hK hP 4 3 rfl rfl (ix_9 hn hi) dX2_bound_49 ?_
        refine W.eq (g2 := F0 m 50 ls [.long (pr (i + 1)), .int (nI (i + 1)), .ref (a 4)]) (by rw [wIx hn hi]) ?_
        refine lv_lload_n hx hb dX2_bound_50 rfl (lv_at hl 2 rfl) ?_
        refine W.lcmp hx hb dX2_bound_51 ?_
        refine lv_if_le (tgt := 59) hx hb dX2_bound_52 (by decide) (fun c_6 => ?_) (fun c_6 => ?_)
        · skip
          replace c_6 := (lg_cmp_le _ _).mp c_6
          refine lv_aload_n hx hb dX2_bound_59 rfl (lv_at hl 0 rfl) ?_
          refine va_get (D := D) (ci := 2) (v := .ref (a 4)) (C := RX2) (T := TX2) (N := 14) hx hb hts (by decide +kernel) hown hK hP 0 rfl rfl 5 (by decide) (hts _ hm4) (fun _ h9 => h9) rfl dX2_bound_60 ?_
          refine lv_iload_n hx hb dX2_bound_63 rfl (lv_at hl 1 rfl) ?_
          refine va_lald (D := D) (f := pr) hx hb hK hP 4 3 rfl rfl (ix_9 hn hi) dX2_bound_64 ?_
          refine W.eq (g2 := F0 m 65 ls [.long (pr (i + 1)), .int (nI (i + 1)), .ref (a 4)]) (by rw [wIx hn hi]) ?_
          refine va_last (D := D) (f := pr) hx hb hK hP hD hS 4 3 rfl rfl (ix_9 hn hi) dX2_bound_65 (fun H locs hP hD hS => ?_)
          rw [wIx hn hi] at hP hD
          replace hP : va_P D vwCl (mw m0 a C 0 (nI n) sp lo ph (va_up pr (i + 1) (pr (i + 1))) (va_up bo (i + 1) v) mo rf gr hd st ch rs) H := hP
          replace hD : va_D A (mw m0 a C 0 (nI n) sp lo ph (va_up pr (i + 1) (pr (i + 1))) (va_up bo (i + 1) v) mo rf gr hd st ch rs) := hD
          refine lv_iconst (v := 1) hx hb dX2_bound_66 (by decide) ?_
          exact W.iret (v := 1) hx hb hr (fun t ht hW => ⟨⟨_, (0, va_up bo (i + 1) v, va_up pr (i + 1) (pr (i + 1))), rfl, ⟨by simp [fW, gW, mMin, wOut_in hn hi, wIx hn hi, c_4, c_5, c_6], by simp [fW, gW, mMin, wOut_in hn hi, wIx hn hi, c_4, c_5, c_6], by simp [fW, gW, mMin, wOut_in hn hi, wIx hn hi, c_4, c_5, c_6], by simp [fW, gW, mMin, wOut_in hn hi, wIx hn hi, c_4, c_5, c_6]⟩, xB_end hP hK hN hD ht hW⟩, hS.F ht⟩) hS.2.2 dX2_bound_67
        · skip
          replace c_6 := mt (lg_cmp_le _ _).mpr c_6
          refine lv_lload_n hx hb dX2_bound_55 rfl (lv_at hl 2 rfl) ?_
          refine lv_goto (tgt := 65) hx hb dX2_bound_56 (by decide) ?_
          refine va_last (D := D) (f := pr) hx hb hK hP hD hS 4 3 rfl rfl (ix_9 hn hi) dX2_bound_65 (fun H locs hP hD hS => ?_)
          rw [wIx hn hi] at hP hD
          replace hP : va_P D vwCl (mw m0 a C 0 (nI n) sp lo ph (va_up pr (i + 1) v) (va_up bo (i + 1) v) mo rf gr hd st ch rs) H := hP
          replace hD : va_D A (mw m0 a C 0 (nI n) sp lo ph (va_up pr (i + 1) v) (va_up bo (i + 1) v) mo rf gr hd st ch rs) := hD
          refine lv_iconst (v := 1) hx hb dX2_bound_66 (by decide) ?_
          exact W.iret (v := 1) hx hb hr (fun t ht hW => ⟨⟨_, (0, va_up bo (i + 1) v, va_up pr (i + 1) v), rfl, ⟨by simp [fW, gW, mMin, wOut_in hn hi, wIx hn hi, c_4, c_5, c_6], by simp [fW, gW, mMin, wOut_in hn hi, wIx hn hi, c_4, c_5, c_6], by simp [fW, gW, mMin, wOut_in hn hi, wIx hn hi, c_4, c_5, c_6], by simp [fW, gW, mMin, wOut_in hn hi, wIx hn hi, c_4, c_5, c_6]⟩, xB_end hP hK hN hD ht hW⟩, hS.F ht⟩) hS.2.2 dX2_bound_67
      · skip
        replace c_5 := mt (lg_cmp_le _ _).mpr c_5
        replace c_5 := i64_lt c_5
        refine lv_bipush (v := (-2)) hx hb dX2_bound_29 (by decide) ?_
        exact W.iret (v := (-2)) hx hb hr (fun t ht hW => ⟨⟨_, (0, bo, pr), rfl, ⟨by simp [fW, gW, mMin, wOut_in hn hi, wIx hn hi, c_4, c_5], by simp [fW, gW, mMin, wOut_in hn hi, wIx hn hi, c_4, c_5], by simp [fW, gW, mMin, wOut_in hn hi, wIx hn hi, c_4, c_5], by simp [fW, gW, mMin, wOut_in hn hi, wIx hn hi, c_4, c_5]⟩, xB_end hP hK hN hD ht hW⟩, hS.F ht⟩) hS.2.2 dX2_bound_31
set_option maxHeartbeats 4000000 in
set_option maxRecDepth 100000 in
/-- lost -/
theorem m2_lost (l : Launch) (D : va_G) (m0 : Nat) (a : Nat → Nat) (C : Nat → ClassId) (n : Nat) (th : Int32) (sp : Nat → Int64) (lo ph : Nat → Int32) (pr bo : Nat → Int64) (mo : Nat → UInt64) (rf : Int64) (gr hd st ch rs : Int32) (hn : n ≤ 8) (w : Int32) (on : Int32) (hon : on = 0 ∨ on = 1) (sz : Nat) : Met l yX2_lost wsX2_lost ({ frames := 1, cells := 0, slots := 0, locals := 22 }) (va_Pc [.ref m0, .int w, .int on] (xW D [(C 1, .long), (C 2, .boolean), (C 3, .int), (C 4, .long), (C 5, .long), (C 6, .double)] (mw m0 a C th (nI n) sp lo ph pr bo mo rf gr hd st ch rs) sz)) (va_Qi (fun (r : Int32) (u : (Int32) × (Nat → Int32)) => r = (if wOut n w then -1 else cnt (va_up lo w.toNatClampNeg on) n) ∧ u.1 = 0 ∧ u.2 = if wOut n w then lo else va_up lo w.toNatClampNeg on) (fun (u : (Int32) × (Nat → Int32)) => xB D [(C 1, .long), (C 2, .boolean), (C 3, .int), (C 4, .long), (C 5, .long), (C 6, .double)] (va_A (mw m0 a C th (nI n) sp lo ph pr bo mo rf gr hd st ch rs) sz) (mw m0 a C u.1 (nI n) sp u.2 ph pr bo mo rf gr hd st ch rs)) (va_A (mw m0 a C th (nI n) sp lo ph pr bo mo rf gr hd st ch rs) sz)) 0 0 (va_A (mw m0 a C th (nI n) sp lo ph pr bo mo rf gr hd st ch rs) sz) := by
  rcases w_io n w hn with hwo | ⟨i, hi, rfl⟩
  · skip
    refine Met.ofW (cc := cX2_lost) (maxL := 3) (ret := (some .int)) (by decide) rfl ?_
    intro p e s m args below meth c s₁ B hml hv
    obtain ⟨rfl, hsz, ⟨hP, hK, hN⟩, hDt⟩ := hv
    have hx := B.exec
    have hb := B.bytes
    have hr := B.returns
    have hts := atoms_spec (ws := wsX2_lost) B.pre
    have hown : s.vm.findClass RX2 = some m.cls := findClass_of_methodNamed B.named
    have hlocks := B.notSynchronized
    have hm1 : (.fieldLink RX2 40 "GearBrakeModel" "thrown" "I" : Cond) ∈ wsX2_lost := by decide +kernel
    subst hsz
    have hD := hDt.self (sz := s.heap.size)
    generalize hAe : va_A (mw m0 a C th (nI n) sp lo ph pr bo mo rf gr hd st ch rs) s.heap.size = A at hD ⊢
    have hA : ∀ q : Nat, s.heap.size ≤ q → A q := fun q h => by rw [← hAe]; exact Or.inr h
    have hS : va_S A s.heap s.heap [] := va_S.rf
    have hl := lv_entry ([.ref m0, .int w, .int on]) (n := 3) (Nat.le_of_ble_eq_true rfl)
    rw [lg_entry_eq]
    generalize (lg_sl ([.ref m0, .int w, .int on]) ++ List.replicate (3 - (lg_sl ([.ref m0, .int w, .int on])).length) Slot.unset).toArray = ls at hl ⊢
    replace hl : lv_has ls 3 [(0, .ref m0), (1, .int w), (2, .int on)] := hl
    refine lv_aload_n hx hb dX2_lost_0 rfl (lv_at hl 0 rfl) ?_
    refine lv_iconst (v := 0) hx hb dX2_lost_1 (by decide) ?_
    refine va_put (D := D) (ci := 2) (v := .int 0) (ty := .int) (C := RX2) (T := TX2) (N := 14) hx hb hts (by decide +kernel) tyX2 tyX2_ok nmX2 hown hK hP hD hS 0 rfl rfl 0 (by decide) (hts _ hm1) (fun _ h9 => h9) rfl (by decide +kernel) rfl rfl (Nat.le_of_ble_eq_true rfl) dX2_lost_2 (fun H locs hP hD hS => ?_)
    replace hP : va_P D vwCl (mw m0 a C 0 (nI n) sp lo ph pr bo mo rf gr hd st ch rs) H := hP
    replace hD : va_D A (mw m0 a C 0 (nI n) sp lo ph pr bo mo rf gr hd st ch rs) := hD
    refine lv_aload_n hx hb dX2_lost_5 rfl (lv_at hl 0 rfl) ?_
    refine lv_iload_n hx hb dX2_lost_6 rfl (lv_at hl 1 rfl) ?_
    refine vp_callSi (W.runV (As := [.int w]) (rest := []) ⟨hx, hb, hml, hown, hts⟩ (m2_no_out l D m0 a C n 0 sp lo ph pr bo mo rf gr hd st ch rs hn w hwo) (cwV 1 hts gX2_lost_X2_noWheel rfl rfl rfl (by decide +kernel) ⟨Nat.le_of_ble_eq_true rfl, Nat.le_of_ble_eq_true rfl⟩) ⟨xP_blind, va_recv hK hP (ci := 2) (q0 := 0) rfl rfl, xP_at hP hK hN⟩ rfl rfl hl.1 rfl (lv_room (Nat.le_of_ble_eq_true rfl)) dX2_lost_7 ⟨Nat.le_of_ble_eq_true rfl, Nat.le_of_ble_eq_true rfl⟩) (fun r_1 hr_2 => ?_)
    subst hr_2
    refine lv_if_eq (tgt := 15) hx hb dX2_lost_10 (by decide) (fun c_3 => absurd c_3 (by decide)) (fun c_3 => ?_)
    refine lv_iconst (v := (-1)) hx hb dX2_lost_13 (by decide) ?_
    exact W.iret (v := (-1)) hx hb hr (fun t ht hW => ⟨⟨_, (0, lo), rfl, ⟨by simp [hwo], by simp [hwo], by simp [hwo]⟩, xB_end hP hK hN hD ht hW⟩, hS.F ht⟩) hS.2.2 dX2_lost_14
  · skip
    refine Met.ofW (cc := cX2_lost) (maxL := 3) (ret := (some .int)) (by decide) rfl ?_
    intro p e s m args below meth c s₁ B hml hv
    obtain ⟨rfl, hsz, ⟨hP, hK, hN⟩, hDt⟩ := hv
    have hx := B.exec
    have hb := B.bytes
    have hr := B.returns
    have hts := atoms_spec (ws := wsX2_lost) B.pre
    have hown : s.vm.findClass RX2 = some m.cls := findClass_of_methodNamed B.named
    have hlocks := B.notSynchronized
    have hm1 : (.fieldLink RX2 40 "GearBrakeModel" "thrown" "I" : Cond) ∈ wsX2_lost := by decide +kernel
    have hm2 : (.fieldLink RX2 13 "GearBrakeModel" "losts" "[Z" : Cond) ∈ wsX2_lost := by decide +kernel
    subst hsz
    have hD := hDt.self (sz := s.heap.size)
    generalize hAe : va_A (mw m0 a C th (nI n) sp lo ph pr bo mo rf gr hd st ch rs) s.heap.size = A at hD ⊢
    have hA : ∀ q : Nat, s.heap.size ≤ q → A q := fun q h => by rw [← hAe]; exact Or.inr h
    have hS : va_S A s.heap s.heap [] := va_S.rf
    have hl := lv_entry ([.ref m0, .int (nI (i + 1)), .int on]) (n := 3) (Nat.le_of_ble_eq_true rfl)
    rw [lg_entry_eq]
    generalize (lg_sl ([.ref m0, .int (nI (i + 1)), .int on]) ++ List.replicate (3 - (lg_sl ([.ref m0, .int (nI (i + 1)), .int on])).length) Slot.unset).toArray = ls at hl ⊢
    replace hl : lv_has ls 3 [(0, .ref m0), (1, .int (nI (i + 1))), (2, .int on)] := hl
    refine lv_aload_n hx hb dX2_lost_0 rfl (lv_at hl 0 rfl) ?_
    refine lv_iconst (v := 0) hx hb dX2_lost_1 (by decide) ?_
    refine va_put (D := D) (ci := 2) (v := .int 0) (ty := .int) (C := RX2) (T := TX2) (N := 14) hx hb hts (by decide +kernel) tyX2 tyX2_ok nmX2 hown hK hP hD hS 0 rfl rfl 0 (by decide) (hts _ hm1) (fun _ h9 => h9) rfl (by decide +kernel) rfl rfl (Nat.le_of_ble_eq_true rfl) dX2_lost_2 (fun H locs hP hD hS => ?_)
    replace hP : va_P D vwCl (mw m0 a C 0 (nI n) sp lo ph pr bo mo rf gr hd st ch rs) H := hP
    replace hD : va_D A (mw m0 a C 0 (nI n) sp lo ph pr bo mo rf gr hd st ch rs) := hD
    refine lv_aload_n hx hb dX2_lost_5 rfl (lv_at hl 0 rfl) ?_
    refine lv_iload_n hx hb dX2_lost_6 rfl (lv_at hl 1 rfl) ?_
    refine vp_callSi (W.runV (As := [.int (nI (i + 1))]) (rest := []) ⟨hx, hb, hml, hown, hts⟩ (m2_no_in l D m0 a C n 0 sp lo ph pr bo mo rf gr hd st ch rs hn i hi) (cwV 1 hts gX2_lost_X2_noWheel rfl rfl rfl (by decide +kernel) ⟨Nat.le_of_ble_eq_true rfl, Nat.le_of_ble_eq_true rfl⟩) ⟨xP_blind, va_recv hK hP (ci := 2) (q0 := 0) rfl rfl, xP_at hP hK hN⟩ rfl rfl hl.1 rfl (lv_room (Nat.le_of_ble_eq_true rfl)) dX2_lost_7 ⟨Nat.le_of_ble_eq_true rfl, Nat.le_of_ble_eq_true rfl⟩) (fun r_1 hr_2 => ?_)
    subst hr_2
    refine lv_if_eq (tgt := 15) hx hb dX2_lost_10 (by decide) (fun c_3 => ?_) (fun c_3 => absurd (by decide) c_3)
    refine lv_aload_n hx hb dX2_lost_15 rfl (lv_at hl 0 rfl) ?_
    refine va_get (D := D) (ci := 2) (v := .ref (a 2)) (C := RX2) (T := TX2) (N := 14) hx hb hts (by decide +kernel) hown hK hP 0 rfl rfl 3 (by decide) (hts _ hm2) (fun _ h9 => h9) rfl dX2_lost_16 ?_
    refine lv_iload_n hx hb dX2_lost_19 rfl (lv_at hl 1 rfl) ?_
    refine lv_iload_n hx hb dX2_lost_20 rfl (lv_at hl 2 rfl) ?_
    refine va_zast (D := D) (f := lo) hx hb hK hP hD hS 2 1 rfl rfl (ix_9 hn hi) dX2_lost_21 (fun H locs hP hD hS => ?_)
    rw [show vp_nar .boolean on = on from bool_vp hon] at hP hD
    rw [wIx hn hi] at hP hD
    replace hP : va_P D vwCl (mw m0 a C 0 (nI n) sp (va_up lo (i + 1) on) ph pr bo mo rf gr hd st ch rs) H := hP
    replace hD : va_D A (mw m0 a C 0 (nI n) sp (va_up lo (i + 1) on) ph pr bo mo rf gr hd st ch rs) := hD
    refine lv_aload_n hx hb dX2_lost_22 rfl (lv_at hl 0 rfl) ?_
    refine vp_callSi (W.runV (As := []) (rest := []) ⟨hx, hb, hml, hown, hts⟩ (m2_lostOnes l D m0 a C n 0 sp (va_up lo (i + 1) on) ph pr bo mo rf gr hd st ch rs hn) (cwV 0 hts gX2_lost_X2_lostOnes rfl rfl rfl (by decide +kernel) ⟨Nat.le_of_ble_eq_true rfl, Nat.le_of_ble_eq_true rfl⟩) ⟨xP_blind, va_recv hK hP (ci := 2) (q0 := 0) rfl rfl, xP_at hP hK hN⟩ rfl rfl hl.1 rfl (lv_room (Nat.le_of_ble_eq_true rfl)) dX2_lost_23 ⟨Nat.le_of_ble_eq_true rfl, Nat.le_of_ble_eq_true rfl⟩) (fun r_4 hr_5 => ?_)
    subst hr_5
    exact W.iret (v := (cnt (va_up lo (i + 1) on) n)) hx hb hr (fun t ht hW => ⟨⟨_, (0, va_up lo (i + 1) on), rfl, ⟨by simp [wOut_in hn hi, wIx hn hi], by simp [wOut_in hn hi, wIx hn hi], by simp [wOut_in hn hi, wIx hn hi]⟩, xB_end hP hK hN hD ht hW⟩, hS.F ht⟩) hS.2.2 dX2_lost_26
set_option maxHeartbeats 4000000 in
set_option maxRecDepth 100000 in
/-- gear -/
theorem m2_gear (l : Launch) (D : va_G) (m0 : Nat) (a : Nat → Nat) (C : Nat → ClassId) (n : Nat) (th : Int32) (sp : Nat → Int64) (lo ph : Nat → Int32) (pr bo : Nat → Int64) (mo : Nat → UInt64) (rf : Int64) (gr hd st ch rs : Int32) (hn : n ≤ 8) (sz : Nat) : Met l yX2_gear wsX2_gear ({ frames := 1, cells := 0, slots := 0, locals := 22 }) (va_Pc [.ref m0] (xW D [(C 1, .long), (C 2, .boolean), (C 3, .int), (C 4, .long), (C 5, .long), (C 6, .double)] (mw m0 a C th (nI n) sp lo ph pr bo mo rf gr hd st ch rs) sz)) (va_Qi (fun (r : Int32) (u : (Int32)) => r = gr ∧ u = 0) (fun (u : (Int32)) => xB D [(C 1, .long), (C 2, .boolean), (C 3, .int), (C 4, .long), (C 5, .long), (C 6, .double)] (va_A (mw m0 a C th (nI n) sp lo ph pr bo mo rf gr hd st ch rs) sz) (mw m0 a C u (nI n) sp lo ph pr bo mo rf gr hd st ch rs)) (va_A (mw m0 a C th (nI n) sp lo ph pr bo mo rf gr hd st ch rs) sz)) 0 0 (va_A (mw m0 a C th (nI n) sp lo ph pr bo mo rf gr hd st ch rs) sz) := by
  refine Met.ofW (cc := cX2_gear) (maxL := 1) (ret := (some .int)) (by decide) rfl ?_
  intro p e s m args below meth c s₁ B hml hv
  obtain ⟨rfl, hsz, ⟨hP, hK, hN⟩, hDt⟩ := hv
  have hx := B.exec
  have hb := B.bytes
  have hr := B.returns
  have hts := atoms_spec (ws := wsX2_gear) B.pre
  have hown : s.vm.findClass RX2 = some m.cls := findClass_of_methodNamed B.named
  have hlocks := B.notSynchronized
  have hm1 : (.fieldLink RX2 40 "GearBrakeModel" "thrown" "I" : Cond) ∈ wsX2_gear := by decide +kernel
  have hm2 : (.fieldLink RX2 31 "GearBrakeModel" "gear" "I" : Cond) ∈ wsX2_gear := by decide +kernel
  subst hsz
  have hD := hDt.self (sz := s.heap.size)
  generalize hAe : va_A (mw m0 a C th (nI n) sp lo ph pr bo mo rf gr hd st ch rs) s.heap.size = A at hD ⊢
  have hA : ∀ q : Nat, s.heap.size ≤ q → A q := fun q h => by rw [← hAe]; exact Or.inr h
  have hS : va_S A s.heap s.heap [] := va_S.rf
  have hl := lv_entry ([.ref m0]) (n := 1) (Nat.le_of_ble_eq_true rfl)
  rw [lg_entry_eq]
  generalize (lg_sl ([.ref m0]) ++ List.replicate (1 - (lg_sl ([.ref m0])).length) Slot.unset).toArray = ls at hl ⊢
  replace hl : lv_has ls 1 [(0, .ref m0)] := hl
  refine lv_aload_n hx hb dX2_gear_0 rfl (lv_at hl 0 rfl) ?_
  refine lv_iconst (v := 0) hx hb dX2_gear_1 (by decide) ?_
  refine va_put (D := D) (ci := 2) (v := .int 0) (ty := .int) (C := RX2) (T := TX2) (N := 14) hx hb hts (by decide +kernel) tyX2 tyX2_ok nmX2 hown hK hP hD hS 0 rfl rfl 0 (by decide) (hts _ hm1) (fun _ h9 => h9) rfl (by decide +kernel) rfl rfl (Nat.le_of_ble_eq_true rfl) dX2_gear_2 (fun H locs hP hD hS => ?_)
  replace hP : va_P D vwCl (mw m0 a C 0 (nI n) sp lo ph pr bo mo rf gr hd st ch rs) H := hP
  replace hD : va_D A (mw m0 a C 0 (nI n) sp lo ph pr bo mo rf gr hd st ch rs) := hD
  refine lv_aload_n hx hb dX2_gear_5 rfl (lv_at hl 0 rfl) ?_
  refine va_get (D := D) (ci := 2) (v := .int gr) (C := RX2) (T := TX2) (N := 14) hx hb hts (by decide +kernel) hown hK hP 0 rfl rfl 9 (by decide) (hts _ hm2) (fun _ h9 => h9) rfl dX2_gear_6 ?_
  exact W.iret (v := gr) hx hb hr (fun t ht hW => ⟨⟨_, (0), rfl, ⟨by simp [], by simp []⟩, xB_end hP hK hN hD ht hW⟩, hS.F ht⟩) hS.2.2 dX2_gear_9
set_option maxHeartbeats 4000000 in
set_option maxRecDepth 100000 in
/-- reference -/
theorem m2_reference (l : Launch) (D : va_G) (m0 : Nat) (a : Nat → Nat) (C : Nat → ClassId) (n : Nat) (th : Int32) (sp : Nat → Int64) (lo ph : Nat → Int32) (pr bo : Nat → Int64) (mo : Nat → UInt64) (rf : Int64) (gr hd st ch rs : Int32) (hn : n ≤ 8) (sz : Nat) : Met l yX2_reference wsX2_reference ({ frames := 1, cells := 0, slots := 0, locals := 22 }) (va_Pc [.ref m0] (xW D [(C 1, .long), (C 2, .boolean), (C 3, .int), (C 4, .long), (C 5, .long), (C 6, .double)] (mw m0 a C th (nI n) sp lo ph pr bo mo rf gr hd st ch rs) sz)) (va_Ql (fun (r : Int64) (u : (Int32)) => r = rf ∧ u = 0) (fun (u : (Int32)) => xB D [(C 1, .long), (C 2, .boolean), (C 3, .int), (C 4, .long), (C 5, .long), (C 6, .double)] (va_A (mw m0 a C th (nI n) sp lo ph pr bo mo rf gr hd st ch rs) sz) (mw m0 a C u (nI n) sp lo ph pr bo mo rf gr hd st ch rs)) (va_A (mw m0 a C th (nI n) sp lo ph pr bo mo rf gr hd st ch rs) sz)) 0 0 (va_A (mw m0 a C th (nI n) sp lo ph pr bo mo rf gr hd st ch rs) sz) := by
  refine Met.ofW (cc := cX2_reference) (maxL := 1) (ret := (some .long)) (by decide) rfl ?_
  intro p e s m args below meth c s₁ B hml hv
  obtain ⟨rfl, hsz, ⟨hP, hK, hN⟩, hDt⟩ := hv
  have hx := B.exec
  have hb := B.bytes
  have hr := B.returns
  have hts := atoms_spec (ws := wsX2_reference) B.pre
  have hown : s.vm.findClass RX2 = some m.cls := findClass_of_methodNamed B.named
  have hlocks := B.notSynchronized
  have hm1 : (.fieldLink RX2 40 "GearBrakeModel" "thrown" "I" : Cond) ∈ wsX2_reference := by decide +kernel
  have hm2 : (.fieldLink RX2 53 "GearBrakeModel" "reference" "J" : Cond) ∈ wsX2_reference := by decide +kernel
  subst hsz
  have hD := hDt.self (sz := s.heap.size)
  generalize hAe : va_A (mw m0 a C th (nI n) sp lo ph pr bo mo rf gr hd st ch rs) s.heap.size = A at hD ⊢
  have hA : ∀ q : Nat, s.heap.size ≤ q → A q := fun q h => by rw [← hAe]; exact Or.inr h
  have hS : va_S A s.heap s.heap [] := va_S.rf
  have hl := lv_entry ([.ref m0]) (n := 1) (Nat.le_of_ble_eq_true rfl)
  rw [lg_entry_eq]
  generalize (lg_sl ([.ref m0]) ++ List.replicate (1 - (lg_sl ([.ref m0])).length) Slot.unset).toArray = ls at hl ⊢
  replace hl : lv_has ls 1 [(0, .ref m0)] := hl
  refine lv_aload_n hx hb dX2_reference_0 rfl (lv_at hl 0 rfl) ?_
  refine lv_iconst (v := 0) hx hb dX2_reference_1 (by decide) ?_
  refine va_put (D := D) (ci := 2) (v := .int 0) (ty := .int) (C := RX2) (T := TX2) (N := 14) hx hb hts (by decide +kernel) tyX2 tyX2_ok nmX2 hown hK hP hD hS 0 rfl rfl 0 (by decide) (hts _ hm1) (fun _ h9 => h9) rfl (by decide +kernel) rfl rfl (Nat.le_of_ble_eq_true rfl) dX2_reference_2 (fun H locs hP hD hS => ?_)
  replace hP : va_P D vwCl (mw m0 a C 0 (nI n) sp lo ph pr bo mo rf gr hd st ch rs) H := hP
  replace hD : va_D A (mw m0 a C 0 (nI n) sp lo ph pr bo mo rf gr hd st ch rs) := hD
  refine lv_aload_n hx hb dX2_reference_5 rfl (lv_at hl 0 rfl) ?_
  refine va_get (D := D) (ci := 2) (v := .long rf) (C := RX2) (T := TX2) (N := 14) hx hb hts (by decide +kernel) hown hK hP 0 rfl rfl 8 (by decide) (hts _ hm2) (fun _ h9 => h9) rfl dX2_reference_6 ?_
  exact W.lret (v := rf) hx hb hr (fun t ht hW => ⟨⟨_, (0), rfl, ⟨by simp [], by simp []⟩, xB_end hP hK hN hD ht hW⟩, hS.F ht⟩) hS.2.2 dX2_reference_9
set_option maxHeartbeats 4000000 in
set_option maxRecDepth 100000 in
/-- mode -/
theorem m2_mode (l : Launch) (D : va_G) (m0 : Nat) (a : Nat → Nat) (C : Nat → ClassId) (n : Nat) (th : Int32) (sp : Nat → Int64) (lo ph : Nat → Int32) (pr bo : Nat → Int64) (mo : Nat → UInt64) (rf : Int64) (gr hd st ch rs : Int32) (hn : n ≤ 8) (sz : Nat) : Met l yX2_mode wsX2_mode ({ frames := 1, cells := 0, slots := 0, locals := 22 }) (va_Pc [.ref m0] (xW D [(C 1, .long), (C 2, .boolean), (C 3, .int), (C 4, .long), (C 5, .long), (C 6, .double)] (mw m0 a C th (nI n) sp lo ph pr bo mo rf gr hd st ch rs) sz)) (va_Qi (fun (r : Int32) (u : (Int32)) => r = (if hd = 0 then (if cnt lo n ≤ 0 then 0 else 1) else 2) ∧ u = 0) (fun (u : (Int32)) => xB D [(C 1, .long), (C 2, .boolean), (C 3, .int), (C 4, .long), (C 5, .long), (C 6, .double)] (va_A (mw m0 a C th (nI n) sp lo ph pr bo mo rf gr hd st ch rs) sz) (mw m0 a C u (nI n) sp lo ph pr bo mo rf gr hd st ch rs)) (va_A (mw m0 a C th (nI n) sp lo ph pr bo mo rf gr hd st ch rs) sz)) 0 0 (va_A (mw m0 a C th (nI n) sp lo ph pr bo mo rf gr hd st ch rs) sz) := by
  refine Met.ofW (cc := cX2_mode) (maxL := 1) (ret := (some .int)) (by decide) rfl ?_
  intro p e s m args below meth c s₁ B hml hv
  obtain ⟨rfl, hsz, ⟨hP, hK, hN⟩, hDt⟩ := hv
  have hx := B.exec
  have hb := B.bytes
  have hr := B.returns
  have hts := atoms_spec (ws := wsX2_mode) B.pre
  have hown : s.vm.findClass RX2 = some m.cls := findClass_of_methodNamed B.named
  have hlocks := B.notSynchronized
  have hm1 : (.fieldLink RX2 40 "GearBrakeModel" "thrown" "I" : Cond) ∈ wsX2_mode := by decide +kernel
  have hm2 : (.fieldLink RX2 67 "GearBrakeModel" "holds" "Z" : Cond) ∈ wsX2_mode := by decide +kernel
  subst hsz
  have hD := hDt.self (sz := s.heap.size)
  generalize hAe : va_A (mw m0 a C th (nI n) sp lo ph pr bo mo rf gr hd st ch rs) s.heap.size = A at hD ⊢
  have hA : ∀ q : Nat, s.heap.size ≤ q → A q := fun q h => by rw [← hAe]; exact Or.inr h
  have hS : va_S A s.heap s.heap [] := va_S.rf
  have hl := lv_entry ([.ref m0]) (n := 1) (Nat.le_of_ble_eq_true rfl)
  rw [lg_entry_eq]
  generalize (lg_sl ([.ref m0]) ++ List.replicate (1 - (lg_sl ([.ref m0])).length) Slot.unset).toArray = ls at hl ⊢
  replace hl : lv_has ls 1 [(0, .ref m0)] := hl
  refine lv_aload_n hx hb dX2_mode_0 rfl (lv_at hl 0 rfl) ?_
  refine lv_iconst (v := 0) hx hb dX2_mode_1 (by decide) ?_
  refine va_put (D := D) (ci := 2) (v := .int 0) (ty := .int) (C := RX2) (T := TX2) (N := 14) hx hb hts (by decide +kernel) tyX2 tyX2_ok nmX2 hown hK hP hD hS 0 rfl rfl 0 (by decide) (hts _ hm1) (fun _ h9 => h9) rfl (by decide +kernel) rfl rfl (Nat.le_of_ble_eq_true rfl) dX2_mode_2 (fun H locs hP hD hS => ?_)
  replace hP : va_P D vwCl (mw m0 a C 0 (nI n) sp lo ph pr bo mo rf gr hd st ch rs) H := hP
  replace hD : va_D A (mw m0 a C 0 (nI n) sp lo ph pr bo mo rf gr hd st ch rs) := hD
  refine lv_aload_n hx hb dX2_mode_5 rfl (lv_at hl 0 rfl) ?_
  refine va_get (D := D) (ci := 2) (v := .int hd) (C := RX2) (T := TX2) (N := 14) hx hb hts (by decide +kernel) hown hK hP 0 rfl rfl 10 (by decide) (hts _ hm2) (fun _ h9 => h9) rfl dX2_mode_6 ?_
  refine lv_if_eq (tgt := 16) hx hb dX2_mode_9 (by decide) (fun c_1 => ?_) (fun c_1 => ?_)
  · skip
    refine lv_aload_n hx hb dX2_mode_16 rfl (lv_at hl 0 rfl) ?_
    refine vp_callSi (W.runV (As := []) (rest := []) ⟨hx, hb, hml, hown, hts⟩ (m2_lostOnes l D m0 a C n 0 sp lo ph pr bo mo rf gr hd st ch rs hn) (cwV 0 hts gX2_mode_X2_lostOnes rfl rfl rfl (by decide +kernel) ⟨Nat.le_of_ble_eq_true rfl, Nat.le_of_ble_eq_true rfl⟩) ⟨xP_blind, va_recv hK hP (ci := 2) (q0 := 0) rfl rfl, xP_at hP hK hN⟩ rfl rfl hl.1 rfl (lv_room (Nat.le_of_ble_eq_true rfl)) dX2_mode_17 ⟨Nat.le_of_ble_eq_true rfl, Nat.le_of_ble_eq_true rfl⟩) (fun r_2 hr_3 => ?_)
    subst hr_3
    refine lv_if_le (tgt := 27) hx hb dX2_mode_20 (by decide) (fun c_4 => ?_) (fun c_4 => ?_)
    · skip
      refine lv_iconst (v := 0) hx hb dX2_mode_27 (by decide) ?_
      exact W.iret (v := 0) hx hb hr (fun t ht hW => ⟨⟨_, (0), rfl, ⟨by simp [c_1, c_4], by simp [c_1, c_4]⟩, xB_end hP hK hN hD ht hW⟩, hS.F ht⟩) hS.2.2 dX2_mode_28
    · skip
      refine lv_iconst (v := 1) hx hb dX2_mode_23 (by decide) ?_
      refine lv_goto (tgt := 28) hx hb dX2_mode_24 (by decide) ?_
      exact W.iret (v := 1) hx hb hr (fun t ht hW => ⟨⟨_, (0), rfl, ⟨by simp [c_1, c_4], by simp [c_1, c_4]⟩, xB_end hP hK hN hD ht hW⟩, hS.F ht⟩) hS.2.2 dX2_mode_28
  · skip
    refine lv_iconst (v := 2) hx hb dX2_mode_12 (by decide) ?_
    refine lv_goto (tgt := 28) hx hb dX2_mode_13 (by decide) ?_
    exact W.iret (v := 2) hx hb hr (fun t ht hW => ⟨⟨_, (0), rfl, ⟨by simp [c_1], by simp [c_1]⟩, xB_end hP hK hN hD ht hW⟩, hS.F ht⟩) hS.2.2 dX2_mode_28
set_option maxHeartbeats 4000000 in
set_option maxRecDepth 100000 in
/-- hold -/
theorem m2_hold (l : Launch) (D : va_G) (m0 : Nat) (a : Nat → Nat) (C : Nat → ClassId) (n : Nat) (th : Int32) (sp : Nat → Int64) (lo ph : Nat → Int32) (pr bo : Nat → Int64) (mo : Nat → UInt64) (rf : Int64) (gr hd st ch rs : Int32) (hn : n ≤ 8) (on : Int32) (sz : Nat) : Met l yX2_hold wsX2_hold ({ frames := 1, cells := 0, slots := 0, locals := 22 }) (va_Pc [.ref m0, .int on] (xW D [(C 1, .long), (C 2, .boolean), (C 3, .int), (C 4, .long), (C 5, .long), (C 6, .double)] (mw m0 a C th (nI n) sp lo ph pr bo mo rf gr hd st ch rs) sz)) (va_Qi (fun (r : Int32) (u : (Int32) × (Int32)) => r = sHold on hd rf ∧ u.1 = 0 ∧ u.2 = sHold on hd rf) (fun (u : (Int32) × (Int32)) => xB D [(C 1, .long), (C 2, .boolean), (C 3, .int), (C 4, .long), (C 5, .long), (C 6, .double)] (va_A (mw m0 a C th (nI n) sp lo ph pr bo mo rf gr hd st ch rs) sz) (mw m0 a C u.1 (nI n) sp lo ph pr bo mo rf gr u.2 st ch rs)) (va_A (mw m0 a C th (nI n) sp lo ph pr bo mo rf gr hd st ch rs) sz)) 0 0 (va_A (mw m0 a C th (nI n) sp lo ph pr bo mo rf gr hd st ch rs) sz) := by
  refine Met.ofW (cc := cX2_hold) (maxL := 2) (ret := (some .int)) (by decide) rfl ?_
  intro p e s m args below meth c s₁ B hml hv
  obtain ⟨rfl, hsz, ⟨hP, hK, hN⟩, hDt⟩ := hv
  have hx := B.exec
  have hb := B.bytes
  have hr := B.returns
  have hts := atoms_spec (ws := wsX2_hold) B.pre
  have hown : s.vm.findClass RX2 = some m.cls := findClass_of_methodNamed B.named
  have hlocks := B.notSynchronized
  have hm1 : (.fieldLink RX2 40 "GearBrakeModel" "thrown" "I" : Cond) ∈ wsX2_hold := by decide +kernel
  have hm2 : (.fieldLink RX2 67 "GearBrakeModel" "holds" "Z" : Cond) ∈ wsX2_hold := by decide +kernel
  have hm3 : (.fieldLink RX2 53 "GearBrakeModel" "reference" "J" : Cond) ∈ wsX2_hold := by decide +kernel
  subst hsz
  have hD := hDt.self (sz := s.heap.size)
  generalize hAe : va_A (mw m0 a C th (nI n) sp lo ph pr bo mo rf gr hd st ch rs) s.heap.size = A at hD ⊢
  have hA : ∀ q : Nat, s.heap.size ≤ q → A q := fun q h => by rw [← hAe]; exact Or.inr h
  have hS : va_S A s.heap s.heap [] := va_S.rf
  have hl := lv_entry ([.ref m0, .int on]) (n := 2) (Nat.le_of_ble_eq_true rfl)
  rw [lg_entry_eq]
  generalize (lg_sl ([.ref m0, .int on]) ++ List.replicate (2 - (lg_sl ([.ref m0, .int on])).length) Slot.unset).toArray = ls at hl ⊢
  replace hl : lv_has ls 2 [(0, .ref m0), (1, .int on)] := hl
  refine lv_aload_n hx hb dX2_hold_0 rfl (lv_at hl 0 rfl) ?_
  refine lv_iconst (v := 0) hx hb dX2_hold_1 (by decide) ?_
  refine va_put (D := D) (ci := 2) (v := .int 0) (ty := .int) (C := RX2) (T := TX2) (N := 14) hx hb hts (by decide +kernel) tyX2 tyX2_ok nmX2 hown hK hP hD hS 0 rfl rfl 0 (by decide) (hts _ hm1) (fun _ h9 => h9) rfl (by decide +kernel) rfl rfl (Nat.le_of_ble_eq_true rfl) dX2_hold_2 (fun H locs hP hD hS => ?_)
  replace hP : va_P D vwCl (mw m0 a C 0 (nI n) sp lo ph pr bo mo rf gr hd st ch rs) H := hP
  replace hD : va_D A (mw m0 a C 0 (nI n) sp lo ph pr bo mo rf gr hd st ch rs) := hD
  refine lv_aload_n hx hb dX2_hold_5 rfl (lv_at hl 0 rfl) ?_
  refine lv_iload_n hx hb dX2_hold_6 rfl (lv_at hl 1 rfl) ?_
  refine lv_if_eq (tgt := 30) hx hb dX2_hold_7 (by decide) (fun c_1 => ?_) (fun c_1 => ?_)
  · skip
    refine lv_iconst (v := 0) hx hb dX2_hold_30 (by decide) ?_
    refine va_put (D := D) (ci := 2) (v := .int 0) (ty := .boolean) (C := RX2) (T := TX2) (N := 14) hx hb hts (by decide +kernel) tyX2 tyX2_ok nmX2 hown hK hP hD hS 0 rfl rfl 10 (by decide) (hts _ hm2) (fun _ h9 => h9) rfl (by decide +kernel) rfl rfl (Nat.le_of_ble_eq_true rfl) dX2_hold_31 (fun H locs hP hD hS => ?_)
    replace hP : va_P D vwCl (mw m0 a C 0 (nI n) sp lo ph pr bo mo rf gr 0 st ch rs) H := hP
    replace hD : va_D A (mw m0 a C 0 (nI n) sp lo ph pr bo mo rf gr 0 st ch rs) := hD
    refine lv_aload_n hx hb dX2_hold_34 rfl (lv_at hl 0 rfl) ?_
    refine va_get (D := D) (ci := 2) (v := .int 0) (C := RX2) (T := TX2) (N := 14) hx hb hts (by decide +kernel) hown hK hP 0 rfl rfl 10 (by decide) (hts _ hm2) (fun _ h9 => h9) rfl dX2_hold_35 ?_
    refine lv_if_eq (tgt := 45) hx hb dX2_hold_38 (by decide) (fun c_2 => ?_) (fun c_2 => absurd (by decide) c_2)
    refine lv_iconst (v := 0) hx hb dX2_hold_45 (by decide) ?_
    exact W.iret (v := 0) hx hb hr (fun t ht hW => ⟨⟨_, (0, 0), rfl, ⟨by simp [sHold, c_1], by simp [sHold, c_1], by simp [sHold, c_1]⟩, xB_end hP hK hN hD ht hW⟩, hS.F ht⟩) hS.2.2 dX2_hold_46
  · skip
    refine lv_aload_n hx hb dX2_hold_10 rfl (lv_at hl 0 rfl) ?_
    refine va_get (D := D) (ci := 2) (v := .int hd) (C := RX2) (T := TX2) (N := 14) hx hb hts (by decide +kernel) hown hK hP 0 rfl rfl 10 (by decide) (hts _ hm2) (fun _ h9 => h9) rfl dX2_hold_11 ?_
    refine lv_if_ne (tgt := 26) hx hb dX2_hold_14 (by decide) (fun c_3 => ?_) (fun c_3 => ?_)
    · skip
      refine lv_iconst (v := 1) hx hb dX2_hold_26 (by decide) ?_
      refine lv_goto (tgt := 31) hx hb dX2_hold_27 (by decide) ?_
      refine va_put (D := D) (ci := 2) (v := .int 1) (ty := .boolean) (C := RX2) (T := TX2) (N := 14) hx hb hts (by decide +kernel) tyX2 tyX2_ok nmX2 hown hK hP hD hS 0 rfl rfl 10 (by decide) (hts _ hm2) (fun _ h9 => h9) rfl (by decide +kernel) rfl rfl (Nat.le_of_ble_eq_true rfl) dX2_hold_31 (fun H locs hP hD hS => ?_)
      replace hP : va_P D vwCl (mw m0 a C 0 (nI n) sp lo ph pr bo mo rf gr 1 st ch rs) H := hP
      replace hD : va_D A (mw m0 a C 0 (nI n) sp lo ph pr bo mo rf gr 1 st ch rs) := hD
      refine lv_aload_n hx hb dX2_hold_34 rfl (lv_at hl 0 rfl) ?_
      refine va_get (D := D) (ci := 2) (v := .int 1) (C := RX2) (T := TX2) (N := 14) hx hb hts (by decide +kernel) hown hK hP 0 rfl rfl 10 (by decide) (hts _ hm2) (fun _ h9 => h9) rfl dX2_hold_35 ?_
      refine lv_if_eq (tgt := 45) hx hb dX2_hold_38 (by decide) (fun c_4 => absurd c_4 (by decide)) (fun c_4 => ?_)
      refine lv_iconst (v := 1) hx hb dX2_hold_41 (by decide) ?_
      refine lv_goto (tgt := 46) hx hb dX2_hold_42 (by decide) ?_
      exact W.iret (v := 1) hx hb hr (fun t ht hW => ⟨⟨_, (0, 1), rfl, ⟨by simp [sHold, c_1, c_3], by simp [sHold, c_1, c_3], by simp [sHold, c_1, c_3]⟩, xB_end hP hK hN hD ht hW⟩, hS.F ht⟩) hS.2.2 dX2_hold_46
    · skip
      refine lv_aload_n hx hb dX2_hold_17 rfl (lv_at hl 0 rfl) ?_
      refine va_get (D := D) (ci := 2) (v := .long rf) (C := RX2) (T := TX2) (N := 14) hx hb hts (by decide +kernel) hown hK hP 0 rfl rfl 8 (by decide) (hts _ hm3) (fun _ h9 => h9) rfl dX2_hold_18 ?_
      refine lv_lconst (v := 0) hx hb dX2_hold_21 (by decide) ?_
      refine W.lcmp hx hb dX2_hold_22 ?_
      refine lv_if_ne (tgt := 30) hx hb dX2_hold_23 (by decide) (fun c_5 => ?_) (fun c_5 => ?_)
      · skip
        replace c_5 := mt (lg_cmp_eq _ _).mpr c_5
        refine lv_iconst (v := 0) hx hb dX2_hold_30 (by decide) ?_
        refine va_put (D := D) (ci := 2) (v := .int 0) (ty := .boolean) (C := RX2) (T := TX2) (N := 14) hx hb hts (by decide +kernel) tyX2 tyX2_ok nmX2 hown hK hP hD hS 0 rfl rfl 10 (by decide) (hts _ hm2) (fun _ h9 => h9) rfl (by decide +kernel) rfl rfl (Nat.le_of_ble_eq_true rfl) dX2_hold_31 (fun H locs hP hD hS => ?_)
        replace hP : va_P D vwCl (mw m0 a C 0 (nI n) sp lo ph pr bo mo rf gr 0 st ch rs) H := hP
        replace hD : va_D A (mw m0 a C 0 (nI n) sp lo ph pr bo mo rf gr 0 st ch rs) := hD
        refine lv_aload_n hx hb dX2_hold_34 rfl (lv_at hl 0 rfl) ?_
        refine va_get (D := D) (ci := 2) (v := .int 0) (C := RX2) (T := TX2) (N := 14) hx hb hts (by decide +kernel) hown hK hP 0 rfl rfl 10 (by decide) (hts _ hm2) (fun _ h9 => h9) rfl dX2_hold_35 ?_
        refine lv_if_eq (tgt := 45) hx hb dX2_hold_38 (by decide) (fun c_6 => ?_) (fun c_6 => absurd (by decide) c_6)
        refine lv_iconst (v := 0) hx hb dX2_hold_45 (by decide) ?_
        exact W.iret (v := 0) hx hb hr (fun t ht hW => ⟨⟨_, (0, 0), rfl, ⟨by simp [sHold, c_1, c_3, c_5], by simp [sHold, c_1, c_3, c_5], by simp [sHold, c_1, c_3, c_5]⟩, xB_end hP hK hN hD ht hW⟩, hS.F ht⟩) hS.2.2 dX2_hold_46
      · skip
        replace c_5 := (lg_cmp_eq _ _).mp c_5
        refine lv_iconst (v := 1) hx hb dX2_hold_26 (by decide) ?_
        refine lv_goto (tgt := 31) hx hb dX2_hold_27 (by decide) ?_
        refine va_put (D := D) (ci := 2) (v := .int 1) (ty := .boolean) (C := RX2) (T := TX2) (N := 14) hx hb hts (by decide +kernel) tyX2 tyX2_ok nmX2 hown hK hP hD hS 0 rfl rfl 10 (by decide) (hts _ hm2) (fun _ h9 => h9) rfl (by decide +kernel) rfl rfl (Nat.le_of_ble_eq_true rfl) dX2_hold_31 (fun H locs hP hD hS => ?_)
        replace hP : va_P D vwCl (mw m0 a C 0 (nI n) sp lo ph pr bo mo rf gr 1 st ch rs) H := hP
        replace hD : va_D A (mw m0 a C 0 (nI n) sp lo ph pr bo mo rf gr 1 st ch rs) := hD
        refine lv_aload_n hx hb dX2_hold_34 rfl (lv_at hl 0 rfl) ?_
        refine va_get (D := D) (ci := 2) (v := .int 1) (C := RX2) (T := TX2) (N := 14) hx hb hts (by decide +kernel) hown hK hP 0 rfl rfl 10 (by decide) (hts _ hm2) (fun _ h9 => h9) rfl dX2_hold_35 ?_
        refine lv_if_eq (tgt := 45) hx hb dX2_hold_38 (by decide) (fun c_7 => absurd c_7 (by decide)) (fun c_7 => ?_)
        refine lv_iconst (v := 1) hx hb dX2_hold_41 (by decide) ?_
        refine lv_goto (tgt := 46) hx hb dX2_hold_42 (by decide) ?_
        exact W.iret (v := 1) hx hb hr (fun t ht hW => ⟨⟨_, (0, 1), rfl, ⟨by simp [sHold, c_1, c_3, c_5], by simp [sHold, c_1, c_3, c_5], by simp [sHold, c_1, c_3, c_5]⟩, xB_end hP hK hN hD ht hW⟩, hS.F ht⟩) hS.2.2 dX2_hold_46
set_option maxHeartbeats 4000000 in
set_option maxRecDepth 100000 in
/-- wish -/
theorem m2_wish (l : Launch) (D : va_G) (m0 : Nat) (a : Nat → Nat) (C : Nat → ClassId) (n : Nat) (th : Int32) (sp : Nat → Int64) (lo ph : Nat → Int32) (pr bo : Nat → Int64) (mo : Nat → UInt64) (rf : Int64) (gr hd st ch rs : Int32) (hn : n ≤ 8) (gw : Int32) (sz : Nat) : Met l yX2_wish wsX2_wish ({ frames := 1, cells := 0, slots := 0, locals := 22 }) (va_Pc [.ref m0, .int gw] (xW D [(C 1, .long), (C 2, .boolean), (C 3, .int), (C 4, .long), (C 5, .long), (C 6, .double)] (mw m0 a C th (nI n) sp lo ph pr bo mo rf gr hd st ch rs) sz)) (va_Qi (fun (r : Int32) (u : (Int32) × (Int32) × (Int32) × (Int32)) => r = sWish gw rf ∧ u.1 = 0 ∧ u.2.1 = (if sWish gw rf = 1 then gw else gr) ∧ u.2.2.1 = (if sWish gw rf = 1 then st else ch) ∧ u.2.2.2 = (if sWish gw rf = 1 then 10 else rs)) (fun (u : (Int32) × (Int32) × (Int32) × (Int32)) => xB D [(C 1, .long), (C 2, .boolean), (C 3, .int), (C 4, .long), (C 5, .long), (C 6, .double)] (va_A (mw m0 a C th (nI n) sp lo ph pr bo mo rf gr hd st ch rs) sz) (mw m0 a C u.1 (nI n) sp lo ph pr bo mo rf u.2.1 hd st u.2.2.1 u.2.2.2)) (va_A (mw m0 a C th (nI n) sp lo ph pr bo mo rf gr hd st ch rs) sz)) 0 0 (va_A (mw m0 a C th (nI n) sp lo ph pr bo mo rf gr hd st ch rs) sz) := by
  refine Met.ofW (cc := cX2_wish) (maxL := 2) (ret := (some .int)) (by decide) rfl ?_
  intro p e s m args below meth c s₁ B hml hv
  obtain ⟨rfl, hsz, ⟨hP, hK, hN⟩, hDt⟩ := hv
  have hx := B.exec
  have hb := B.bytes
  have hr := B.returns
  have hts := atoms_spec (ws := wsX2_wish) B.pre
  have hown : s.vm.findClass RX2 = some m.cls := findClass_of_methodNamed B.named
  have hlocks := B.notSynchronized
  have hm1 : (.fieldLink RX2 40 "GearBrakeModel" "thrown" "I" : Cond) ∈ wsX2_wish := by decide +kernel
  have hm2 : (.fieldLink RX2 53 "GearBrakeModel" "reference" "J" : Cond) ∈ wsX2_wish := by decide +kernel
  have hm3 : (.constantLong RX2 94 (20) : Cond) ∈ wsX2_wish := by decide +kernel
  have hm4 : (.constantLong RX2 63 (10) : Cond) ∈ wsX2_wish := by decide +kernel
  have hm5 : (.constantLong RX2 71 (30) : Cond) ∈ wsX2_wish := by decide +kernel
  subst hsz
  have hD := hDt.self (sz := s.heap.size)
  generalize hAe : va_A (mw m0 a C th (nI n) sp lo ph pr bo mo rf gr hd st ch rs) s.heap.size = A at hD ⊢
  have hA : ∀ q : Nat, s.heap.size ≤ q → A q := fun q h => by rw [← hAe]; exact Or.inr h
  have hS : va_S A s.heap s.heap [] := va_S.rf
  have hl := lv_entry ([.ref m0, .int gw]) (n := 2) (Nat.le_of_ble_eq_true rfl)
  rw [lg_entry_eq]
  generalize (lg_sl ([.ref m0, .int gw]) ++ List.replicate (2 - (lg_sl ([.ref m0, .int gw])).length) Slot.unset).toArray = ls at hl ⊢
  replace hl : lv_has ls 2 [(0, .ref m0), (1, .int gw)] := hl
  refine lv_aload_n hx hb dX2_wish_0 rfl (lv_at hl 0 rfl) ?_
  refine lv_iconst (v := 0) hx hb dX2_wish_1 (by decide) ?_
  refine va_put (D := D) (ci := 2) (v := .int 0) (ty := .int) (C := RX2) (T := TX2) (N := 14) hx hb hts (by decide +kernel) tyX2 tyX2_ok nmX2 hown hK hP hD hS 0 rfl rfl 0 (by decide) (hts _ hm1) (fun _ h9 => h9) rfl (by decide +kernel) rfl rfl (Nat.le_of_ble_eq_true rfl) dX2_wish_2 (fun H locs hP hD hS => ?_)
  replace hP : va_P D vwCl (mw m0 a C 0 (nI n) sp lo ph pr bo mo rf gr hd st ch rs) H := hP
  replace hD : va_D A (mw m0 a C 0 (nI n) sp lo ph pr bo mo rf gr hd st ch rs) := hD
  refine lv_iload_n hx hb dX2_wish_5 rfl (lv_at hl 1 rfl) ?_
  refine lv_iconst (v := 1) hx hb dX2_wish_6 (by decide) ?_
  refine lv_icmp_lt (tgt := 16) hx hb dX2_wish_7 (by decide) (fun c_1 => ?_) (fun c_1 => ?_)
  · skip
    refine lv_bipush (v := (-2)) hx hb dX2_wish_16 (by decide) ?_
    exact W.iret (v := (-2)) hx hb hr (fun t ht hW => ⟨⟨_, (0, gr, ch, rs), rfl, ⟨by simp [sWish, c_1], by simp [sWish, c_1], by simp [sWish, c_1], by simp [sWish, c_1], by simp [sWish, c_1]⟩, xB_end hP hK hN hD ht hW⟩, hS.F ht⟩) hS.2.2 dX2_wish_18
  · skip
    refine lv_iload_n hx hb dX2_wish_10 rfl (lv_at hl 1 rfl) ?_
    refine lv_bipush (v := 6) hx hb dX2_wish_11 (by decide) ?_
    refine lv_icmp_le (tgt := 19) hx hb dX2_wish_13 (by decide) (fun c_2 => ?_) (fun c_2 => ?_)
    · skip
      replace c_2 := i32_nlt c_2
      refine lv_aload_n hx hb dX2_wish_19 rfl (lv_at hl 0 rfl) ?_
      refine va_get (D := D) (ci := 2) (v := .long rf) (C := RX2) (T := TX2) (N := 14) hx hb hts (by decide +kernel) hown hK hP 0 rfl rfl 8 (by decide) (hts _ hm2) (fun _ h9 => h9) rfl dX2_wish_20 ?_
      refine lv_ldc2 hx hb hown (hts _ hm3) dX2_wish_23 ?_
      refine lv_iload_n hx hb dX2_wish_26 rfl (lv_at hl 1 rfl) ?_
      refine lv_iconst (v := 1) hx hb dX2_wish_27 (by decide) ?_
      refine lv_isub hx hb dX2_wish_28 ?_
      refine lv_i2l hx hb dX2_wish_29 rfl ?_
      refine lv_lmul hx hb dX2_wish_30 ?_
      refine lv_ldc2 hx hb hown (hts _ hm4) dX2_wish_31 ?_
      refine lv_lsub hx hb dX2_wish_34 ?_
      refine W.lcmp hx hb dX2_wish_35 ?_
      refine lv_if_lt (tgt := 57) hx hb dX2_wish_36 (by decide) (fun c_3 => ?_) (fun c_3 => ?_)
      · skip
        replace c_3 := (lg_cmp_lt _ _).mp c_3
        refine lv_iconst (v := 0) hx hb dX2_wish_57 (by decide) ?_
        exact W.iret (v := 0) hx hb hr (fun t ht hW => ⟨⟨_, (0, gr, ch, rs), rfl, ⟨by simp [sWish, c_1, c_2, c_3], by simp [sWish, c_1, c_2, c_3], by simp [sWish, c_1, c_2, c_3], by simp [sWish, c_1, c_2, c_3], by simp [sWish, c_1, c_2, c_3]⟩, xB_end hP hK hN hD ht hW⟩, hS.F ht⟩) hS.2.2 dX2_wish_58
      · skip
        replace c_3 := mt (lg_cmp_lt _ _).mpr c_3
        refine lv_aload_n hx hb dX2_wish_39 rfl (lv_at hl 0 rfl) ?_
        refine va_get (D := D) (ci := 2) (v := .long rf) (C := RX2) (T := TX2) (N := 14) hx hb hts (by decide +kernel) hown hK hP 0 rfl rfl 8 (by decide) (hts _ hm2) (fun _ h9 => h9) rfl dX2_wish_40 ?_
        refine lv_ldc2 hx hb hown (hts _ hm3) dX2_wish_43 ?_
        refine lv_iload_n hx hb dX2_wish_46 rfl (lv_at hl 1 rfl) ?_
        refine lv_i2l hx hb dX2_wish_47 rfl ?_
        refine lv_lmul hx hb dX2_wish_48 ?_
        refine lv_ldc2 hx hb hown (hts _ hm5) dX2_wish_49 ?_
        refine lv_ladd hx hb dX2_wish_52 ?_
        refine W.lcmp hx hb dX2_wish_53 ?_
        refine lv_if_le (tgt := 59) hx hb dX2_wish_54 (by decide) (fun c_4 => ?_) (fun c_4 => ?_)
        · skip
          replace c_4 := (lg_cmp_le _ _).mp c_4
          replace c_4 := i64_nlt c_4
          refine lv_aload_n hx hb dX2_wish_59 rfl (lv_at hl 0 rfl) ?_
          refine lv_iload_n hx hb dX2_wish_60 rfl (lv_at hl 1 rfl) ?_
          refine lv_bipush (v := 10) hx hb dX2_wish_61 (by decide) ?_
          have hF := xF hD hS hA
          refine va_callv (va_runV (As := [.int gw, .int 10]) (rest := []) ⟨hx, hb, hml, hown, hts⟩ (m2_turn l D m0 a C n 0 sp lo ph pr bo mo rf gr hd st ch rs hn gw 10 _) (cwV 2 hts gX2_wish_X2_turn rfl rfl rfl (by decide +kernel) ⟨Nat.le_of_ble_eq_true rfl, Nat.le_of_ble_eq_true rfl⟩) ⟨xW_blind, va_recv hK hP (ci := 2) (q0 := 0) rfl rfl, xW_at hP hK hN hD⟩ rfl rfl hl.1 rfl (lv_room (Nat.le_of_ble_eq_true rfl)) dX2_wish_63 ⟨Nat.le_of_ble_eq_true rfl, Nat.le_of_ble_eq_true rfl⟩) hS (fun q _ h => hF q h) hF (fun u t H locs ht hvm hpo hB hz1 hk1 hS => ?_)
          obtain ⟨hP, hD⟩ := xB_use hB ht hF
          obtain ⟨u1, u2, u3⟩ := u
          dsimp only at hpo hP hD
          rw [hpo.1, hpo.2.1, hpo.2.2] at hP hD
          clear hB hk1 hz1 ht hvm
          replace hP : va_P D vwCl (mw m0 a C 0 (nI n) sp lo ph pr bo mo rf gw hd st st 10) H := hP
          replace hD : va_D A (mw m0 a C 0 (nI n) sp lo ph pr bo mo rf gw hd st st 10) := hD
          refine lv_iconst (v := 1) hx hb dX2_wish_66 (by decide) ?_
          exact W.iret (v := 1) hx hb hr (fun t ht hW => ⟨⟨_, (0, gw, st, 10), rfl, ⟨by simp [sWish, c_1, c_2, c_3, c_4], by simp [sWish, c_1, c_2, c_3, c_4], by simp [sWish, c_1, c_2, c_3, c_4], by simp [sWish, c_1, c_2, c_3, c_4], by simp [sWish, c_1, c_2, c_3, c_4]⟩, xB_end hP hK hN hD ht hW⟩, hS.F ht⟩) hS.2.2 dX2_wish_67
        · skip
          replace c_4 := mt (lg_cmp_le _ _).mpr c_4
          replace c_4 := i64_lt c_4
          refine lv_iconst (v := 0) hx hb dX2_wish_57 (by decide) ?_
          exact W.iret (v := 0) hx hb hr (fun t ht hW => ⟨⟨_, (0, gr, ch, rs), rfl, ⟨by simp [sWish, c_1, c_2, c_3, c_4], by simp [sWish, c_1, c_2, c_3, c_4], by simp [sWish, c_1, c_2, c_3, c_4], by simp [sWish, c_1, c_2, c_3, c_4], by simp [sWish, c_1, c_2, c_3, c_4]⟩, xB_end hP hK hN hD ht hW⟩, hS.F ht⟩) hS.2.2 dX2_wish_58
    · skip
      replace c_2 := i32_lt c_2
      refine lv_bipush (v := (-2)) hx hb dX2_wish_16 (by decide) ?_
      exact W.iret (v := (-2)) hx hb hr (fun t ht hW => ⟨⟨_, (0, gr, ch, rs), rfl, ⟨by simp [sWish, c_1, c_2], by simp [sWish, c_1, c_2], by simp [sWish, c_1, c_2], by simp [sWish, c_1, c_2], by simp [sWish, c_1, c_2]⟩, xB_end hP hK hN hD ht hW⟩, hS.F ht⟩) hS.2.2 dX2_wish_18
set_option maxHeartbeats 4000000 in
set_option maxRecDepth 100000 in
/-- yaw -/
theorem m2_yaw (l : Launch) (D : va_G) (m0 : Nat) (a : Nat → Nat) (C : Nat → ClassId) (n : Nat) (th : Int32) (sp : Nat → Int64) (lo ph : Nat → Int32) (pr bo : Nat → Int64) (mo : Nat → UInt64) (rf : Int64) (gr hd st ch rs : Int32) (hn : n ≤ 8) (a1 b1 : Int64) (sz : Nat) : Met l yX2_yaw wsX2_yaw ({ frames := 1, cells := 0, slots := 0, locals := 22 }) (va_Pc [.ref m0, .long a1, .long b1] (xW D [(C 1, .long), (C 2, .boolean), (C 3, .int), (C 4, .long), (C 5, .long), (C 6, .double)] (mw m0 a C th (nI n) sp lo ph pr bo mo rf gr hd st ch rs) sz)) (va_Qi (fun (r : Int32) (u : (Int32) × (Nat → Int64)) => r = sYaw a1 b1 (mApart a1 b1) (cnt lo n) ∧ u.1 = 0 ∧ u.2 = gYaw mMin a1 b1 (mApart a1 b1) (cnt lo n) pr bo) (fun (u : (Int32) × (Nat → Int64)) => xB D [(C 1, .long), (C 2, .boolean), (C 3, .int), (C 4, .long), (C 5, .long), (C 6, .double)] (va_A (mw m0 a C th (nI n) sp lo ph pr bo mo rf gr hd st ch rs) sz) (mw m0 a C u.1 (nI n) sp lo ph u.2 bo mo rf gr hd st ch rs)) (va_A (mw m0 a C th (nI n) sp lo ph pr bo mo rf gr hd st ch rs) sz)) 0 0 (va_A (mw m0 a C th (nI n) sp lo ph pr bo mo rf gr hd st ch rs) sz) := by
  refine Met.ofW (cc := cX2_yaw) (maxL := 8) (ret := (some .int)) (by decide) rfl ?_
  intro p e s m args below meth c s₁ B hml hv
  obtain ⟨rfl, hsz, ⟨hP, hK, hN⟩, hDt⟩ := hv
  have hx := B.exec
  have hb := B.bytes
  have hr := B.returns
  have hts := atoms_spec (ws := wsX2_yaw) B.pre
  have hown : s.vm.findClass RX2 = some m.cls := findClass_of_methodNamed B.named
  have hlocks := B.notSynchronized
  have hm1 : (.fieldLink RX2 40 "GearBrakeModel" "thrown" "I" : Cond) ∈ wsX2_yaw := by decide +kernel
  have hm2 : (.constantLong RX2 108 (-1000) : Cond) ∈ wsX2_yaw := by decide +kernel
  have hm3 : (.constantLong RX2 47 (1000) : Cond) ∈ wsX2_yaw := by decide +kernel
  have hm4 : (.constantLong RX2 94 (20) : Cond) ∈ wsX2_yaw := by decide +kernel
  have hm5 : (.fieldLink RX2 21 "GearBrakeModel" "pressures" "[J" : Cond) ∈ wsX2_yaw := by decide +kernel
  have hm6 : (.fieldLink RX2 24 "GearBrakeModel" "bounds" "[J" : Cond) ∈ wsX2_yaw := by decide +kernel
  subst hsz
  have hD := hDt.self (sz := s.heap.size)
  generalize hAe : va_A (mw m0 a C th (nI n) sp lo ph pr bo mo rf gr hd st ch rs) s.heap.size = A at hD ⊢
  have hA : ∀ q : Nat, s.heap.size ≤ q → A q := fun q h => by rw [← hAe]; exact Or.inr h
  have hS : va_S A s.heap s.heap [] := va_S.rf
  have hl := lv_entry ([.ref m0, .long a1, .long b1]) (n := 8) (Nat.le_of_ble_eq_true rfl)
  rw [lg_entry_eq]
  generalize (lg_sl ([.ref m0, .long a1, .long b1]) ++ List.replicate (8 - (lg_sl ([.ref m0, .long a1, .long b1])).length) Slot.unset).toArray = ls at hl ⊢
  replace hl : lv_has ls 8 [(0, .ref m0), (1, .long a1), (3, .long b1)] := hl
  refine lv_aload_n hx hb dX2_yaw_0 rfl (lv_at hl 0 rfl) ?_
  refine lv_iconst (v := 0) hx hb dX2_yaw_1 (by decide) ?_
  refine va_put (D := D) (ci := 2) (v := .int 0) (ty := .int) (C := RX2) (T := TX2) (N := 14) hx hb hts (by decide +kernel) tyX2 tyX2_ok nmX2 hown hK hP hD hS 0 rfl rfl 0 (by decide) (hts _ hm1) (fun _ h9 => h9) rfl (by decide +kernel) rfl rfl (Nat.le_of_ble_eq_true rfl) dX2_yaw_2 (fun H locs hP hD hS => ?_)
  replace hP : va_P D vwCl (mw m0 a C 0 (nI n) sp lo ph pr bo mo rf gr hd st ch rs) H := hP
  replace hD : va_D A (mw m0 a C 0 (nI n) sp lo ph pr bo mo rf gr hd st ch rs) := hD
  refine lv_lload_n hx hb dX2_yaw_5 rfl (lv_at hl 1 rfl) ?_
  refine lv_ldc2 hx hb hown (hts _ hm2) dX2_yaw_6 ?_
  refine W.lcmp hx hb dX2_yaw_9 ?_
  refine lv_if_lt (tgt := 37) hx hb dX2_yaw_10 (by decide) (fun c_1 => ?_) (fun c_1 => ?_)
  · skip
    replace c_1 := (lg_cmp_lt _ _).mp c_1
    refine lv_bipush (v := (-2)) hx hb dX2_yaw_37 (by decide) ?_
    exact W.iret (v := (-2)) hx hb hr (fun t ht hW => ⟨⟨_, (0, pr), rfl, ⟨by simp [sYaw, gYaw, mApart, fBadY, mMin, c_1], by simp [sYaw, gYaw, mApart, fBadY, mMin, c_1], by simp [sYaw, gYaw, mApart, fBadY, mMin, c_1]⟩, xB_end hP hK hN hD ht hW⟩, hS.F ht⟩) hS.2.2 dX2_yaw_39
  · skip
    replace c_1 := mt (lg_cmp_lt _ _).mpr c_1
    refine lv_lload_n hx hb dX2_yaw_13 rfl (lv_at hl 1 rfl) ?_
    refine lv_ldc2 hx hb hown (hts _ hm3) dX2_yaw_14 ?_
    refine W.lcmp hx hb dX2_yaw_17 ?_
    refine lv_if_gt (tgt := 37) hx hb dX2_yaw_18 (by decide) (fun c_2 => ?_) (fun c_2 => ?_)
    · skip
      replace c_2 := (lg_cmp_gt _ _).mp c_2
      refine lv_bipush (v := (-2)) hx hb dX2_yaw_37 (by decide) ?_
      exact W.iret (v := (-2)) hx hb hr (fun t ht hW => ⟨⟨_, (0, pr), rfl, ⟨by simp [sYaw, gYaw, mApart, fBadY, mMin, c_1, c_2], by simp [sYaw, gYaw, mApart, fBadY, mMin, c_1, c_2], by simp [sYaw, gYaw, mApart, fBadY, mMin, c_1, c_2]⟩, xB_end hP hK hN hD ht hW⟩, hS.F ht⟩) hS.2.2 dX2_yaw_39
    · skip
      replace c_2 := mt (lg_cmp_gt _ _).mpr c_2
      refine lv_lload_n hx hb dX2_yaw_21 rfl (lv_at hl 2 rfl) ?_
      refine lv_ldc2 hx hb hown (hts _ hm2) dX2_yaw_22 ?_
      refine W.lcmp hx hb dX2_yaw_25 ?_
      refine lv_if_lt (tgt := 37) hx hb dX2_yaw_26 (by decide) (fun c_3 => ?_) (fun c_3 => ?_)
      · skip
        replace c_3 := (lg_cmp_lt _ _).mp c_3
        refine lv_bipush (v := (-2)) hx hb dX2_yaw_37 (by decide) ?_
        exact W.iret (v := (-2)) hx hb hr (fun t ht hW => ⟨⟨_, (0, pr), rfl, ⟨by simp [sYaw, gYaw, mApart, fBadY, mMin, c_1, c_2, c_3], by simp [sYaw, gYaw, mApart, fBadY, mMin, c_1, c_2, c_3], by simp [sYaw, gYaw, mApart, fBadY, mMin, c_1, c_2, c_3]⟩, xB_end hP hK hN hD ht hW⟩, hS.F ht⟩) hS.2.2 dX2_yaw_39
      · skip
        replace c_3 := mt (lg_cmp_lt _ _).mpr c_3
        refine lv_lload_n hx hb dX2_yaw_29 rfl (lv_at hl 2 rfl) ?_
        refine lv_ldc2 hx hb hown (hts _ hm3) dX2_yaw_30 ?_
        refine W.lcmp hx hb dX2_yaw_33 ?_
        refine lv_if_le (tgt := 40) hx hb dX2_yaw_34 (by decide) (fun c_4 => ?_) (fun c_4 => ?_)
        · skip
          replace c_4 := (lg_cmp_le _ _).mp c_4
          replace c_4 := i64_nlt c_4
          refine lv_lload_n hx hb dX2_yaw_40 rfl (lv_at hl 1 rfl) ?_
          refine lv_lload_n hx hb dX2_yaw_41 rfl (lv_at hl 2 rfl) ?_
          refine W.lcmp hx hb dX2_yaw_42 ?_
          refine lv_if_le (tgt := 52) hx hb dX2_yaw_43 (by decide) (fun c_5 => ?_) (fun c_5 => ?_)
          · skip
            replace c_5 := (lg_cmp_le _ _).mp c_5
            refine lv_lload_n hx hb dX2_yaw_52 rfl (lv_at hl 2 rfl) ?_
            refine lv_lload_n hx hb dX2_yaw_53 rfl (lv_at hl 1 rfl) ?_
            refine lv_lsub hx hb dX2_yaw_54 ?_
            refine lv_lstore (lv' := [(5, .long (b1 - a1)), (0, .ref m0), (1, .long a1), (3, .long b1)]) hx hb dX2_yaw_55 hl (by decide) rfl (fun ls hl => ?_)
            refine lv_lload hx hb dX2_yaw_57 (lv_at hl 0 rfl) ?_
            refine lv_ldc2 hx hb hown (hts _ hm4) dX2_yaw_59 ?_
            refine W.lcmp hx hb dX2_yaw_62 ?_
            refine lv_if_le (tgt := 73) hx hb dX2_yaw_63 (by decide) (fun c_6 => ?_) (fun c_6 => ?_)
            · skip
              replace c_6 := (lg_cmp_le _ _).mp c_6
              refine lv_iconst (v := 0) hx hb dX2_yaw_73 (by decide) ?_
              exact W.iret (v := 0) hx hb hr (fun t ht hW => ⟨⟨_, (0, pr), rfl, ⟨by simp [sYaw, gYaw, mApart, fBadY, mMin, c_1, c_2, c_3, c_4, c_5, c_6], by simp [sYaw, gYaw, mApart, fBadY, mMin, c_1, c_2, c_3, c_4, c_5, c_6], by simp [sYaw, gYaw, mApart, fBadY, mMin, c_1, c_2, c_3, c_4, c_5, c_6]⟩, xB_end hP hK hN hD ht hW⟩, hS.F ht⟩) hS.2.2 dX2_yaw_74
            · skip
              replace c_6 := mt (lg_cmp_le _ _).mpr c_6
              refine lv_aload_n hx hb dX2_yaw_66 rfl (lv_at hl 1 rfl) ?_
              refine vp_callSi (W.runV (As := []) (rest := []) ⟨hx, hb, hml, hown, hts⟩ (m2_lostOnes l D m0 a C n 0 sp lo ph pr bo mo rf gr hd st ch rs hn) (cwV 0 hts gX2_yaw_X2_lostOnes rfl rfl rfl (by decide +kernel) ⟨Nat.le_of_ble_eq_true rfl, Nat.le_of_ble_eq_true rfl⟩) ⟨xP_blind, va_recv hK hP (ci := 2) (q0 := 0) rfl rfl, xP_at hP hK hN⟩ rfl rfl hl.1 rfl (lv_room (Nat.le_of_ble_eq_true rfl)) dX2_yaw_67 ⟨Nat.le_of_ble_eq_true rfl, Nat.le_of_ble_eq_true rfl⟩) (fun r_7 hr_8 => ?_)
              subst hr_8
              refine lv_if_le (tgt := 75) hx hb dX2_yaw_70 (by decide) (fun c_9 => ?_) (fun c_9 => ?_)
              · skip
                refine lv_lload_n hx hb dX2_yaw_75 rfl (lv_at hl 2 rfl) ?_
                refine lv_lload_n hx hb dX2_yaw_76 rfl (lv_at hl 3 rfl) ?_
                refine W.lcmp hx hb dX2_yaw_77 ?_
                refine lv_if_le (tgt := 85) hx hb dX2_yaw_78 (by decide) (fun c_10 => ?_) (fun c_10 => absurd ((lg_cmp_le _ _).mpr c_5) c_10)
                refine lv_iconst (v := 1) hx hb dX2_yaw_85 (by decide) ?_
                refine lv_istore (lv' := [(7, .int 1), (5, .long (b1 - a1)), (0, .ref m0), (1, .long a1), (3, .long b1)]) hx hb dX2_yaw_86 hl (by decide) rfl (fun ls hl => ?_)
                refine lv_aload_n hx hb dX2_yaw_88 rfl (lv_at hl 2 rfl) ?_
                refine va_get (D := D) (ci := 2) (v := .ref (a 4)) (C := RX2) (T := TX2) (N := 14) hx hb hts (by decide +kernel) hown hK hP 0 rfl rfl 5 (by decide) (hts _ hm5) (fun _ h9 => h9) rfl dX2_yaw_89 ?_
                refine lv_iload hx hb dX2_yaw_92 (lv_at hl 0 rfl) ?_
                refine lv_aload_n hx hb dX2_yaw_94 rfl (lv_at hl 2 rfl) ?_
                refine va_get (D := D) (ci := 2) (v := .ref (a 4)) (C := RX2) (T := TX2) (N := 14) hx hb hts (by decide +kernel) hown hK hP 0 rfl rfl 5 (by decide) (hts _ hm5) (fun _ h9 => h9) rfl dX2_yaw_95 ?_
                refine lv_iload hx hb dX2_yaw_98 (lv_at hl 0 rfl) ?_
                refine va_lald (D := D) (f := pr) hx hb hK hP 4 3 rfl rfl vp_1 dX2_yaw_100 ?_
                refine W.eq (g2 := F0 m 101 ls [.long (pr 1), .int 1, .ref (a 4)]) (by rw [show (1 : Int32).toNatClampNeg = 1 from rfl]) ?_
                refine lv_ldc2 hx hb hown (hts _ hm4) dX2_yaw_101 ?_
                refine lv_ladd hx hb dX2_yaw_104 ?_
                refine lv_aload_n hx hb dX2_yaw_105 rfl (lv_at hl 2 rfl) ?_
                refine va_get (D := D) (ci := 2) (v := .ref (a 5)) (C := RX2) (T := TX2) (N := 14) hx hb hts (by decide +kernel) hown hK hP 0 rfl rfl 6 (by decide) (hts _ hm6) (fun _ h9 => h9) rfl dX2_yaw_106 ?_
                refine lv_iload hx hb dX2_yaw_109 (lv_at hl 0 rfl) ?_
                refine va_lald (D := D) (f := bo) hx hb hK hP 5 4 rfl rfl vp_1 dX2_yaw_111 ?_
                refine W.eq (g2 := F0 m 112 ls [.long (bo 1), .long ((pr 1) + 20), .int 1, .ref (a 4)]) (by rw [show (1 : Int32).toNatClampNeg = 1 from rfl]) ?_
                refine W.lcmp hx hb dX2_yaw_112 ?_
                refine lv_if_le (tgt := 126) hx hb dX2_yaw_113 (by decide) (fun c_11 => ?_) (fun c_11 => ?_)
                · skip
                  replace c_11 := (lg_cmp_le _ _).mp c_11
                  refine lv_aload_n hx hb dX2_yaw_126 rfl (lv_at hl 2 rfl) ?_
                  refine va_get (D := D) (ci := 2) (v := .ref (a 4)) (C := RX2) (T := TX2) (N := 14) hx hb hts (by decide +kernel) hown hK hP 0 rfl rfl 5 (by decide) (hts _ hm5) (fun _ h9 => h9) rfl dX2_yaw_127 ?_
                  refine lv_iload hx hb dX2_yaw_130 (lv_at hl 0 rfl) ?_
                  refine va_lald (D := D) (f := pr) hx hb hK hP 4 3 rfl rfl vp_1 dX2_yaw_132 ?_
                  refine W.eq (g2 := F0 m 133 ls [.long (pr 1), .int 1, .ref (a 4)]) (by rw [show (1 : Int32).toNatClampNeg = 1 from rfl]) ?_
                  refine lv_ldc2 hx hb hown (hts _ hm4) dX2_yaw_133 ?_
                  refine lv_ladd hx hb dX2_yaw_136 ?_
                  refine va_last (D := D) (f := pr) hx hb hK hP hD hS 4 3 rfl rfl vp_1 dX2_yaw_137 (fun H locs hP hD hS => ?_)
                  rw [show (1 : Int32).toNatClampNeg = 1 from rfl] at hP hD
                  replace hP : va_P D vwCl (mw m0 a C 0 (nI n) sp lo ph (va_up pr 1 ((pr 1) + 20)) bo mo rf gr hd st ch rs) H := hP
                  replace hD : va_D A (mw m0 a C 0 (nI n) sp lo ph (va_up pr 1 ((pr 1) + 20)) bo mo rf gr hd st ch rs) := hD
                  refine lv_iload hx hb dX2_yaw_138 (lv_at hl 0 rfl) ?_
                  exact W.iret (v := 1) hx hb hr (fun t ht hW => ⟨⟨_, (0, va_up pr 1 ((pr 1) + 20)), rfl, ⟨by simp [sYaw, gYaw, mApart, fBadY, mMin, c_1, c_2, c_3, c_4, c_5, c_6, c_9, c_11], by simp [sYaw, gYaw, mApart, fBadY, mMin, c_1, c_2, c_3, c_4, c_5, c_6, c_9, c_11], by simp [sYaw, gYaw, mApart, fBadY, mMin, c_1, c_2, c_3, c_4, c_5, c_6, c_9, c_11]⟩, xB_end hP hK hN hD ht hW⟩, hS.F ht⟩) hS.2.2 dX2_yaw_140
                · skip
                  replace c_11 := mt (lg_cmp_le _ _).mpr c_11
                  refine lv_aload_n hx hb dX2_yaw_116 rfl (lv_at hl 2 rfl) ?_
                  refine va_get (D := D) (ci := 2) (v := .ref (a 5)) (C := RX2) (T := TX2) (N := 14) hx hb hts (by decide +kernel) hown hK hP 0 rfl rfl 6 (by decide) (hts _ hm6) (fun _ h9 => h9) rfl dX2_yaw_117 ?_
                  refine lv_iload hx hb dX2_yaw_120 (lv_at hl 0 rfl) ?_
                  refine va_lald (D := D) (f := bo) hx hb hK hP 5 4 rfl rfl vp_1 dX2_yaw_122 ?_
                  refine W.eq (g2 := F0 m 123 ls [.long (bo 1), .int 1, .ref (a 4)]) (by rw [show (1 : Int32).toNatClampNeg = 1 from rfl]) ?_
                  refine lv_goto (tgt := 137) hx hb dX2_yaw_123 (by decide) ?_
                  refine va_last (D := D) (f := pr) hx hb hK hP hD hS 4 3 rfl rfl vp_1 dX2_yaw_137 (fun H locs hP hD hS => ?_)
                  rw [show (1 : Int32).toNatClampNeg = 1 from rfl] at hP hD
                  replace hP : va_P D vwCl (mw m0 a C 0 (nI n) sp lo ph (va_up pr 1 (bo 1)) bo mo rf gr hd st ch rs) H := hP
                  replace hD : va_D A (mw m0 a C 0 (nI n) sp lo ph (va_up pr 1 (bo 1)) bo mo rf gr hd st ch rs) := hD
                  refine lv_iload hx hb dX2_yaw_138 (lv_at hl 0 rfl) ?_
                  exact W.iret (v := 1) hx hb hr (fun t ht hW => ⟨⟨_, (0, va_up pr 1 (bo 1)), rfl, ⟨by simp [sYaw, gYaw, mApart, fBadY, mMin, c_1, c_2, c_3, c_4, c_5, c_6, c_9, c_11], by simp [sYaw, gYaw, mApart, fBadY, mMin, c_1, c_2, c_3, c_4, c_5, c_6, c_9, c_11], by simp [sYaw, gYaw, mApart, fBadY, mMin, c_1, c_2, c_3, c_4, c_5, c_6, c_9, c_11]⟩, xB_end hP hK hN hD ht hW⟩, hS.F ht⟩) hS.2.2 dX2_yaw_140
              · skip
                refine lv_iconst (v := 0) hx hb dX2_yaw_73 (by decide) ?_
                exact W.iret (v := 0) hx hb hr (fun t ht hW => ⟨⟨_, (0, pr), rfl, ⟨by simp [sYaw, gYaw, mApart, fBadY, mMin, c_1, c_2, c_3, c_4, c_5, c_6, c_9], by simp [sYaw, gYaw, mApart, fBadY, mMin, c_1, c_2, c_3, c_4, c_5, c_6, c_9], by simp [sYaw, gYaw, mApart, fBadY, mMin, c_1, c_2, c_3, c_4, c_5, c_6, c_9]⟩, xB_end hP hK hN hD ht hW⟩, hS.F ht⟩) hS.2.2 dX2_yaw_74
          · skip
            replace c_5 := mt (lg_cmp_le _ _).mpr c_5
            refine lv_lload_n hx hb dX2_yaw_46 rfl (lv_at hl 1 rfl) ?_
            refine lv_lload_n hx hb dX2_yaw_47 rfl (lv_at hl 2 rfl) ?_
            refine lv_lsub hx hb dX2_yaw_48 ?_
            refine lv_goto (tgt := 55) hx hb dX2_yaw_49 (by decide) ?_
            refine lv_lstore (lv' := [(5, .long (a1 - b1)), (0, .ref m0), (1, .long a1), (3, .long b1)]) hx hb dX2_yaw_55 hl (by decide) rfl (fun ls hl => ?_)
            refine lv_lload hx hb dX2_yaw_57 (lv_at hl 0 rfl) ?_
            refine lv_ldc2 hx hb hown (hts _ hm4) dX2_yaw_59 ?_
            refine W.lcmp hx hb dX2_yaw_62 ?_
            refine lv_if_le (tgt := 73) hx hb dX2_yaw_63 (by decide) (fun c_12 => ?_) (fun c_12 => ?_)
            · skip
              replace c_12 := (lg_cmp_le _ _).mp c_12
              refine lv_iconst (v := 0) hx hb dX2_yaw_73 (by decide) ?_
              exact W.iret (v := 0) hx hb hr (fun t ht hW => ⟨⟨_, (0, pr), rfl, ⟨by simp [sYaw, gYaw, mApart, fBadY, mMin, c_1, c_2, c_3, c_4, c_5, c_12], by simp [sYaw, gYaw, mApart, fBadY, mMin, c_1, c_2, c_3, c_4, c_5, c_12], by simp [sYaw, gYaw, mApart, fBadY, mMin, c_1, c_2, c_3, c_4, c_5, c_12]⟩, xB_end hP hK hN hD ht hW⟩, hS.F ht⟩) hS.2.2 dX2_yaw_74
            · skip
              replace c_12 := mt (lg_cmp_le _ _).mpr c_12
              refine lv_aload_n hx hb dX2_yaw_66 rfl (lv_at hl 1 rfl) ?_
              refine vp_callSi (W.runV (As := []) (rest := []) ⟨hx, hb, hml, hown, hts⟩ (m2_lostOnes l D m0 a C n 0 sp lo ph pr bo mo rf gr hd st ch rs hn) (cwV 0 hts gX2_yaw_X2_lostOnes rfl rfl rfl (by decide +kernel) ⟨Nat.le_of_ble_eq_true rfl, Nat.le_of_ble_eq_true rfl⟩) ⟨xP_blind, va_recv hK hP (ci := 2) (q0 := 0) rfl rfl, xP_at hP hK hN⟩ rfl rfl hl.1 rfl (lv_room (Nat.le_of_ble_eq_true rfl)) dX2_yaw_67 ⟨Nat.le_of_ble_eq_true rfl, Nat.le_of_ble_eq_true rfl⟩) (fun r_13 hr_14 => ?_)
              subst hr_14
              refine lv_if_le (tgt := 75) hx hb dX2_yaw_70 (by decide) (fun c_15 => ?_) (fun c_15 => ?_)
              · skip
                refine lv_lload_n hx hb dX2_yaw_75 rfl (lv_at hl 2 rfl) ?_
                refine lv_lload_n hx hb dX2_yaw_76 rfl (lv_at hl 3 rfl) ?_
                refine W.lcmp hx hb dX2_yaw_77 ?_
                refine lv_if_le (tgt := 85) hx hb dX2_yaw_78 (by decide) (fun c_16 => absurd ((lg_cmp_le _ _).mp c_16) c_5) (fun c_16 => ?_)
                refine lv_iconst (v := 2) hx hb dX2_yaw_81 (by decide) ?_
                refine lv_goto (tgt := 86) hx hb dX2_yaw_82 (by decide) ?_
                refine lv_istore (lv' := [(7, .int 2), (5, .long (a1 - b1)), (0, .ref m0), (1, .long a1), (3, .long b1)]) hx hb dX2_yaw_86 hl (by decide) rfl (fun ls hl => ?_)
                refine lv_aload_n hx hb dX2_yaw_88 rfl (lv_at hl 2 rfl) ?_
                refine va_get (D := D) (ci := 2) (v := .ref (a 4)) (C := RX2) (T := TX2) (N := 14) hx hb hts (by decide +kernel) hown hK hP 0 rfl rfl 5 (by decide) (hts _ hm5) (fun _ h9 => h9) rfl dX2_yaw_89 ?_
                refine lv_iload hx hb dX2_yaw_92 (lv_at hl 0 rfl) ?_
                refine lv_aload_n hx hb dX2_yaw_94 rfl (lv_at hl 2 rfl) ?_
                refine va_get (D := D) (ci := 2) (v := .ref (a 4)) (C := RX2) (T := TX2) (N := 14) hx hb hts (by decide +kernel) hown hK hP 0 rfl rfl 5 (by decide) (hts _ hm5) (fun _ h9 => h9) rfl dX2_yaw_95 ?_
                refine lv_iload hx hb dX2_yaw_98 (lv_at hl 0 rfl) ?_
                refine va_lald (D := D) (f := pr) hx hb hK hP 4 3 rfl rfl vp_2 dX2_yaw_100 ?_
                refine W.eq (g2 := F0 m 101 ls [.long (pr 2), .int 2, .ref (a 4)]) (by rw [show (2 : Int32).toNatClampNeg = 2 from rfl]) ?_
                refine lv_ldc2 hx hb hown (hts _ hm4) dX2_yaw_101 ?_
                refine lv_ladd hx hb dX2_yaw_104 ?_
                refine lv_aload_n hx hb dX2_yaw_105 rfl (lv_at hl 2 rfl) ?_
                refine va_get (D := D) (ci := 2) (v := .ref (a 5)) (C := RX2) (T := TX2) (N := 14) hx hb hts (by decide +kernel) hown hK hP 0 rfl rfl 6 (by decide) (hts _ hm6) (fun _ h9 => h9) rfl dX2_yaw_106 ?_
                refine lv_iload hx hb dX2_yaw_109 (lv_at hl 0 rfl) ?_
                refine va_lald (D := D) (f := bo) hx hb hK hP 5 4 rfl rfl vp_2 dX2_yaw_111 ?_
                refine W.eq (g2 := F0 m 112 ls [.long (bo 2), .long ((pr 2) + 20), .int 2, .ref (a 4)]) (by rw [show (2 : Int32).toNatClampNeg = 2 from rfl]) ?_
                refine W.lcmp hx hb dX2_yaw_112 ?_
                refine lv_if_le (tgt := 126) hx hb dX2_yaw_113 (by decide) (fun c_17 => ?_) (fun c_17 => ?_)
                · skip
                  replace c_17 := (lg_cmp_le _ _).mp c_17
                  refine lv_aload_n hx hb dX2_yaw_126 rfl (lv_at hl 2 rfl) ?_
                  refine va_get (D := D) (ci := 2) (v := .ref (a 4)) (C := RX2) (T := TX2) (N := 14) hx hb hts (by decide +kernel) hown hK hP 0 rfl rfl 5 (by decide) (hts _ hm5) (fun _ h9 => h9) rfl dX2_yaw_127 ?_
                  refine lv_iload hx hb dX2_yaw_130 (lv_at hl 0 rfl) ?_
                  refine va_lald (D := D) (f := pr) hx hb hK hP 4 3 rfl rfl vp_2 dX2_yaw_132 ?_
                  refine W.eq (g2 := F0 m 133 ls [.long (pr 2), .int 2, .ref (a 4)]) (by rw [show (2 : Int32).toNatClampNeg = 2 from rfl]) ?_
                  refine lv_ldc2 hx hb hown (hts _ hm4) dX2_yaw_133 ?_
                  refine lv_ladd hx hb dX2_yaw_136 ?_
                  refine va_last (D := D) (f := pr) hx hb hK hP hD hS 4 3 rfl rfl vp_2 dX2_yaw_137 (fun H locs hP hD hS => ?_)
                  rw [show (2 : Int32).toNatClampNeg = 2 from rfl] at hP hD
                  replace hP : va_P D vwCl (mw m0 a C 0 (nI n) sp lo ph (va_up pr 2 ((pr 2) + 20)) bo mo rf gr hd st ch rs) H := hP
                  replace hD : va_D A (mw m0 a C 0 (nI n) sp lo ph (va_up pr 2 ((pr 2) + 20)) bo mo rf gr hd st ch rs) := hD
                  refine lv_iload hx hb dX2_yaw_138 (lv_at hl 0 rfl) ?_
                  exact W.iret (v := 2) hx hb hr (fun t ht hW => ⟨⟨_, (0, va_up pr 2 ((pr 2) + 20)), rfl, ⟨by simp [sYaw, gYaw, mApart, fBadY, mMin, c_1, c_2, c_3, c_4, c_5, c_12, c_15, c_17], by simp [sYaw, gYaw, mApart, fBadY, mMin, c_1, c_2, c_3, c_4, c_5, c_12, c_15, c_17], by simp [sYaw, gYaw, mApart, fBadY, mMin, c_1, c_2, c_3, c_4, c_5, c_12, c_15, c_17]⟩, xB_end hP hK hN hD ht hW⟩, hS.F ht⟩) hS.2.2 dX2_yaw_140
                · skip
                  replace c_17 := mt (lg_cmp_le _ _).mpr c_17
                  refine lv_aload_n hx hb dX2_yaw_116 rfl (lv_at hl 2 rfl) ?_
                  refine va_get (D := D) (ci := 2) (v := .ref (a 5)) (C := RX2) (T := TX2) (N := 14) hx hb hts (by decide +kernel) hown hK hP 0 rfl rfl 6 (by decide) (hts _ hm6) (fun _ h9 => h9) rfl dX2_yaw_117 ?_
                  refine lv_iload hx hb dX2_yaw_120 (lv_at hl 0 rfl) ?_
                  refine va_lald (D := D) (f := bo) hx hb hK hP 5 4 rfl rfl vp_2 dX2_yaw_122 ?_
                  refine W.eq (g2 := F0 m 123 ls [.long (bo 2), .int 2, .ref (a 4)]) (by rw [show (2 : Int32).toNatClampNeg = 2 from rfl]) ?_
                  refine lv_goto (tgt := 137) hx hb dX2_yaw_123 (by decide) ?_
                  refine va_last (D := D) (f := pr) hx hb hK hP hD hS 4 3 rfl rfl vp_2 dX2_yaw_137 (fun H locs hP hD hS => ?_)
                  rw [show (2 : Int32).toNatClampNeg = 2 from rfl] at hP hD
                  replace hP : va_P D vwCl (mw m0 a C 0 (nI n) sp lo ph (va_up pr 2 (bo 2)) bo mo rf gr hd st ch rs) H := hP
                  replace hD : va_D A (mw m0 a C 0 (nI n) sp lo ph (va_up pr 2 (bo 2)) bo mo rf gr hd st ch rs) := hD
                  refine lv_iload hx hb dX2_yaw_138 (lv_at hl 0 rfl) ?_
                  exact W.iret (v := 2) hx hb hr (fun t ht hW => ⟨⟨_, (0, va_up pr 2 (bo 2)), rfl, ⟨by simp [sYaw, gYaw, mApart, fBadY, mMin, c_1, c_2, c_3, c_4, c_5, c_12, c_15, c_17], by simp [sYaw, gYaw, mApart, fBadY, mMin, c_1, c_2, c_3, c_4, c_5, c_12, c_15, c_17], by simp [sYaw, gYaw, mApart, fBadY, mMin, c_1, c_2, c_3, c_4, c_5, c_12, c_15, c_17]⟩, xB_end hP hK hN hD ht hW⟩, hS.F ht⟩) hS.2.2 dX2_yaw_140
              · skip
                refine lv_iconst (v := 0) hx hb dX2_yaw_73 (by decide) ?_
                exact W.iret (v := 0) hx hb hr (fun t ht hW => ⟨⟨_, (0, pr), rfl, ⟨by simp [sYaw, gYaw, mApart, fBadY, mMin, c_1, c_2, c_3, c_4, c_5, c_12, c_15], by simp [sYaw, gYaw, mApart, fBadY, mMin, c_1, c_2, c_3, c_4, c_5, c_12, c_15], by simp [sYaw, gYaw, mApart, fBadY, mMin, c_1, c_2, c_3, c_4, c_5, c_12, c_15]⟩, xB_end hP hK hN hD ht hW⟩, hS.F ht⟩) hS.2.2 dX2_yaw_74
        · skip
          replace c_4 := mt (lg_cmp_le _ _).mpr c_4
          replace c_4 := i64_lt c_4
          refine lv_bipush (v := (-2)) hx hb dX2_yaw_37 (by decide) ?_
          exact W.iret (v := (-2)) hx hb hr (fun t ht hW => ⟨⟨_, (0, pr), rfl, ⟨by simp [sYaw, gYaw, mApart, fBadY, mMin, c_1, c_2, c_3, c_4], by simp [sYaw, gYaw, mApart, fBadY, mMin, c_1, c_2, c_3, c_4], by simp [sYaw, gYaw, mApart, fBadY, mMin, c_1, c_2, c_3, c_4]⟩, xB_end hP hK hN hD ht hW⟩, hS.F ht⟩) hS.2.2 dX2_yaw_39
