/-! ===== the reference: a step ===== -/
set_option maxHeartbeats 4000000 in
set_option maxRecDepth 100000 in
/-- step -/
theorem m2_step (l : Launch) (D : va_G) (m0 : Nat) (a : Nat → Nat) (C : Nat → ClassId) (n : Nat) (th : Int32) (sp : Nat → Int64) (lo ph : Nat → Int32) (pr bo : Nat → Int64) (mo : Nat → UInt64) (rf : Int64) (gr hd st ch rs : Int32) (hn : n ≤ 8) (ped sl : Int64) (sz : Nat) : MetD lw_cs l yX2_step wsX2_step ({ frames := 2, cells := 0, slots := 0, locals := 60 }) (va_Pc [.ref m0, .long ped, .long sl] (xW D [(C 1, .long), (C 2, .boolean), (C 3, .int), (C 4, .long), (C 5, .long), (C 6, .double)] (mw m0 a C th (nI n) sp lo ph pr bo mo rf gr hd st ch rs) sz)) (va_Qi (fun (r : Int32) (u : (Int32) × (Nat → Int32) × (Nat → Int64) × (Nat → UInt64) × (Int64) × (Int32) × (Int32) × (Int32) × (Int32) × (Int32)) => (fBad ped sl → r = -2 ∧ u = (0, ph, pr, mo, rf, gr, hd, st, ch, rs)) ∧ (¬ fBad ped sl → ∃ mo2, u = (0, jPh lo ph (mRef n ped rf lo sp) ped sp pr n, jPr mPr lo ph (mRef n ped rf lo sp) ped sp pr bo hd n, mo2, mRef n ped rf lo sp, (if st + 1 - ch < rs then gr else sGr (sCode gr (mRef n ped rf lo sp) (mMx sl)) gr), (if hd = 0 then 0 else if mRef n ped rf lo sp ≤ 20 then 1 else 0), st + 1, (if st + 1 - ch < rs then ch else sNx (sCode gr (mRef n ped rf lo sp) (mMx sl)) ch (st + 1)), if st + 1 - ch < rs then rs else sNx (sCode gr (mRef n ped rf lo sp) (mMx sl)) rs 3) ∧ r = (if st + 1 - ch < rs then gr else sGr (sCode gr (mRef n ped rf lo sp) (mMx sl)) gr) ∧ ∀ k, 1 ≤ k → k ≤ n → stepM (mo k) (sp k) (jPr mPr lo ph (mRef n ped rf lo sp) ped sp pr bo hd n k) (mo2 k))) (fun (u : (Int32) × (Nat → Int32) × (Nat → Int64) × (Nat → UInt64) × (Int64) × (Int32) × (Int32) × (Int32) × (Int32) × (Int32)) => xB D [(C 1, .long), (C 2, .boolean), (C 3, .int), (C 4, .long), (C 5, .long), (C 6, .double)] (va_A (mw m0 a C th (nI n) sp lo ph pr bo mo rf gr hd st ch rs) sz) (mw m0 a C u.1 (nI n) sp lo u.2.1 u.2.2.1 bo u.2.2.2.1 u.2.2.2.2.1 u.2.2.2.2.2.1 u.2.2.2.2.2.2.1 u.2.2.2.2.2.2.2.1 u.2.2.2.2.2.2.2.2.1 u.2.2.2.2.2.2.2.2.2)) (va_A (mw m0 a C th (nI n) sp lo ph pr bo mo rf gr hd st ch rs) sz)) 0 0 (va_A (mw m0 a C th (nI n) sp lo ph pr bo mo rf gr hd st ch rs) sz) := by
  refine MetD.ofW (cc := cX2_step) (maxL := 8) (ret := (some .int)) (by decide) rfl ?_
  intro p e s m args below meth c s₁ B hml hv hd0
  obtain ⟨rfl, hsz, ⟨hP, hK, hN⟩, hDt⟩ := hv
  have hx := B.exec
  have hb := B.bytes
  have hr := B.returns
  have hts := atoms_spec (ws := wsX2_step) B.pre
  have hown : s.vm.findClass RX2 = some m.cls := findClass_of_methodNamed B.named
  have hlocks := B.notSynchronized
  have hm1 : (.fieldLink RX2 40 "GearBrakeModel" "thrown" "I" : Cond) ∈ wsX2_step := by decide +kernel
  have hm2 : (.constantLong RX2 38 (100) : Cond) ∈ wsX2_step := by decide +kernel
  have hm3 : (.constantLong RX2 73 (-30) : Cond) ∈ wsX2_step := by decide +kernel
  have hm4 : (.constantLong RX2 71 (30) : Cond) ∈ wsX2_step := by decide +kernel
  have hm5 : (.fieldLink RX2 75 "GearBrakeModel" "steps" "I" : Cond) ∈ wsX2_step := by decide +kernel
  have hm6 : (.fieldLink RX2 35 "GearBrakeModel" "wheels" "I" : Cond) ∈ wsX2_step := by decide +kernel
  have hm7 : (.fieldLink RX2 67 "GearBrakeModel" "holds" "Z" : Cond) ∈ wsX2_step := by decide +kernel
  have hm8 : (.fieldLink RX2 96 "GearBrakeModel" "changed" "I" : Cond) ∈ wsX2_step := by decide +kernel
  have hm9 : (.fieldLink RX2 99 "GearBrakeModel" "rest" "I" : Cond) ∈ wsX2_step := by decide +kernel
  have hm10 : (.fieldLink RX2 31 "GearBrakeModel" "gear" "I" : Cond) ∈ wsX2_step := by decide +kernel
  have hm11 : (.fieldLink RX2 53 "GearBrakeModel" "reference" "J" : Cond) ∈ wsX2_step := by decide +kernel
  have hm12 : (.constantLong RX2 94 (20) : Cond) ∈ wsX2_step := by decide +kernel
  have hm13 : (.constantLong RX2 63 (10) : Cond) ∈ wsX2_step := by decide +kernel
  have hm14 : (.fieldLink RX2 17 "GearBrakeModel" "phases" "[I" : Cond) ∈ wsX2_step := by decide +kernel
  have hm15 : (.fieldLink RX2 21 "GearBrakeModel" "pressures" "[J" : Cond) ∈ wsX2_step := by decide +kernel
  have hm16 : (.fieldLink RX2 27 "GearBrakeModel" "models" "[D" : Cond) ∈ wsX2_step := by decide +kernel
  have hm17 : (.constantDouble RX2 90 (4593671619917905920) : Cond) ∈ wsX2_step := by decide +kernel
  have hm18 : (.fieldLink RX2 7 "GearBrakeModel" "speeds" "[J" : Cond) ∈ wsX2_step := by decide +kernel
  have hm19 : (.constantDouble RX2 92 (4589168020290535424) : Cond) ∈ wsX2_step := by decide +kernel
  subst hsz
  have hD := hDt.self (sz := s.heap.size)
  generalize hAe : va_A (mw m0 a C th (nI n) sp lo ph pr bo mo rf gr hd st ch rs) s.heap.size = A at hD ⊢
  have hA : ∀ q : Nat, s.heap.size ≤ q → A q := fun q h => by rw [← hAe]; exact Or.inr h
  have hS : va_S A s.heap s.heap [] := va_S.rf
  have hts0 := hts
  have hN0 := hN
  have hK0 := hK
  obtain ⟨dd, hde, hdd⟩ : ∃ dd, dd = s.drawn ∧ s.drawn.sameBut dd lw_cs := ⟨_, rfl, hd0⟩
  rw [← hde]
  clear hde
  have hts := dr_words hts0 dd
  have hN := cN_draw (d := dd) hN0
  have hK : va_K D vwCl [(C 1, .long), (C 2, .boolean), (C 3, .int), (C 4, .long), (C 5, .long), (C 6, .double)] (s.setDrawn dd) := hK0
  have hl := lv_entry ([.ref m0, .long ped, .long sl]) (n := 8) (Nat.le_of_ble_eq_true rfl)
  rw [lg_entry_eq]
  generalize (lg_sl ([.ref m0, .long ped, .long sl]) ++ List.replicate (8 - (lg_sl ([.ref m0, .long ped, .long sl])).length) Slot.unset).toArray = ls at hl ⊢
  replace hl : lv_has ls 8 [(0, .ref m0), (1, .long ped), (3, .long sl)] := hl
  refine lv_aload_n hx hb dX2_step_0 rfl (lv_at hl 0 rfl) ?_
  refine lv_iconst (v := 0) hx hb dX2_step_1 (by decide) ?_
  refine va_put (D := D) (ci := 2) (v := .int 0) (ty := .int) (C := RX2) (T := TX2) (N := 14) hx hb hts (by decide +kernel) tyX2 tyX2_ok nmX2 hown hK hP hD hS 0 rfl rfl 0 (by decide) (hts _ hm1) (fun _ h9 => h9) rfl (by decide +kernel) rfl rfl (Nat.le_of_ble_eq_true rfl) dX2_step_2 (fun H locs hP hD hS => ?_)
  replace hP : va_P D vwCl (mw m0 a C 0 (nI n) sp lo ph pr bo mo rf gr hd st ch rs) H := hP
  replace hD : va_D A (mw m0 a C 0 (nI n) sp lo ph pr bo mo rf gr hd st ch rs) := hD
  refine lv_lload_n hx hb dX2_step_5 rfl (lv_at hl 1 rfl) ?_
  refine lv_lconst (v := 0) hx hb dX2_step_6 (by decide) ?_
  refine W.lcmp hx hb dX2_step_7 ?_
  refine lv_if_lt (tgt := 35) hx hb dX2_step_8 (by decide) (fun c_1 => ?_) (fun c_1 => ?_)
  · skip
    replace c_1 := (lg_cmp_lt _ _).mp c_1
    refine lv_bipush (v := (-2)) hx hb dX2_step_35 (by decide) ?_
    refine W.endD hdd ?_
    exact W.iret (v := (-2)) hx hb hr (fun t ht hW => ⟨⟨_, (0, ph, pr, mo, rf, gr, hd, st, ch, rs), rfl, ⟨fun _ => ⟨rfl, rfl⟩, fun h => absurd (by simp [fBad, c_1]) h⟩, xB_end hP hK hN hD ht hW⟩, hS.F ht⟩) hS.2.2 dX2_step_37
  · skip
    replace c_1 := mt (lg_cmp_lt _ _).mpr c_1
    refine lv_lload_n hx hb dX2_step_11 rfl (lv_at hl 1 rfl) ?_
    refine lv_ldc2 hx hb hown (hts _ hm2) dX2_step_12 ?_
    refine W.lcmp hx hb dX2_step_15 ?_
    refine lv_if_gt (tgt := 35) hx hb dX2_step_16 (by decide) (fun c_2 => ?_) (fun c_2 => ?_)
    · skip
      replace c_2 := (lg_cmp_gt _ _).mp c_2
      refine lv_bipush (v := (-2)) hx hb dX2_step_35 (by decide) ?_
      refine W.endD hdd ?_
      exact W.iret (v := (-2)) hx hb hr (fun t ht hW => ⟨⟨_, (0, ph, pr, mo, rf, gr, hd, st, ch, rs), rfl, ⟨fun _ => ⟨rfl, rfl⟩, fun h => absurd (by simp [fBad, c_1, c_2]) h⟩, xB_end hP hK hN hD ht hW⟩, hS.F ht⟩) hS.2.2 dX2_step_37
    · skip
      replace c_2 := mt (lg_cmp_gt _ _).mpr c_2
      refine lv_lload_n hx hb dX2_step_19 rfl (lv_at hl 2 rfl) ?_
      refine lv_ldc2 hx hb hown (hts _ hm3) dX2_step_20 ?_
      refine W.lcmp hx hb dX2_step_23 ?_
      refine lv_if_lt (tgt := 35) hx hb dX2_step_24 (by decide) (fun c_3 => ?_) (fun c_3 => ?_)
      · skip
        replace c_3 := (lg_cmp_lt _ _).mp c_3
        refine lv_bipush (v := (-2)) hx hb dX2_step_35 (by decide) ?_
        refine W.endD hdd ?_
        exact W.iret (v := (-2)) hx hb hr (fun t ht hW => ⟨⟨_, (0, ph, pr, mo, rf, gr, hd, st, ch, rs), rfl, ⟨fun _ => ⟨rfl, rfl⟩, fun h => absurd (by simp [fBad, c_1, c_2, c_3]) h⟩, xB_end hP hK hN hD ht hW⟩, hS.F ht⟩) hS.2.2 dX2_step_37
      · skip
        replace c_3 := mt (lg_cmp_lt _ _).mpr c_3
        refine lv_lload_n hx hb dX2_step_27 rfl (lv_at hl 2 rfl) ?_
        refine lv_ldc2 hx hb hown (hts _ hm4) dX2_step_28 ?_
        refine W.lcmp hx hb dX2_step_31 ?_
        refine lv_if_le (tgt := 38) hx hb dX2_step_32 (by decide) (fun c_4 => ?_) (fun c_4 => ?_)
        · skip
          replace c_4 := (lg_cmp_le _ _).mp c_4
          replace c_4 := i64_nlt c_4
          refine lv_aload_n hx hb dX2_step_38 rfl (lv_at hl 0 rfl) ?_
          refine lv_dup hx hb dX2_step_39 rfl ?_
          refine va_get (D := D) (ci := 2) (v := .int st) (C := RX2) (T := TX2) (N := 14) hx hb hts (by decide +kernel) hown hK hP 0 rfl rfl 11 (by decide) (hts _ hm5) (fun _ h9 => h9) rfl dX2_step_40 ?_
          refine lv_iconst (v := 1) hx hb dX2_step_43 (by decide) ?_
          refine lv_iadd hx hb dX2_step_44 ?_
          refine va_put (D := D) (ci := 2) (v := .int (st + 1)) (ty := .int) (C := RX2) (T := TX2) (N := 14) hx hb hts (by decide +kernel) tyX2 tyX2_ok nmX2 hown hK hP hD hS 0 rfl rfl 11 (by decide) (hts _ hm5) (fun _ h9 => h9) rfl (by decide +kernel) rfl rfl (Nat.le_of_ble_eq_true rfl) dX2_step_45 (fun H locs hP hD hS => ?_)
          replace hP : va_P D vwCl (mw m0 a C 0 (nI n) sp lo ph pr bo mo rf gr hd (st + 1) ch rs) H := hP
          replace hD : va_D A (mw m0 a C 0 (nI n) sp lo ph pr bo mo rf gr hd (st + 1) ch rs) := hD
          refine lv_aload_n hx hb dX2_step_48 rfl (lv_at hl 0 rfl) ?_
          refine lv_lload_n hx hb dX2_step_49 rfl (lv_at hl 1 rfl) ?_
          have hF := xF hD hS hA
          refine va_callv (va_runV (As := [.long ped]) (rest := []) ⟨hx, hb, hml, hown, hts⟩ (m2_refer l D m0 a C n 0 sp lo ph pr bo mo rf gr hd (st + 1) ch rs hn ped _) (cwV 1 hts gX2_step_X2_refer rfl rfl rfl (by decide +kernel) ⟨Nat.le_of_ble_eq_true rfl, Nat.le_of_ble_eq_true rfl⟩) ⟨xW_blind, va_recv hK hP (ci := 2) (q0 := 0) rfl rfl, xW_at hP hK hN hD⟩ rfl rfl hl.1 rfl (lv_room (Nat.le_of_ble_eq_true rfl)) dX2_step_50 ⟨Nat.le_of_ble_eq_true rfl, Nat.le_of_ble_eq_true rfl⟩) hS (fun q _ h => hF q h) hF (fun u t H locs ht hvm hpo hB hz1 hk1 hS => ?_)
          obtain ⟨hP, hD⟩ := xB_use hB ht hF
          rw [hpo] at hP hD
          clear hB hk1 hz1 ht hvm
          replace hP : va_P D vwCl (mw m0 a C 0 (nI n) sp lo ph pr bo mo (mRef n ped rf lo sp) gr hd (st + 1) ch rs) H := hP
          replace hD : va_D A (mw m0 a C 0 (nI n) sp lo ph pr bo mo (mRef n ped rf lo sp) gr hd (st + 1) ch rs) := hD
          refine lv_iconst (v := 1) hx hb dX2_step_53 (by decide) ?_
          refine lv_istore (lv' := [(5, .int 1), (0, .ref m0), (1, .long ped), (3, .long sl)]) hx hb dX2_step_54 hl (by decide) rfl (fun ls hl => ?_)
          obtain ⟨j, mo2, hI⟩ : ∃ (j : Nat) (mo2 : Nat → UInt64), j ≤ n ∧ lv_has ls 8 [(5, .int (nI (j + 1))), (0, .ref m0), (1, .long ped), (3, .long sl)] ∧ va_P D vwCl (mw m0 a C 0 (nI n) sp lo (jPh lo ph (mRef n ped rf lo sp) ped sp pr j) (jPr mPr lo ph (mRef n ped rf lo sp) ped sp pr bo hd j) bo mo2 (mRef n ped rf lo sp) gr hd (st + 1) ch rs) H ∧ va_D A (mw m0 a C 0 (nI n) sp lo (jPh lo ph (mRef n ped rf lo sp) ped sp pr j) (jPr mPr lo ph (mRef n ped rf lo sp) ped sp pr bo hd j) bo mo2 (mRef n ped rf lo sp) gr hd (st + 1) ch rs) ∧ va_S A s.heap H locs ∧ s.drawn.sameBut dd lw_cs ∧ jM j mo sp (fun k => mPr (sPh (lo k) (mRef n ped rf lo sp) ped (sp k) (ph k) (pr k)) ped (pr k) hd (bo k)) mo2 := ⟨0, mo, Nat.zero_le _, by exact lv_sub hl [0, 1, 2, 3] rfl, by rw [jPh_0, jPr_0]; exact hP, by rw [jPh_0, jPr_0]; exact hD, hS, hdd, jM_0 _ _ _⟩
          obtain ⟨d, hjd⟩ : ∃ d, j + d = n := ⟨n - j, by omega⟩
          clear hl hts hN hK hP hD hS hdd
          induction d generalizing H locs ls dd j mo2 with
          | zero =>
            obtain ⟨hjn, hl, hP, hD, hS, hdd, hM⟩ := hI
            have hjn : j = n := by omega
            have hts := dr_words hts0 dd
            have hN := cN_draw (d := dd) hN0
            have hK : va_K D vwCl [(C 1, .long), (C 2, .boolean), (C 3, .int), (C 4, .long), (C 5, .long), (C 6, .double)] (s.setDrawn dd) := hK0
            rw [hjn] at hl hP hD
            rw [hjn] at hM
            refine lv_iload hx hb dX2_step_56 (lv_at hl 0 rfl) ?_
            refine lv_aload_n hx hb dX2_step_58 rfl (lv_at hl 1 rfl) ?_
            refine va_get (D := D) (ci := 2) (v := .int (nI n)) (C := RX2) (T := TX2) (N := 14) hx hb hts (by decide +kernel) hown hK hP 0 rfl rfl 1 (by decide) (hts _ hm6) (fun _ h9 => h9) rfl dX2_step_59 ?_
            refine lv_icmp_gt (tgt := 165) hx hb dX2_step_62 (by decide) (fun c_5 => ?_) (fun c_5 => absurd (nI_lt (Nat.lt_succ_self n) (by omega)) c_5)
            refine lv_aload_n hx hb dX2_step_165 rfl (lv_at hl 1 rfl) ?_
            refine lv_aload_n hx hb dX2_step_166 rfl (lv_at hl 1 rfl) ?_
            refine va_get (D := D) (ci := 2) (v := .int hd) (C := RX2) (T := TX2) (N := 14) hx hb hts (by decide +kernel) hown hK hP 0 rfl rfl 10 (by decide) (hts _ hm7) (fun _ h9 => h9) rfl dX2_step_167 ?_
            refine lv_if_eq (tgt := 188) hx hb dX2_step_170 (by decide) (fun c_6 => ?_) (fun c_6 => ?_)
            · skip
              refine lv_iconst (v := 0) hx hb dX2_step_188 (by decide) ?_
              refine va_put (D := D) (ci := 2) (v := .int 0) (ty := .boolean) (C := RX2) (T := TX2) (N := 14) hx hb hts (by decide +kernel) tyX2 tyX2_ok nmX2 hown hK hP hD hS 0 rfl rfl 10 (by decide) (hts _ hm7) (fun _ h9 => h9) rfl (by decide +kernel) rfl rfl (Nat.le_of_ble_eq_true rfl) dX2_step_189 (fun H locs hP hD hS => ?_)
              replace hP : va_P D vwCl (mw m0 a C 0 (nI n) sp lo (jPh lo ph (mRef n ped rf lo sp) ped sp pr n) (jPr mPr lo ph (mRef n ped rf lo sp) ped sp pr bo hd n) bo mo2 (mRef n ped rf lo sp) gr 0 (st + 1) ch rs) H := hP
              replace hD : va_D A (mw m0 a C 0 (nI n) sp lo (jPh lo ph (mRef n ped rf lo sp) ped sp pr n) (jPr mPr lo ph (mRef n ped rf lo sp) ped sp pr bo hd n) bo mo2 (mRef n ped rf lo sp) gr 0 (st + 1) ch rs) := hD
              refine lv_aload_n hx hb dX2_step_192 rfl (lv_at hl 1 rfl) ?_
              refine va_get (D := D) (ci := 2) (v := .int (st + 1)) (C := RX2) (T := TX2) (N := 14) hx hb hts (by decide +kernel) hown hK hP 0 rfl rfl 11 (by decide) (hts _ hm5) (fun _ h9 => h9) rfl dX2_step_193 ?_
              refine lv_aload_n hx hb dX2_step_196 rfl (lv_at hl 1 rfl) ?_
              refine va_get (D := D) (ci := 2) (v := .int ch) (C := RX2) (T := TX2) (N := 14) hx hb hts (by decide +kernel) hown hK hP 0 rfl rfl 12 (by decide) (hts _ hm8) (fun _ h9 => h9) rfl dX2_step_197 ?_
              refine lv_isub hx hb dX2_step_200 ?_
              refine lv_aload_n hx hb dX2_step_201 rfl (lv_at hl 1 rfl) ?_
              refine va_get (D := D) (ci := 2) (v := .int rs) (C := RX2) (T := TX2) (N := 14) hx hb hts (by decide +kernel) hown hK hP 0 rfl rfl 13 (by decide) (hts _ hm9) (fun _ h9 => h9) rfl dX2_step_202 ?_
              refine lv_icmp_lt (tgt := 302) hx hb dX2_step_205 (by decide) (fun c_7 => ?_) (fun c_7 => ?_)
              · skip
                refine lv_aload_n hx hb dX2_step_302 rfl (lv_at hl 1 rfl) ?_
                refine va_get (D := D) (ci := 2) (v := .int gr) (C := RX2) (T := TX2) (N := 14) hx hb hts (by decide +kernel) hown hK hP 0 rfl rfl 9 (by decide) (hts _ hm10) (fun _ h9 => h9) rfl dX2_step_303 ?_
                refine W.endD hdd ?_
                exact W.iret (v := gr) hx hb hr (fun t ht hW => ⟨⟨_, (0, jPh lo ph (mRef n ped rf lo sp) ped sp pr n, jPr mPr lo ph (mRef n ped rf lo sp) ped sp pr bo hd n, mo2, mRef n ped rf lo sp, gr, 0, st + 1, ch, rs), rfl, ⟨fun h => absurd h (by simp [fBad, c_1, c_2, c_3, c_4, c_6, c_7]), fun _ => ⟨mo2, by simp [sCode, sGr, sNx, c_1, c_2, c_3, c_4, c_6, c_7], by simp [sCode, sGr, c_1, c_2, c_3, c_4, c_6, c_7], fun k h1 h2 => by rw [jPr_in _ _ _ _ _ _ _ _ _ h1 h2]; exact hM.1 k h1 h2⟩⟩, xB_end hP hK hN hD ht hW⟩, hS.F ht⟩) hS.2.2 dX2_step_306
              · skip
                refine lv_aload_n hx hb dX2_step_208 rfl (lv_at hl 1 rfl) ?_
                refine va_get (D := D) (ci := 2) (v := .int gr) (C := RX2) (T := TX2) (N := 14) hx hb hts (by decide +kernel) hown hK hP 0 rfl rfl 9 (by decide) (hts _ hm10) (fun _ h9 => h9) rfl dX2_step_209 ?_
                refine lv_bipush (v := 6) hx hb dX2_step_212 (by decide) ?_
                refine lv_icmp_ge (tgt := 264) hx hb dX2_step_214 (by decide) (fun c_8 => ?_) (fun c_8 => ?_)
                · skip
                  refine lv_aload_n hx hb dX2_step_264 rfl (lv_at hl 1 rfl) ?_
                  refine va_get (D := D) (ci := 2) (v := .int gr) (C := RX2) (T := TX2) (N := 14) hx hb hts (by decide +kernel) hown hK hP 0 rfl rfl 9 (by decide) (hts _ hm10) (fun _ h9 => h9) rfl dX2_step_265 ?_
                  refine lv_iconst (v := 1) hx hb dX2_step_268 (by decide) ?_
                  refine lv_icmp_le (tgt := 302) hx hb dX2_step_269 (by decide) (fun c_9 => ?_) (fun c_9 => ?_)
                  · skip
                    refine lv_aload_n hx hb dX2_step_302 rfl (lv_at hl 1 rfl) ?_
                    refine va_get (D := D) (ci := 2) (v := .int gr) (C := RX2) (T := TX2) (N := 14) hx hb hts (by decide +kernel) hown hK hP 0 rfl rfl 9 (by decide) (hts _ hm10) (fun _ h9 => h9) rfl dX2_step_303 ?_
                    refine W.endD hdd ?_
                    exact W.iret (v := gr) hx hb hr (fun t ht hW => ⟨⟨_, (0, jPh lo ph (mRef n ped rf lo sp) ped sp pr n, jPr mPr lo ph (mRef n ped rf lo sp) ped sp pr bo hd n, mo2, mRef n ped rf lo sp, gr, 0, st + 1, ch, rs), rfl, ⟨fun h => absurd h (by simp [fBad, c_1, c_2, c_3, c_4, c_6, c_7, c_8, c_9]), fun _ => ⟨mo2, by simp [sCode, sGr, sNx, c_1, c_2, c_3, c_4, c_6, c_7, c_8, c_9], by simp [sCode, sGr, c_1, c_2, c_3, c_4, c_6, c_7, c_8, c_9], fun k h1 h2 => by rw [jPr_in _ _ _ _ _ _ _ _ _ h1 h2]; exact hM.1 k h1 h2⟩⟩, xB_end hP hK hN hD ht hW⟩, hS.F ht⟩) hS.2.2 dX2_step_306
                  · skip
                    refine lv_aload_n hx hb dX2_step_272 rfl (lv_at hl 1 rfl) ?_
                    refine va_get (D := D) (ci := 2) (v := .long (mRef n ped rf lo sp)) (C := RX2) (T := TX2) (N := 14) hx hb hts (by decide +kernel) hown hK hP 0 rfl rfl 8 (by decide) (hts _ hm11) (fun _ h9 => h9) rfl dX2_step_273 ?_
                    refine lv_ldc2 hx hb hown (hts _ hm12) dX2_step_276 ?_
                    refine lv_aload_n hx hb dX2_step_279 rfl (lv_at hl 1 rfl) ?_
                    refine va_get (D := D) (ci := 2) (v := .int gr) (C := RX2) (T := TX2) (N := 14) hx hb hts (by decide +kernel) hown hK hP 0 rfl rfl 9 (by decide) (hts _ hm10) (fun _ h9 => h9) rfl dX2_step_280 ?_
                    refine lv_iconst (v := 1) hx hb dX2_step_283 (by decide) ?_
                    refine lv_isub hx hb dX2_step_284 ?_
                    refine lv_i2l hx hb dX2_step_285 rfl ?_
                    refine lv_lmul hx hb dX2_step_286 ?_
                    refine W.lcmp hx hb dX2_step_287 ?_
                    refine lv_if_ge (tgt := 302) hx hb dX2_step_288 (by decide) (fun c_10 => ?_) (fun c_10 => ?_)
                    · skip
                      replace c_10 := (lg_cmp_ge _ _).mp c_10
                      refine lv_aload_n hx hb dX2_step_302 rfl (lv_at hl 1 rfl) ?_
                      refine va_get (D := D) (ci := 2) (v := .int gr) (C := RX2) (T := TX2) (N := 14) hx hb hts (by decide +kernel) hown hK hP 0 rfl rfl 9 (by decide) (hts _ hm10) (fun _ h9 => h9) rfl dX2_step_303 ?_
                      refine W.endD hdd ?_
                      exact W.iret (v := gr) hx hb hr (fun t ht hW => ⟨⟨_, (0, jPh lo ph (mRef n ped rf lo sp) ped sp pr n, jPr mPr lo ph (mRef n ped rf lo sp) ped sp pr bo hd n, mo2, mRef n ped rf lo sp, gr, 0, st + 1, ch, rs), rfl, ⟨fun h => absurd h (by simp [fBad, c_1, c_2, c_3, c_4, c_6, c_7, c_8, c_9, c_10]), fun _ => ⟨mo2, by simp [sCode, sGr, sNx, c_1, c_2, c_3, c_4, c_6, c_7, c_8, c_9, c_10], by simp [sCode, sGr, c_1, c_2, c_3, c_4, c_6, c_7, c_8, c_9, c_10], fun k h1 h2 => by rw [jPr_in _ _ _ _ _ _ _ _ _ h1 h2]; exact hM.1 k h1 h2⟩⟩, xB_end hP hK hN hD ht hW⟩, hS.F ht⟩) hS.2.2 dX2_step_306
                    · skip
                      replace c_10 := mt (lg_cmp_ge _ _).mpr c_10
                      refine lv_aload_n hx hb dX2_step_291 rfl (lv_at hl 1 rfl) ?_
                      refine lv_aload_n hx hb dX2_step_292 rfl (lv_at hl 1 rfl) ?_
                      refine va_get (D := D) (ci := 2) (v := .int gr) (C := RX2) (T := TX2) (N := 14) hx hb hts (by decide +kernel) hown hK hP 0 rfl rfl 9 (by decide) (hts _ hm10) (fun _ h9 => h9) rfl dX2_step_293 ?_
                      refine lv_iconst (v := 1) hx hb dX2_step_296 (by decide) ?_
                      refine lv_isub hx hb dX2_step_297 ?_
                      refine lv_iconst (v := 3) hx hb dX2_step_298 (by decide) ?_
                      have hF := xF hD hS hA
                      refine va_callv (va_runV (As := [.int (gr - 1), .int 3]) (rest := []) ⟨hx, hb, hml, hown, hts⟩ (m2_turn l D m0 a C n 0 sp lo (jPh lo ph (mRef n ped rf lo sp) ped sp pr n) (jPr mPr lo ph (mRef n ped rf lo sp) ped sp pr bo hd n) bo mo2 (mRef n ped rf lo sp) gr 0 (st + 1) ch rs hn (gr - 1) 3 _) (cwV 2 hts gX2_step_X2_turn rfl rfl rfl (by decide +kernel) ⟨Nat.le_of_ble_eq_true rfl, Nat.le_of_ble_eq_true rfl⟩) ⟨xW_blind, va_recv hK hP (ci := 2) (q0 := 0) rfl rfl, xW_at hP hK hN hD⟩ rfl rfl hl.1 rfl (lv_room (Nat.le_of_ble_eq_true rfl)) dX2_step_299 ⟨Nat.le_of_ble_eq_true rfl, Nat.le_of_ble_eq_true rfl⟩) hS (fun q _ h => hF q h) hF (fun u t H locs ht hvm hpo hB hz1 hk1 hS => ?_)
                      obtain ⟨hP, hD⟩ := xB_use hB ht hF
                      obtain ⟨u1, u2, u3⟩ := u
                      dsimp only at hpo hP hD
                      rw [hpo.1, hpo.2.1, hpo.2.2] at hP hD
                      clear hB hk1 hz1 ht hvm
                      replace hP : va_P D vwCl (mw m0 a C 0 (nI n) sp lo (jPh lo ph (mRef n ped rf lo sp) ped sp pr n) (jPr mPr lo ph (mRef n ped rf lo sp) ped sp pr bo hd n) bo mo2 (mRef n ped rf lo sp) (gr - 1) 0 (st + 1) (st + 1) 3) H := hP
                      replace hD : va_D A (mw m0 a C 0 (nI n) sp lo (jPh lo ph (mRef n ped rf lo sp) ped sp pr n) (jPr mPr lo ph (mRef n ped rf lo sp) ped sp pr bo hd n) bo mo2 (mRef n ped rf lo sp) (gr - 1) 0 (st + 1) (st + 1) 3) := hD
                      refine lv_aload_n hx hb dX2_step_302 rfl (lv_at hl 1 rfl) ?_
                      refine va_get (D := D) (ci := 2) (v := .int (gr - 1)) (C := RX2) (T := TX2) (N := 14) hx hb hts (by decide +kernel) hown hK hP 0 rfl rfl 9 (by decide) (hts _ hm10) (fun _ h9 => h9) rfl dX2_step_303 ?_
                      refine W.endD hdd ?_
                      exact W.iret (v := (gr - 1)) hx hb hr (fun t ht hW => ⟨⟨_, (0, jPh lo ph (mRef n ped rf lo sp) ped sp pr n, jPr mPr lo ph (mRef n ped rf lo sp) ped sp pr bo hd n, mo2, mRef n ped rf lo sp, gr - 1, 0, st + 1, st + 1, 3), rfl, ⟨fun h => absurd h (by simp [fBad, c_1, c_2, c_3, c_4, c_6, c_7, c_8, c_9, c_10]), fun _ => ⟨mo2, by simp [sCode, sGr, sNx, c_1, c_2, c_3, c_4, c_6, c_7, c_8, c_9, c_10], by simp [sCode, sGr, c_1, c_2, c_3, c_4, c_6, c_7, c_8, c_9, c_10], fun k h1 h2 => by rw [jPr_in _ _ _ _ _ _ _ _ _ h1 h2]; exact hM.1 k h1 h2⟩⟩, xB_end hP hK hN hD ht hW⟩, hS.F ht⟩) hS.2.2 dX2_step_306
                · skip
                  refine lv_aload_n hx hb dX2_step_217 rfl (lv_at hl 1 rfl) ?_
                  refine va_get (D := D) (ci := 2) (v := .long (mRef n ped rf lo sp)) (C := RX2) (T := TX2) (N := 14) hx hb hts (by decide +kernel) hown hK hP 0 rfl rfl 8 (by decide) (hts _ hm11) (fun _ h9 => h9) rfl dX2_step_218 ?_
                  refine lv_ldc2 hx hb hown (hts _ hm12) dX2_step_221 ?_
                  refine lv_aload_n hx hb dX2_step_224 rfl (lv_at hl 1 rfl) ?_
                  refine va_get (D := D) (ci := 2) (v := .int gr) (C := RX2) (T := TX2) (N := 14) hx hb hts (by decide +kernel) hown hK hP 0 rfl rfl 9 (by decide) (hts _ hm10) (fun _ h9 => h9) rfl dX2_step_225 ?_
                  refine lv_i2l hx hb dX2_step_228 rfl ?_
                  refine lv_lmul hx hb dX2_step_229 ?_
                  refine lv_ldc2 hx hb hown (hts _ hm13) dX2_step_230 ?_
                  refine lv_ladd hx hb dX2_step_233 ?_
                  refine lv_lload_n hx hb dX2_step_234 rfl (lv_at hl 3 rfl) ?_
                  refine lv_lconst (v := 0) hx hb dX2_step_235 (by decide) ?_
                  refine W.lcmp hx hb dX2_step_236 ?_
                  refine lv_if_le (tgt := 244) hx hb dX2_step_237 (by decide) (fun c_11 => ?_) (fun c_11 => ?_)
                  · skip
                    replace c_11 := (lg_cmp_le _ _).mp c_11
                    refine lv_lconst (v := 0) hx hb dX2_step_244 (by decide) ?_
                    refine W.eq (g2 := F0 m 245 ls [.long (mMx sl), .long ((20 * gr.toInt64) + 10), .long (mRef n ped rf lo sp)]) (by simp [mMx, c_11]) ?_
                    refine lv_ladd hx hb dX2_step_245 ?_
                    refine W.lcmp hx hb dX2_step_246 ?_
                    refine lv_if_le (tgt := 264) hx hb dX2_step_247 (by decide) (fun c_12 => ?_) (fun c_12 => ?_)
                    · skip
                      replace c_12 := (lg_cmp_le _ _).mp c_12
                      refine lv_aload_n hx hb dX2_step_264 rfl (lv_at hl 1 rfl) ?_
                      refine va_get (D := D) (ci := 2) (v := .int gr) (C := RX2) (T := TX2) (N := 14) hx hb hts (by decide +kernel) hown hK hP 0 rfl rfl 9 (by decide) (hts _ hm10) (fun _ h9 => h9) rfl dX2_step_265 ?_
                      refine lv_iconst (v := 1) hx hb dX2_step_268 (by decide) ?_
                      refine lv_icmp_le (tgt := 302) hx hb dX2_step_269 (by decide) (fun c_13 => ?_) (fun c_13 => ?_)
                      · skip
                        refine lv_aload_n hx hb dX2_step_302 rfl (lv_at hl 1 rfl) ?_
                        refine va_get (D := D) (ci := 2) (v := .int gr) (C := RX2) (T := TX2) (N := 14) hx hb hts (by decide +kernel) hown hK hP 0 rfl rfl 9 (by decide) (hts _ hm10) (fun _ h9 => h9) rfl dX2_step_303 ?_
                        refine W.endD hdd ?_
                        exact W.iret (v := gr) hx hb hr (fun t ht hW => ⟨⟨_, (0, jPh lo ph (mRef n ped rf lo sp) ped sp pr n, jPr mPr lo ph (mRef n ped rf lo sp) ped sp pr bo hd n, mo2, mRef n ped rf lo sp, gr, 0, st + 1, ch, rs), rfl, ⟨fun h => absurd h (by simp [fBad, c_1, c_2, c_3, c_4, c_6, c_7, c_8, c_11, c_12, c_13]), fun _ => ⟨mo2, by simp [sCode, sGr, sNx, c_1, c_2, c_3, c_4, c_6, c_7, c_8, c_11, c_12, c_13], by simp [sCode, sGr, c_1, c_2, c_3, c_4, c_6, c_7, c_8, c_11, c_12, c_13], fun k h1 h2 => by rw [jPr_in _ _ _ _ _ _ _ _ _ h1 h2]; exact hM.1 k h1 h2⟩⟩, xB_end hP hK hN hD ht hW⟩, hS.F ht⟩) hS.2.2 dX2_step_306
                      · skip
                        refine lv_aload_n hx hb dX2_step_272 rfl (lv_at hl 1 rfl) ?_
                        refine va_get (D := D) (ci := 2) (v := .long (mRef n ped rf lo sp)) (C := RX2) (T := TX2) (N := 14) hx hb hts (by decide +kernel) hown hK hP 0 rfl rfl 8 (by decide) (hts _ hm11) (fun _ h9 => h9) rfl dX2_step_273 ?_
                        refine lv_ldc2 hx hb hown (hts _ hm12) dX2_step_276 ?_
                        refine lv_aload_n hx hb dX2_step_279 rfl (lv_at hl 1 rfl) ?_
                        refine va_get (D := D) (ci := 2) (v := .int gr) (C := RX2) (T := TX2) (N := 14) hx hb hts (by decide +kernel) hown hK hP 0 rfl rfl 9 (by decide) (hts _ hm10) (fun _ h9 => h9) rfl dX2_step_280 ?_
                        refine lv_iconst (v := 1) hx hb dX2_step_283 (by decide) ?_
                        refine lv_isub hx hb dX2_step_284 ?_
                        refine lv_i2l hx hb dX2_step_285 rfl ?_
                        refine lv_lmul hx hb dX2_step_286 ?_
                        refine W.lcmp hx hb dX2_step_287 ?_
                        refine lv_if_ge (tgt := 302) hx hb dX2_step_288 (by decide) (fun c_14 => ?_) (fun c_14 => ?_)
                        · skip
                          replace c_14 := (lg_cmp_ge _ _).mp c_14
                          refine lv_aload_n hx hb dX2_step_302 rfl (lv_at hl 1 rfl) ?_
                          refine va_get (D := D) (ci := 2) (v := .int gr) (C := RX2) (T := TX2) (N := 14) hx hb hts (by decide +kernel) hown hK hP 0 rfl rfl 9 (by decide) (hts _ hm10) (fun _ h9 => h9) rfl dX2_step_303 ?_
                          refine W.endD hdd ?_
                          exact W.iret (v := gr) hx hb hr (fun t ht hW => ⟨⟨_, (0, jPh lo ph (mRef n ped rf lo sp) ped sp pr n, jPr mPr lo ph (mRef n ped rf lo sp) ped sp pr bo hd n, mo2, mRef n ped rf lo sp, gr, 0, st + 1, ch, rs), rfl, ⟨fun h => absurd h (by simp [fBad, c_1, c_2, c_3, c_4, c_6, c_7, c_8, c_11, c_12, c_13, c_14]), fun _ => ⟨mo2, by simp [sCode, sGr, sNx, c_1, c_2, c_3, c_4, c_6, c_7, c_8, c_11, c_12, c_13, c_14], by simp [sCode, sGr, c_1, c_2, c_3, c_4, c_6, c_7, c_8, c_11, c_12, c_13, c_14], fun k h1 h2 => by rw [jPr_in _ _ _ _ _ _ _ _ _ h1 h2]; exact hM.1 k h1 h2⟩⟩, xB_end hP hK hN hD ht hW⟩, hS.F ht⟩) hS.2.2 dX2_step_306
                        · skip
                          replace c_14 := mt (lg_cmp_ge _ _).mpr c_14
                          refine lv_aload_n hx hb dX2_step_291 rfl (lv_at hl 1 rfl) ?_
                          refine lv_aload_n hx hb dX2_step_292 rfl (lv_at hl 1 rfl) ?_
                          refine va_get (D := D) (ci := 2) (v := .int gr) (C := RX2) (T := TX2) (N := 14) hx hb hts (by decide +kernel) hown hK hP 0 rfl rfl 9 (by decide) (hts _ hm10) (fun _ h9 => h9) rfl dX2_step_293 ?_
                          refine lv_iconst (v := 1) hx hb dX2_step_296 (by decide) ?_
                          refine lv_isub hx hb dX2_step_297 ?_
                          refine lv_iconst (v := 3) hx hb dX2_step_298 (by decide) ?_
                          have hF := xF hD hS hA
                          refine va_callv (va_runV (As := [.int (gr - 1), .int 3]) (rest := []) ⟨hx, hb, hml, hown, hts⟩ (m2_turn l D m0 a C n 0 sp lo (jPh lo ph (mRef n ped rf lo sp) ped sp pr n) (jPr mPr lo ph (mRef n ped rf lo sp) ped sp pr bo hd n) bo mo2 (mRef n ped rf lo sp) gr 0 (st + 1) ch rs hn (gr - 1) 3 _) (cwV 2 hts gX2_step_X2_turn rfl rfl rfl (by decide +kernel) ⟨Nat.le_of_ble_eq_true rfl, Nat.le_of_ble_eq_true rfl⟩) ⟨xW_blind, va_recv hK hP (ci := 2) (q0 := 0) rfl rfl, xW_at hP hK hN hD⟩ rfl rfl hl.1 rfl (lv_room (Nat.le_of_ble_eq_true rfl)) dX2_step_299 ⟨Nat.le_of_ble_eq_true rfl, Nat.le_of_ble_eq_true rfl⟩) hS (fun q _ h => hF q h) hF (fun u t H locs ht hvm hpo hB hz1 hk1 hS => ?_)
                          obtain ⟨hP, hD⟩ := xB_use hB ht hF
                          obtain ⟨u1, u2, u3⟩ := u
                          dsimp only at hpo hP hD
                          rw [hpo.1, hpo.2.1, hpo.2.2] at hP hD
                          clear hB hk1 hz1 ht hvm
                          replace hP : va_P D vwCl (mw m0 a C 0 (nI n) sp lo (jPh lo ph (mRef n ped rf lo sp) ped sp pr n) (jPr mPr lo ph (mRef n ped rf lo sp) ped sp pr bo hd n) bo mo2 (mRef n ped rf lo sp) (gr - 1) 0 (st + 1) (st + 1) 3) H := hP
                          replace hD : va_D A (mw m0 a C 0 (nI n) sp lo (jPh lo ph (mRef n ped rf lo sp) ped sp pr n) (jPr mPr lo ph (mRef n ped rf lo sp) ped sp pr bo hd n) bo mo2 (mRef n ped rf lo sp) (gr - 1) 0 (st + 1) (st + 1) 3) := hD
                          refine lv_aload_n hx hb dX2_step_302 rfl (lv_at hl 1 rfl) ?_
                          refine va_get (D := D) (ci := 2) (v := .int (gr - 1)) (C := RX2) (T := TX2) (N := 14) hx hb hts (by decide +kernel) hown hK hP 0 rfl rfl 9 (by decide) (hts _ hm10) (fun _ h9 => h9) rfl dX2_step_303 ?_
                          refine W.endD hdd ?_
                          exact W.iret (v := (gr - 1)) hx hb hr (fun t ht hW => ⟨⟨_, (0, jPh lo ph (mRef n ped rf lo sp) ped sp pr n, jPr mPr lo ph (mRef n ped rf lo sp) ped sp pr bo hd n, mo2, mRef n ped rf lo sp, gr - 1, 0, st + 1, st + 1, 3), rfl, ⟨fun h => absurd h (by simp [fBad, c_1, c_2, c_3, c_4, c_6, c_7, c_8, c_11, c_12, c_13, c_14]), fun _ => ⟨mo2, by simp [sCode, sGr, sNx, c_1, c_2, c_3, c_4, c_6, c_7, c_8, c_11, c_12, c_13, c_14], by simp [sCode, sGr, c_1, c_2, c_3, c_4, c_6, c_7, c_8, c_11, c_12, c_13, c_14], fun k h1 h2 => by rw [jPr_in _ _ _ _ _ _ _ _ _ h1 h2]; exact hM.1 k h1 h2⟩⟩, xB_end hP hK hN hD ht hW⟩, hS.F ht⟩) hS.2.2 dX2_step_306
                    · skip
                      replace c_12 := mt (lg_cmp_le _ _).mpr c_12
                      refine lv_aload_n hx hb dX2_step_250 rfl (lv_at hl 1 rfl) ?_
                      refine lv_aload_n hx hb dX2_step_251 rfl (lv_at hl 1 rfl) ?_
                      refine va_get (D := D) (ci := 2) (v := .int gr) (C := RX2) (T := TX2) (N := 14) hx hb hts (by decide +kernel) hown hK hP 0 rfl rfl 9 (by decide) (hts _ hm10) (fun _ h9 => h9) rfl dX2_step_252 ?_
                      refine lv_iconst (v := 1) hx hb dX2_step_255 (by decide) ?_
                      refine lv_iadd hx hb dX2_step_256 ?_
                      refine lv_iconst (v := 3) hx hb dX2_step_257 (by decide) ?_
                      have hF := xF hD hS hA
                      refine va_callv (va_runV (As := [.int (gr + 1), .int 3]) (rest := []) ⟨hx, hb, hml, hown, hts⟩ (m2_turn l D m0 a C n 0 sp lo (jPh lo ph (mRef n ped rf lo sp) ped sp pr n) (jPr mPr lo ph (mRef n ped rf lo sp) ped sp pr bo hd n) bo mo2 (mRef n ped rf lo sp) gr 0 (st + 1) ch rs hn (gr + 1) 3 _) (cwV 2 hts gX2_step_X2_turn rfl rfl rfl (by decide +kernel) ⟨Nat.le_of_ble_eq_true rfl, Nat.le_of_ble_eq_true rfl⟩) ⟨xW_blind, va_recv hK hP (ci := 2) (q0 := 0) rfl rfl, xW_at hP hK hN hD⟩ rfl rfl hl.1 rfl (lv_room (Nat.le_of_ble_eq_true rfl)) dX2_step_258 ⟨Nat.le_of_ble_eq_true rfl, Nat.le_of_ble_eq_true rfl⟩) hS (fun q _ h => hF q h) hF (fun u t H locs ht hvm hpo hB hz1 hk1 hS => ?_)
                      obtain ⟨hP, hD⟩ := xB_use hB ht hF
                      obtain ⟨u1, u2, u3⟩ := u
                      dsimp only at hpo hP hD
                      rw [hpo.1, hpo.2.1, hpo.2.2] at hP hD
                      clear hB hk1 hz1 ht hvm
                      replace hP : va_P D vwCl (mw m0 a C 0 (nI n) sp lo (jPh lo ph (mRef n ped rf lo sp) ped sp pr n) (jPr mPr lo ph (mRef n ped rf lo sp) ped sp pr bo hd n) bo mo2 (mRef n ped rf lo sp) (gr + 1) 0 (st + 1) (st + 1) 3) H := hP
                      replace hD : va_D A (mw m0 a C 0 (nI n) sp lo (jPh lo ph (mRef n ped rf lo sp) ped sp pr n) (jPr mPr lo ph (mRef n ped rf lo sp) ped sp pr bo hd n) bo mo2 (mRef n ped rf lo sp) (gr + 1) 0 (st + 1) (st + 1) 3) := hD
                      refine lv_goto (tgt := 302) hx hb dX2_step_261 (by decide) ?_
                      refine lv_aload_n hx hb dX2_step_302 rfl (lv_at hl 1 rfl) ?_
                      refine va_get (D := D) (ci := 2) (v := .int (gr + 1)) (C := RX2) (T := TX2) (N := 14) hx hb hts (by decide +kernel) hown hK hP 0 rfl rfl 9 (by decide) (hts _ hm10) (fun _ h9 => h9) rfl dX2_step_303 ?_
                      refine W.endD hdd ?_
                      exact W.iret (v := (gr + 1)) hx hb hr (fun t ht hW => ⟨⟨_, (0, jPh lo ph (mRef n ped rf lo sp) ped sp pr n, jPr mPr lo ph (mRef n ped rf lo sp) ped sp pr bo hd n, mo2, mRef n ped rf lo sp, gr + 1, 0, st + 1, st + 1, 3), rfl, ⟨fun h => absurd h (by simp [fBad, c_1, c_2, c_3, c_4, c_6, c_7, c_8, c_11, c_12]), fun _ => ⟨mo2, by simp [sCode, sGr, sNx, c_1, c_2, c_3, c_4, c_6, c_7, c_8, c_11, c_12], by simp [sCode, sGr, c_1, c_2, c_3, c_4, c_6, c_7, c_8, c_11, c_12], fun k h1 h2 => by rw [jPr_in _ _ _ _ _ _ _ _ _ h1 h2]; exact hM.1 k h1 h2⟩⟩, xB_end hP hK hN hD ht hW⟩, hS.F ht⟩) hS.2.2 dX2_step_306
                  · skip
                    replace c_11 := mt (lg_cmp_le _ _).mpr c_11
                    refine lv_lload_n hx hb dX2_step_240 rfl (lv_at hl 3 rfl) ?_
                    refine lv_goto (tgt := 245) hx hb dX2_step_241 (by decide) ?_
                    refine W.eq (g2 := F0 m 245 ls [.long (mMx sl), .long ((20 * gr.toInt64) + 10), .long (mRef n ped rf lo sp)]) (by simp [mMx, c_11]) ?_
                    refine lv_ladd hx hb dX2_step_245 ?_
                    refine W.lcmp hx hb dX2_step_246 ?_
                    refine lv_if_le (tgt := 264) hx hb dX2_step_247 (by decide) (fun c_15 => ?_) (fun c_15 => ?_)
                    · skip
                      replace c_15 := (lg_cmp_le _ _).mp c_15
                      refine lv_aload_n hx hb dX2_step_264 rfl (lv_at hl 1 rfl) ?_
                      refine va_get (D := D) (ci := 2) (v := .int gr) (C := RX2) (T := TX2) (N := 14) hx hb hts (by decide +kernel) hown hK hP 0 rfl rfl 9 (by decide) (hts _ hm10) (fun _ h9 => h9) rfl dX2_step_265 ?_
                      refine lv_iconst (v := 1) hx hb dX2_step_268 (by decide) ?_
                      refine lv_icmp_le (tgt := 302) hx hb dX2_step_269 (by decide) (fun c_16 => ?_) (fun c_16 => ?_)
                      · skip
                        refine lv_aload_n hx hb dX2_step_302 rfl (lv_at hl 1 rfl) ?_
                        refine va_get (D := D) (ci := 2) (v := .int gr) (C := RX2) (T := TX2) (N := 14) hx hb hts (by decide +kernel) hown hK hP 0 rfl rfl 9 (by decide) (hts _ hm10) (fun _ h9 => h9) rfl dX2_step_303 ?_
                        refine W.endD hdd ?_
                        exact W.iret (v := gr) hx hb hr (fun t ht hW => ⟨⟨_, (0, jPh lo ph (mRef n ped rf lo sp) ped sp pr n, jPr mPr lo ph (mRef n ped rf lo sp) ped sp pr bo hd n, mo2, mRef n ped rf lo sp, gr, 0, st + 1, ch, rs), rfl, ⟨fun h => absurd h (by simp [fBad, c_1, c_2, c_3, c_4, c_6, c_7, c_8, c_11, c_15, c_16]), fun _ => ⟨mo2, by simp [sCode, sGr, sNx, c_1, c_2, c_3, c_4, c_6, c_7, c_8, c_11, c_15, c_16], by simp [sCode, sGr, c_1, c_2, c_3, c_4, c_6, c_7, c_8, c_11, c_15, c_16], fun k h1 h2 => by rw [jPr_in _ _ _ _ _ _ _ _ _ h1 h2]; exact hM.1 k h1 h2⟩⟩, xB_end hP hK hN hD ht hW⟩, hS.F ht⟩) hS.2.2 dX2_step_306
                      · skip
                        refine lv_aload_n hx hb dX2_step_272 rfl (lv_at hl 1 rfl) ?_
                        refine va_get (D := D) (ci := 2) (v := .long (mRef n ped rf lo sp)) (C := RX2) (T := TX2) (N := 14) hx hb hts (by decide +kernel) hown hK hP 0 rfl rfl 8 (by decide) (hts _ hm11) (fun _ h9 => h9) rfl dX2_step_273 ?_
                        refine lv_ldc2 hx hb hown (hts _ hm12) dX2_step_276 ?_
                        refine lv_aload_n hx hb dX2_step_279 rfl (lv_at hl 1 rfl) ?_
                        refine va_get (D := D) (ci := 2) (v := .int gr) (C := RX2) (T := TX2) (N := 14) hx hb hts (by decide +kernel) hown hK hP 0 rfl rfl 9 (by decide) (hts _ hm10) (fun _ h9 => h9) rfl dX2_step_280 ?_
                        refine lv_iconst (v := 1) hx hb dX2_step_283 (by decide) ?_
                        refine lv_isub hx hb dX2_step_284 ?_
                        refine lv_i2l hx hb dX2_step_285 rfl ?_
                        refine lv_lmul hx hb dX2_step_286 ?_
                        refine W.lcmp hx hb dX2_step_287 ?_
                        refine lv_if_ge (tgt := 302) hx hb dX2_step_288 (by decide) (fun c_17 => ?_) (fun c_17 => ?_)
                        · skip
                          replace c_17 := (lg_cmp_ge _ _).mp c_17
                          refine lv_aload_n hx hb dX2_step_302 rfl (lv_at hl 1 rfl) ?_
                          refine va_get (D := D) (ci := 2) (v := .int gr) (C := RX2) (T := TX2) (N := 14) hx hb hts (by decide +kernel) hown hK hP 0 rfl rfl 9 (by decide) (hts _ hm10) (fun _ h9 => h9) rfl dX2_step_303 ?_
                          refine W.endD hdd ?_
                          exact W.iret (v := gr) hx hb hr (fun t ht hW => ⟨⟨_, (0, jPh lo ph (mRef n ped rf lo sp) ped sp pr n, jPr mPr lo ph (mRef n ped rf lo sp) ped sp pr bo hd n, mo2, mRef n ped rf lo sp, gr, 0, st + 1, ch, rs), rfl, ⟨fun h => absurd h (by simp [fBad, c_1, c_2, c_3, c_4, c_6, c_7, c_8, c_11, c_15, c_16, c_17]), fun _ => ⟨mo2, by simp [sCode, sGr, sNx, c_1, c_2, c_3, c_4, c_6, c_7, c_8, c_11, c_15, c_16, c_17], by simp [sCode, sGr, c_1, c_2, c_3, c_4, c_6, c_7, c_8, c_11, c_15, c_16, c_17], fun k h1 h2 => by rw [jPr_in _ _ _ _ _ _ _ _ _ h1 h2]; exact hM.1 k h1 h2⟩⟩, xB_end hP hK hN hD ht hW⟩, hS.F ht⟩) hS.2.2 dX2_step_306
                        · skip
                          replace c_17 := mt (lg_cmp_ge _ _).mpr c_17
                          refine lv_aload_n hx hb dX2_step_291 rfl (lv_at hl 1 rfl) ?_
                          refine lv_aload_n hx hb dX2_step_292 rfl (lv_at hl 1 rfl) ?_
                          refine va_get (D := D) (ci := 2) (v := .int gr) (C := RX2) (T := TX2) (N := 14) hx hb hts (by decide +kernel) hown hK hP 0 rfl rfl 9 (by decide) (hts _ hm10) (fun _ h9 => h9) rfl dX2_step_293 ?_
                          refine lv_iconst (v := 1) hx hb dX2_step_296 (by decide) ?_
                          refine lv_isub hx hb dX2_step_297 ?_
                          refine lv_iconst (v := 3) hx hb dX2_step_298 (by decide) ?_
                          have hF := xF hD hS hA
                          refine va_callv (va_runV (As := [.int (gr - 1), .int 3]) (rest := []) ⟨hx, hb, hml, hown, hts⟩ (m2_turn l D m0 a C n 0 sp lo (jPh lo ph (mRef n ped rf lo sp) ped sp pr n) (jPr mPr lo ph (mRef n ped rf lo sp) ped sp pr bo hd n) bo mo2 (mRef n ped rf lo sp) gr 0 (st + 1) ch rs hn (gr - 1) 3 _) (cwV 2 hts gX2_step_X2_turn rfl rfl rfl (by decide +kernel) ⟨Nat.le_of_ble_eq_true rfl, Nat.le_of_ble_eq_true rfl⟩) ⟨xW_blind, va_recv hK hP (ci := 2) (q0 := 0) rfl rfl, xW_at hP hK hN hD⟩ rfl rfl hl.1 rfl (lv_room (Nat.le_of_ble_eq_true rfl)) dX2_step_299 ⟨Nat.le_of_ble_eq_true rfl, Nat.le_of_ble_eq_true rfl⟩) hS (fun q _ h => hF q h) hF (fun u t H locs ht hvm hpo hB hz1 hk1 hS => ?_)
                          obtain ⟨hP, hD⟩ := xB_use hB ht hF
                          obtain ⟨u1, u2, u3⟩ := u
                          dsimp only at hpo hP hD
                          rw [hpo.1, hpo.2.1, hpo.2.2] at hP hD
                          clear hB hk1 hz1 ht hvm
                          replace hP : va_P D vwCl (mw m0 a C 0 (nI n) sp lo (jPh lo ph (mRef n ped rf lo sp) ped sp pr n) (jPr mPr lo ph (mRef n ped rf lo sp) ped sp pr bo hd n) bo mo2 (mRef n ped rf lo sp) (gr - 1) 0 (st + 1) (st + 1) 3) H := hP
                          replace hD : va_D A (mw m0 a C 0 (nI n) sp lo (jPh lo ph (mRef n ped rf lo sp) ped sp pr n) (jPr mPr lo ph (mRef n ped rf lo sp) ped sp pr bo hd n) bo mo2 (mRef n ped rf lo sp) (gr - 1) 0 (st + 1) (st + 1) 3) := hD
                          refine lv_aload_n hx hb dX2_step_302 rfl (lv_at hl 1 rfl) ?_
                          refine va_get (D := D) (ci := 2) (v := .int (gr - 1)) (C := RX2) (T := TX2) (N := 14) hx hb hts (by decide +kernel) hown hK hP 0 rfl rfl 9 (by decide) (hts _ hm10) (fun _ h9 => h9) rfl dX2_step_303 ?_
                          refine W.endD hdd ?_
                          exact W.iret (v := (gr - 1)) hx hb hr (fun t ht hW => ⟨⟨_, (0, jPh lo ph (mRef n ped rf lo sp) ped sp pr n, jPr mPr lo ph (mRef n ped rf lo sp) ped sp pr bo hd n, mo2, mRef n ped rf lo sp, gr - 1, 0, st + 1, st + 1, 3), rfl, ⟨fun h => absurd h (by simp [fBad, c_1, c_2, c_3, c_4, c_6, c_7, c_8, c_11, c_15, c_16, c_17]), fun _ => ⟨mo2, by simp [sCode, sGr, sNx, c_1, c_2, c_3, c_4, c_6, c_7, c_8, c_11, c_15, c_16, c_17], by simp [sCode, sGr, c_1, c_2, c_3, c_4, c_6, c_7, c_8, c_11, c_15, c_16, c_17], fun k h1 h2 => by rw [jPr_in _ _ _ _ _ _ _ _ _ h1 h2]; exact hM.1 k h1 h2⟩⟩, xB_end hP hK hN hD ht hW⟩, hS.F ht⟩) hS.2.2 dX2_step_306
                    · skip
                      replace c_15 := mt (lg_cmp_le _ _).mpr c_15
                      refine lv_aload_n hx hb dX2_step_250 rfl (lv_at hl 1 rfl) ?_
                      refine lv_aload_n hx hb dX2_step_251 rfl (lv_at hl 1 rfl) ?_
                      refine va_get (D := D) (ci := 2) (v := .int gr) (C := RX2) (T := TX2) (N := 14) hx hb hts (by decide +kernel) hown hK hP 0 rfl rfl 9 (by decide) (hts _ hm10) (fun _ h9 => h9) rfl dX2_step_252 ?_
                      refine lv_iconst (v := 1) hx hb dX2_step_255 (by decide) ?_
                      refine lv_iadd hx hb dX2_step_256 ?_
                      refine lv_iconst (v := 3) hx hb dX2_step_257 (by decide) ?_
                      have hF := xF hD hS hA
                      refine va_callv (va_runV (As := [.int (gr + 1), .int 3]) (rest := []) ⟨hx, hb, hml, hown, hts⟩ (m2_turn l D m0 a C n 0 sp lo (jPh lo ph (mRef n ped rf lo sp) ped sp pr n) (jPr mPr lo ph (mRef n ped rf lo sp) ped sp pr bo hd n) bo mo2 (mRef n ped rf lo sp) gr 0 (st + 1) ch rs hn (gr + 1) 3 _) (cwV 2 hts gX2_step_X2_turn rfl rfl rfl (by decide +kernel) ⟨Nat.le_of_ble_eq_true rfl, Nat.le_of_ble_eq_true rfl⟩) ⟨xW_blind, va_recv hK hP (ci := 2) (q0 := 0) rfl rfl, xW_at hP hK hN hD⟩ rfl rfl hl.1 rfl (lv_room (Nat.le_of_ble_eq_true rfl)) dX2_step_258 ⟨Nat.le_of_ble_eq_true rfl, Nat.le_of_ble_eq_true rfl⟩) hS (fun q _ h => hF q h) hF (fun u t H locs ht hvm hpo hB hz1 hk1 hS => ?_)
                      obtain ⟨hP, hD⟩ := xB_use hB ht hF
                      obtain ⟨u1, u2, u3⟩ := u
                      dsimp only at hpo hP hD
                      rw [hpo.1, hpo.2.1, hpo.2.2] at hP hD
                      clear hB hk1 hz1 ht hvm
                      replace hP : va_P D vwCl (mw m0 a C 0 (nI n) sp lo (jPh lo ph (mRef n ped rf lo sp) ped sp pr n) (jPr mPr lo ph (mRef n ped rf lo sp) ped sp pr bo hd n) bo mo2 (mRef n ped rf lo sp) (gr + 1) 0 (st + 1) (st + 1) 3) H := hP
                      replace hD : va_D A (mw m0 a C 0 (nI n) sp lo (jPh lo ph (mRef n ped rf lo sp) ped sp pr n) (jPr mPr lo ph (mRef n ped rf lo sp) ped sp pr bo hd n) bo mo2 (mRef n ped rf lo sp) (gr + 1) 0 (st + 1) (st + 1) 3) := hD
                      refine lv_goto (tgt := 302) hx hb dX2_step_261 (by decide) ?_
                      refine lv_aload_n hx hb dX2_step_302 rfl (lv_at hl 1 rfl) ?_
                      refine va_get (D := D) (ci := 2) (v := .int (gr + 1)) (C := RX2) (T := TX2) (N := 14) hx hb hts (by decide +kernel) hown hK hP 0 rfl rfl 9 (by decide) (hts _ hm10) (fun _ h9 => h9) rfl dX2_step_303 ?_
                      refine W.endD hdd ?_
                      exact W.iret (v := (gr + 1)) hx hb hr (fun t ht hW => ⟨⟨_, (0, jPh lo ph (mRef n ped rf lo sp) ped sp pr n, jPr mPr lo ph (mRef n ped rf lo sp) ped sp pr bo hd n, mo2, mRef n ped rf lo sp, gr + 1, 0, st + 1, st + 1, 3), rfl, ⟨fun h => absurd h (by simp [fBad, c_1, c_2, c_3, c_4, c_6, c_7, c_8, c_11, c_15]), fun _ => ⟨mo2, by simp [sCode, sGr, sNx, c_1, c_2, c_3, c_4, c_6, c_7, c_8, c_11, c_15], by simp [sCode, sGr, c_1, c_2, c_3, c_4, c_6, c_7, c_8, c_11, c_15], fun k h1 h2 => by rw [jPr_in _ _ _ _ _ _ _ _ _ h1 h2]; exact hM.1 k h1 h2⟩⟩, xB_end hP hK hN hD ht hW⟩, hS.F ht⟩) hS.2.2 dX2_step_306
            · skip
              refine lv_aload_n hx hb dX2_step_173 rfl (lv_at hl 1 rfl) ?_
              refine va_get (D := D) (ci := 2) (v := .long (mRef n ped rf lo sp)) (C := RX2) (T := TX2) (N := 14) hx hb hts (by decide +kernel) hown hK hP 0 rfl rfl 8 (by decide) (hts _ hm11) (fun _ h9 => h9) rfl dX2_step_174 ?_
              refine lv_ldc2 hx hb hown (hts _ hm12) dX2_step_177 ?_
              refine W.lcmp hx hb dX2_step_180 ?_
              refine lv_if_gt (tgt := 188) hx hb dX2_step_181 (by decide) (fun c_18 => ?_) (fun c_18 => ?_)
              · skip
                replace c_18 := (lg_cmp_gt _ _).mp c_18
                refine lv_iconst (v := 0) hx hb dX2_step_188 (by decide) ?_
                refine va_put (D := D) (ci := 2) (v := .int 0) (ty := .boolean) (C := RX2) (T := TX2) (N := 14) hx hb hts (by decide +kernel) tyX2 tyX2_ok nmX2 hown hK hP hD hS 0 rfl rfl 10 (by decide) (hts _ hm7) (fun _ h9 => h9) rfl (by decide +kernel) rfl rfl (Nat.le_of_ble_eq_true rfl) dX2_step_189 (fun H locs hP hD hS => ?_)
                replace hP : va_P D vwCl (mw m0 a C 0 (nI n) sp lo (jPh lo ph (mRef n ped rf lo sp) ped sp pr n) (jPr mPr lo ph (mRef n ped rf lo sp) ped sp pr bo hd n) bo mo2 (mRef n ped rf lo sp) gr 0 (st + 1) ch rs) H := hP
                replace hD : va_D A (mw m0 a C 0 (nI n) sp lo (jPh lo ph (mRef n ped rf lo sp) ped sp pr n) (jPr mPr lo ph (mRef n ped rf lo sp) ped sp pr bo hd n) bo mo2 (mRef n ped rf lo sp) gr 0 (st + 1) ch rs) := hD
                refine lv_aload_n hx hb dX2_step_192 rfl (lv_at hl 1 rfl) ?_
                refine va_get (D := D) (ci := 2) (v := .int (st + 1)) (C := RX2) (T := TX2) (N := 14) hx hb hts (by decide +kernel) hown hK hP 0 rfl rfl 11 (by decide) (hts _ hm5) (fun _ h9 => h9) rfl dX2_step_193 ?_
                refine lv_aload_n hx hb dX2_step_196 rfl (lv_at hl 1 rfl) ?_
                refine va_get (D := D) (ci := 2) (v := .int ch) (C := RX2) (T := TX2) (N := 14) hx hb hts (by decide +kernel) hown hK hP 0 rfl rfl 12 (by decide) (hts _ hm8) (fun _ h9 => h9) rfl dX2_step_197 ?_
                refine lv_isub hx hb dX2_step_200 ?_
                refine lv_aload_n hx hb dX2_step_201 rfl (lv_at hl 1 rfl) ?_
                refine va_get (D := D) (ci := 2) (v := .int rs) (C := RX2) (T := TX2) (N := 14) hx hb hts (by decide +kernel) hown hK hP 0 rfl rfl 13 (by decide) (hts _ hm9) (fun _ h9 => h9) rfl dX2_step_202 ?_
                refine lv_icmp_lt (tgt := 302) hx hb dX2_step_205 (by decide) (fun c_19 => ?_) (fun c_19 => ?_)
                · skip
                  refine lv_aload_n hx hb dX2_step_302 rfl (lv_at hl 1 rfl) ?_
                  refine va_get (D := D) (ci := 2) (v := .int gr) (C := RX2) (T := TX2) (N := 14) hx hb hts (by decide +kernel) hown hK hP 0 rfl rfl 9 (by decide) (hts _ hm10) (fun _ h9 => h9) rfl dX2_step_303 ?_
                  refine W.endD hdd ?_
                  exact W.iret (v := gr) hx hb hr (fun t ht hW => ⟨⟨_, (0, jPh lo ph (mRef n ped rf lo sp) ped sp pr n, jPr mPr lo ph (mRef n ped rf lo sp) ped sp pr bo hd n, mo2, mRef n ped rf lo sp, gr, 0, st + 1, ch, rs), rfl, ⟨fun h => absurd h (by simp [fBad, c_1, c_2, c_3, c_4, c_6, c_18, c_19]), fun _ => ⟨mo2, by simp [sCode, sGr, sNx, c_1, c_2, c_3, c_4, c_6, c_18, c_19], by simp [sCode, sGr, c_1, c_2, c_3, c_4, c_6, c_18, c_19], fun k h1 h2 => by rw [jPr_in _ _ _ _ _ _ _ _ _ h1 h2]; exact hM.1 k h1 h2⟩⟩, xB_end hP hK hN hD ht hW⟩, hS.F ht⟩) hS.2.2 dX2_step_306
                · skip
                  refine lv_aload_n hx hb dX2_step_208 rfl (lv_at hl 1 rfl) ?_
                  refine va_get (D := D) (ci := 2) (v := .int gr) (C := RX2) (T := TX2) (N := 14) hx hb hts (by decide +kernel) hown hK hP 0 rfl rfl 9 (by decide) (hts _ hm10) (fun _ h9 => h9) rfl dX2_step_209 ?_
                  refine lv_bipush (v := 6) hx hb dX2_step_212 (by decide) ?_
                  refine lv_icmp_ge (tgt := 264) hx hb dX2_step_214 (by decide) (fun c_20 => ?_) (fun c_20 => ?_)
                  · skip
                    refine lv_aload_n hx hb dX2_step_264 rfl (lv_at hl 1 rfl) ?_
                    refine va_get (D := D) (ci := 2) (v := .int gr) (C := RX2) (T := TX2) (N := 14) hx hb hts (by decide +kernel) hown hK hP 0 rfl rfl 9 (by decide) (hts _ hm10) (fun _ h9 => h9) rfl dX2_step_265 ?_
                    refine lv_iconst (v := 1) hx hb dX2_step_268 (by decide) ?_
                    refine lv_icmp_le (tgt := 302) hx hb dX2_step_269 (by decide) (fun c_21 => ?_) (fun c_21 => ?_)
                    · skip
                      refine lv_aload_n hx hb dX2_step_302 rfl (lv_at hl 1 rfl) ?_
                      refine va_get (D := D) (ci := 2) (v := .int gr) (C := RX2) (T := TX2) (N := 14) hx hb hts (by decide +kernel) hown hK hP 0 rfl rfl 9 (by decide) (hts _ hm10) (fun _ h9 => h9) rfl dX2_step_303 ?_
                      refine W.endD hdd ?_
                      exact W.iret (v := gr) hx hb hr (fun t ht hW => ⟨⟨_, (0, jPh lo ph (mRef n ped rf lo sp) ped sp pr n, jPr mPr lo ph (mRef n ped rf lo sp) ped sp pr bo hd n, mo2, mRef n ped rf lo sp, gr, 0, st + 1, ch, rs), rfl, ⟨fun h => absurd h (by simp [fBad, c_1, c_2, c_3, c_4, c_6, c_18, c_19, c_20, c_21]), fun _ => ⟨mo2, by simp [sCode, sGr, sNx, c_1, c_2, c_3, c_4, c_6, c_18, c_19, c_20, c_21], by simp [sCode, sGr, c_1, c_2, c_3, c_4, c_6, c_18, c_19, c_20, c_21], fun k h1 h2 => by rw [jPr_in _ _ _ _ _ _ _ _ _ h1 h2]; exact hM.1 k h1 h2⟩⟩, xB_end hP hK hN hD ht hW⟩, hS.F ht⟩) hS.2.2 dX2_step_306
                    · skip
                      refine lv_aload_n hx hb dX2_step_272 rfl (lv_at hl 1 rfl) ?_
                      refine va_get (D := D) (ci := 2) (v := .long (mRef n ped rf lo sp)) (C := RX2) (T := TX2) (N := 14) hx hb hts (by decide +kernel) hown hK hP 0 rfl rfl 8 (by decide) (hts _ hm11) (fun _ h9 => h9) rfl dX2_step_273 ?_
                      refine lv_ldc2 hx hb hown (hts _ hm12) dX2_step_276 ?_
                      refine lv_aload_n hx hb dX2_step_279 rfl (lv_at hl 1 rfl) ?_
                      refine va_get (D := D) (ci := 2) (v := .int gr) (C := RX2) (T := TX2) (N := 14) hx hb hts (by decide +kernel) hown hK hP 0 rfl rfl 9 (by decide) (hts _ hm10) (fun _ h9 => h9) rfl dX2_step_280 ?_
                      refine lv_iconst (v := 1) hx hb dX2_step_283 (by decide) ?_
                      refine lv_isub hx hb dX2_step_284 ?_
                      refine lv_i2l hx hb dX2_step_285 rfl ?_
                      refine lv_lmul hx hb dX2_step_286 ?_
                      refine W.lcmp hx hb dX2_step_287 ?_
                      refine lv_if_ge (tgt := 302) hx hb dX2_step_288 (by decide) (fun c_22 => ?_) (fun c_22 => ?_)
                      · skip
                        replace c_22 := (lg_cmp_ge _ _).mp c_22
                        refine lv_aload_n hx hb dX2_step_302 rfl (lv_at hl 1 rfl) ?_
                        refine va_get (D := D) (ci := 2) (v := .int gr) (C := RX2) (T := TX2) (N := 14) hx hb hts (by decide +kernel) hown hK hP 0 rfl rfl 9 (by decide) (hts _ hm10) (fun _ h9 => h9) rfl dX2_step_303 ?_
                        refine W.endD hdd ?_
                        exact W.iret (v := gr) hx hb hr (fun t ht hW => ⟨⟨_, (0, jPh lo ph (mRef n ped rf lo sp) ped sp pr n, jPr mPr lo ph (mRef n ped rf lo sp) ped sp pr bo hd n, mo2, mRef n ped rf lo sp, gr, 0, st + 1, ch, rs), rfl, ⟨fun h => absurd h (by simp [fBad, c_1, c_2, c_3, c_4, c_6, c_18, c_19, c_20, c_21, c_22]), fun _ => ⟨mo2, by simp [sCode, sGr, sNx, c_1, c_2, c_3, c_4, c_6, c_18, c_19, c_20, c_21, c_22], by simp [sCode, sGr, c_1, c_2, c_3, c_4, c_6, c_18, c_19, c_20, c_21, c_22], fun k h1 h2 => by rw [jPr_in _ _ _ _ _ _ _ _ _ h1 h2]; exact hM.1 k h1 h2⟩⟩, xB_end hP hK hN hD ht hW⟩, hS.F ht⟩) hS.2.2 dX2_step_306
                      · skip
                        replace c_22 := mt (lg_cmp_ge _ _).mpr c_22
                        refine lv_aload_n hx hb dX2_step_291 rfl (lv_at hl 1 rfl) ?_
                        refine lv_aload_n hx hb dX2_step_292 rfl (lv_at hl 1 rfl) ?_
                        refine va_get (D := D) (ci := 2) (v := .int gr) (C := RX2) (T := TX2) (N := 14) hx hb hts (by decide +kernel) hown hK hP 0 rfl rfl 9 (by decide) (hts _ hm10) (fun _ h9 => h9) rfl dX2_step_293 ?_
                        refine lv_iconst (v := 1) hx hb dX2_step_296 (by decide) ?_
                        refine lv_isub hx hb dX2_step_297 ?_
                        refine lv_iconst (v := 3) hx hb dX2_step_298 (by decide) ?_
                        have hF := xF hD hS hA
                        refine va_callv (va_runV (As := [.int (gr - 1), .int 3]) (rest := []) ⟨hx, hb, hml, hown, hts⟩ (m2_turn l D m0 a C n 0 sp lo (jPh lo ph (mRef n ped rf lo sp) ped sp pr n) (jPr mPr lo ph (mRef n ped rf lo sp) ped sp pr bo hd n) bo mo2 (mRef n ped rf lo sp) gr 0 (st + 1) ch rs hn (gr - 1) 3 _) (cwV 2 hts gX2_step_X2_turn rfl rfl rfl (by decide +kernel) ⟨Nat.le_of_ble_eq_true rfl, Nat.le_of_ble_eq_true rfl⟩) ⟨xW_blind, va_recv hK hP (ci := 2) (q0 := 0) rfl rfl, xW_at hP hK hN hD⟩ rfl rfl hl.1 rfl (lv_room (Nat.le_of_ble_eq_true rfl)) dX2_step_299 ⟨Nat.le_of_ble_eq_true rfl, Nat.le_of_ble_eq_true rfl⟩) hS (fun q _ h => hF q h) hF (fun u t H locs ht hvm hpo hB hz1 hk1 hS => ?_)
                        obtain ⟨hP, hD⟩ := xB_use hB ht hF
                        obtain ⟨u1, u2, u3⟩ := u
                        dsimp only at hpo hP hD
                        rw [hpo.1, hpo.2.1, hpo.2.2] at hP hD
                        clear hB hk1 hz1 ht hvm
                        replace hP : va_P D vwCl (mw m0 a C 0 (nI n) sp lo (jPh lo ph (mRef n ped rf lo sp) ped sp pr n) (jPr mPr lo ph (mRef n ped rf lo sp) ped sp pr bo hd n) bo mo2 (mRef n ped rf lo sp) (gr - 1) 0 (st + 1) (st + 1) 3) H := hP
                        replace hD : va_D A (mw m0 a C 0 (nI n) sp lo (jPh lo ph (mRef n ped rf lo sp) ped sp pr n) (jPr mPr lo ph (mRef n ped rf lo sp) ped sp pr bo hd n) bo mo2 (mRef n ped rf lo sp) (gr - 1) 0 (st + 1) (st + 1) 3) := hD
                        refine lv_aload_n hx hb dX2_step_302 rfl (lv_at hl 1 rfl) ?_
                        refine va_get (D := D) (ci := 2) (v := .int (gr - 1)) (C := RX2) (T := TX2) (N := 14) hx hb hts (by decide +kernel) hown hK hP 0 rfl rfl 9 (by decide) (hts _ hm10) (fun _ h9 => h9) rfl dX2_step_303 ?_
                        refine W.endD hdd ?_
                        exact W.iret (v := (gr - 1)) hx hb hr (fun t ht hW => ⟨⟨_, (0, jPh lo ph (mRef n ped rf lo sp) ped sp pr n, jPr mPr lo ph (mRef n ped rf lo sp) ped sp pr bo hd n, mo2, mRef n ped rf lo sp, gr - 1, 0, st + 1, st + 1, 3), rfl, ⟨fun h => absurd h (by simp [fBad, c_1, c_2, c_3, c_4, c_6, c_18, c_19, c_20, c_21, c_22]), fun _ => ⟨mo2, by simp [sCode, sGr, sNx, c_1, c_2, c_3, c_4, c_6, c_18, c_19, c_20, c_21, c_22], by simp [sCode, sGr, c_1, c_2, c_3, c_4, c_6, c_18, c_19, c_20, c_21, c_22], fun k h1 h2 => by rw [jPr_in _ _ _ _ _ _ _ _ _ h1 h2]; exact hM.1 k h1 h2⟩⟩, xB_end hP hK hN hD ht hW⟩, hS.F ht⟩) hS.2.2 dX2_step_306
                  · skip
                    refine lv_aload_n hx hb dX2_step_217 rfl (lv_at hl 1 rfl) ?_
                    refine va_get (D := D) (ci := 2) (v := .long (mRef n ped rf lo sp)) (C := RX2) (T := TX2) (N := 14) hx hb hts (by decide +kernel) hown hK hP 0 rfl rfl 8 (by decide) (hts _ hm11) (fun _ h9 => h9) rfl dX2_step_218 ?_
                    refine lv_ldc2 hx hb hown (hts _ hm12) dX2_step_221 ?_
                    refine lv_aload_n hx hb dX2_step_224 rfl (lv_at hl 1 rfl) ?_
                    refine va_get (D := D) (ci := 2) (v := .int gr) (C := RX2) (T := TX2) (N := 14) hx hb hts (by decide +kernel) hown hK hP 0 rfl rfl 9 (by decide) (hts _ hm10) (fun _ h9 => h9) rfl dX2_step_225 ?_
                    refine lv_i2l hx hb dX2_step_228 rfl ?_
                    refine lv_lmul hx hb dX2_step_229 ?_
                    refine lv_ldc2 hx hb hown (hts _ hm13) dX2_step_230 ?_
                    refine lv_ladd hx hb dX2_step_233 ?_
                    refine lv_lload_n hx hb dX2_step_234 rfl (lv_at hl 3 rfl) ?_
                    refine lv_lconst (v := 0) hx hb dX2_step_235 (by decide) ?_
                    refine W.lcmp hx hb dX2_step_236 ?_
                    refine lv_if_le (tgt := 244) hx hb dX2_step_237 (by decide) (fun c_23 => ?_) (fun c_23 => ?_)
                    · skip
                      replace c_23 := (lg_cmp_le _ _).mp c_23
                      refine lv_lconst (v := 0) hx hb dX2_step_244 (by decide) ?_
                      refine W.eq (g2 := F0 m 245 ls [.long (mMx sl), .long ((20 * gr.toInt64) + 10), .long (mRef n ped rf lo sp)]) (by simp [mMx, c_23]) ?_
                      refine lv_ladd hx hb dX2_step_245 ?_
                      refine W.lcmp hx hb dX2_step_246 ?_
                      refine lv_if_le (tgt := 264) hx hb dX2_step_247 (by decide) (fun c_24 => ?_) (fun c_24 => ?_)
                      · skip
                        replace c_24 := (lg_cmp_le _ _).mp c_24
                        refine lv_aload_n hx hb dX2_step_264 rfl (lv_at hl 1 rfl) ?_
                        refine va_get (D := D) (ci := 2) (v := .int gr) (C := RX2) (T := TX2) (N := 14) hx hb hts (by decide +kernel) hown hK hP 0 rfl rfl 9 (by decide) (hts _ hm10) (fun _ h9 => h9) rfl dX2_step_265 ?_
                        refine lv_iconst (v := 1) hx hb dX2_step_268 (by decide) ?_
                        refine lv_icmp_le (tgt := 302) hx hb dX2_step_269 (by decide) (fun c_25 => ?_) (fun c_25 => ?_)
                        · skip
                          refine lv_aload_n hx hb dX2_step_302 rfl (lv_at hl 1 rfl) ?_
                          refine va_get (D := D) (ci := 2) (v := .int gr) (C := RX2) (T := TX2) (N := 14) hx hb hts (by decide +kernel) hown hK hP 0 rfl rfl 9 (by decide) (hts _ hm10) (fun _ h9 => h9) rfl dX2_step_303 ?_
                          refine W.endD hdd ?_
                          exact W.iret (v := gr) hx hb hr (fun t ht hW => ⟨⟨_, (0, jPh lo ph (mRef n ped rf lo sp) ped sp pr n, jPr mPr lo ph (mRef n ped rf lo sp) ped sp pr bo hd n, mo2, mRef n ped rf lo sp, gr, 0, st + 1, ch, rs), rfl, ⟨fun h => absurd h (by simp [fBad, c_1, c_2, c_3, c_4, c_6, c_18, c_19, c_20, c_23, c_24, c_25]), fun _ => ⟨mo2, by simp [sCode, sGr, sNx, c_1, c_2, c_3, c_4, c_6, c_18, c_19, c_20, c_23, c_24, c_25], by simp [sCode, sGr, c_1, c_2, c_3, c_4, c_6, c_18, c_19, c_20, c_23, c_24, c_25], fun k h1 h2 => by rw [jPr_in _ _ _ _ _ _ _ _ _ h1 h2]; exact hM.1 k h1 h2⟩⟩, xB_end hP hK hN hD ht hW⟩, hS.F ht⟩) hS.2.2 dX2_step_306
                        · skip
                          refine lv_aload_n hx hb dX2_step_272 rfl (lv_at hl 1 rfl) ?_
                          refine va_get (D := D) (ci := 2) (v := .long (mRef n ped rf lo sp)) (C := RX2) (T := TX2) (N := 14) hx hb hts (by decide +kernel) hown hK hP 0 rfl rfl 8 (by decide) (hts _ hm11) (fun _ h9 => h9) rfl dX2_step_273 ?_
                          refine lv_ldc2 hx hb hown (hts _ hm12) dX2_step_276 ?_
                          refine lv_aload_n hx hb dX2_step_279 rfl (lv_at hl 1 rfl) ?_
                          refine va_get (D := D) (ci := 2) (v := .int gr) (C := RX2) (T := TX2) (N := 14) hx hb hts (by decide +kernel) hown hK hP 0 rfl rfl 9 (by decide) (hts _ hm10) (fun _ h9 => h9) rfl dX2_step_280 ?_
                          refine lv_iconst (v := 1) hx hb dX2_step_283 (by decide) ?_
                          refine lv_isub hx hb dX2_step_284 ?_
                          refine lv_i2l hx hb dX2_step_285 rfl ?_
                          refine lv_lmul hx hb dX2_step_286 ?_
                          refine W.lcmp hx hb dX2_step_287 ?_
                          refine lv_if_ge (tgt := 302) hx hb dX2_step_288 (by decide) (fun c_26 => ?_) (fun c_26 => ?_)
                          · skip
                            replace c_26 := (lg_cmp_ge _ _).mp c_26
                            refine lv_aload_n hx hb dX2_step_302 rfl (lv_at hl 1 rfl) ?_
                            refine va_get (D := D) (ci := 2) (v := .int gr) (C := RX2) (T := TX2) (N := 14) hx hb hts (by decide +kernel) hown hK hP 0 rfl rfl 9 (by decide) (hts _ hm10) (fun _ h9 => h9) rfl dX2_step_303 ?_
                            refine W.endD hdd ?_
                            exact W.iret (v := gr) hx hb hr (fun t ht hW => ⟨⟨_, (0, jPh lo ph (mRef n ped rf lo sp) ped sp pr n, jPr mPr lo ph (mRef n ped rf lo sp) ped sp pr bo hd n, mo2, mRef n ped rf lo sp, gr, 0, st + 1, ch, rs), rfl, ⟨fun h => absurd h (by simp [fBad, c_1, c_2, c_3, c_4, c_6, c_18, c_19, c_20, c_23, c_24, c_25, c_26]), fun _ => ⟨mo2, by simp [sCode, sGr, sNx, c_1, c_2, c_3, c_4, c_6, c_18, c_19, c_20, c_23, c_24, c_25, c_26], by simp [sCode, sGr, c_1, c_2, c_3, c_4, c_6, c_18, c_19, c_20, c_23, c_24, c_25, c_26], fun k h1 h2 => by rw [jPr_in _ _ _ _ _ _ _ _ _ h1 h2]; exact hM.1 k h1 h2⟩⟩, xB_end hP hK hN hD ht hW⟩, hS.F ht⟩) hS.2.2 dX2_step_306
                          · skip
                            replace c_26 := mt (lg_cmp_ge _ _).mpr c_26
                            refine lv_aload_n hx hb dX2_step_291 rfl (lv_at hl 1 rfl) ?_
                            refine lv_aload_n hx hb dX2_step_292 rfl (lv_at hl 1 rfl) ?_
                            refine va_get (D := D) (ci := 2) (v := .int gr) (C := RX2) (T := TX2) (N := 14) hx hb hts (by decide +kernel) hown hK hP 0 rfl rfl 9 (by decide) (hts _ hm10) (fun _ h9 => h9) rfl dX2_step_293 ?_
                            refine lv_iconst (v := 1) hx hb dX2_step_296 (by decide) ?_
                            refine lv_isub hx hb dX2_step_297 ?_
                            refine lv_iconst (v := 3) hx hb dX2_step_298 (by decide) ?_
                            have hF := xF hD hS hA
                            refine va_callv (va_runV (As := [.int (gr - 1), .int 3]) (rest := []) ⟨hx, hb, hml, hown, hts⟩ (m2_turn l D m0 a C n 0 sp lo (jPh lo ph (mRef n ped rf lo sp) ped sp pr n) (jPr mPr lo ph (mRef n ped rf lo sp) ped sp pr bo hd n) bo mo2 (mRef n ped rf lo sp) gr 0 (st + 1) ch rs hn (gr - 1) 3 _) (cwV 2 hts gX2_step_X2_turn rfl rfl rfl (by decide +kernel) ⟨Nat.le_of_ble_eq_true rfl, Nat.le_of_ble_eq_true rfl⟩) ⟨xW_blind, va_recv hK hP (ci := 2) (q0 := 0) rfl rfl, xW_at hP hK hN hD⟩ rfl rfl hl.1 rfl (lv_room (Nat.le_of_ble_eq_true rfl)) dX2_step_299 ⟨Nat.le_of_ble_eq_true rfl, Nat.le_of_ble_eq_true rfl⟩) hS (fun q _ h => hF q h) hF (fun u t H locs ht hvm hpo hB hz1 hk1 hS => ?_)
                            obtain ⟨hP, hD⟩ := xB_use hB ht hF
                            obtain ⟨u1, u2, u3⟩ := u
                            dsimp only at hpo hP hD
                            rw [hpo.1, hpo.2.1, hpo.2.2] at hP hD
                            clear hB hk1 hz1 ht hvm
                            replace hP : va_P D vwCl (mw m0 a C 0 (nI n) sp lo (jPh lo ph (mRef n ped rf lo sp) ped sp pr n) (jPr mPr lo ph (mRef n ped rf lo sp) ped sp pr bo hd n) bo mo2 (mRef n ped rf lo sp) (gr - 1) 0 (st + 1) (st + 1) 3) H := hP
                            replace hD : va_D A (mw m0 a C 0 (nI n) sp lo (jPh lo ph (mRef n ped rf lo sp) ped sp pr n) (jPr mPr lo ph (mRef n ped rf lo sp) ped sp pr bo hd n) bo mo2 (mRef n ped rf lo sp) (gr - 1) 0 (st + 1) (st + 1) 3) := hD
                            refine lv_aload_n hx hb dX2_step_302 rfl (lv_at hl 1 rfl) ?_
                            refine va_get (D := D) (ci := 2) (v := .int (gr - 1)) (C := RX2) (T := TX2) (N := 14) hx hb hts (by decide +kernel) hown hK hP 0 rfl rfl 9 (by decide) (hts _ hm10) (fun _ h9 => h9) rfl dX2_step_303 ?_
                            refine W.endD hdd ?_
                            exact W.iret (v := (gr - 1)) hx hb hr (fun t ht hW => ⟨⟨_, (0, jPh lo ph (mRef n ped rf lo sp) ped sp pr n, jPr mPr lo ph (mRef n ped rf lo sp) ped sp pr bo hd n, mo2, mRef n ped rf lo sp, gr - 1, 0, st + 1, st + 1, 3), rfl, ⟨fun h => absurd h (by simp [fBad, c_1, c_2, c_3, c_4, c_6, c_18, c_19, c_20, c_23, c_24, c_25, c_26]), fun _ => ⟨mo2, by simp [sCode, sGr, sNx, c_1, c_2, c_3, c_4, c_6, c_18, c_19, c_20, c_23, c_24, c_25, c_26], by simp [sCode, sGr, c_1, c_2, c_3, c_4, c_6, c_18, c_19, c_20, c_23, c_24, c_25, c_26], fun k h1 h2 => by rw [jPr_in _ _ _ _ _ _ _ _ _ h1 h2]; exact hM.1 k h1 h2⟩⟩, xB_end hP hK hN hD ht hW⟩, hS.F ht⟩) hS.2.2 dX2_step_306
                      · skip
                        replace c_24 := mt (lg_cmp_le _ _).mpr c_24
                        refine lv_aload_n hx hb dX2_step_250 rfl (lv_at hl 1 rfl) ?_
                        refine lv_aload_n hx hb dX2_step_251 rfl (lv_at hl 1 rfl) ?_
                        refine va_get (D := D) (ci := 2) (v := .int gr) (C := RX2) (T := TX2) (N := 14) hx hb hts (by decide +kernel) hown hK hP 0 rfl rfl 9 (by decide) (hts _ hm10) (fun _ h9 => h9) rfl dX2_step_252 ?_
                        refine lv_iconst (v := 1) hx hb dX2_step_255 (by decide) ?_
                        refine lv_iadd hx hb dX2_step_256 ?_
                        refine lv_iconst (v := 3) hx hb dX2_step_257 (by decide) ?_
                        have hF := xF hD hS hA
                        refine va_callv (va_runV (As := [.int (gr + 1), .int 3]) (rest := []) ⟨hx, hb, hml, hown, hts⟩ (m2_turn l D m0 a C n 0 sp lo (jPh lo ph (mRef n ped rf lo sp) ped sp pr n) (jPr mPr lo ph (mRef n ped rf lo sp) ped sp pr bo hd n) bo mo2 (mRef n ped rf lo sp) gr 0 (st + 1) ch rs hn (gr + 1) 3 _) (cwV 2 hts gX2_step_X2_turn rfl rfl rfl (by decide +kernel) ⟨Nat.le_of_ble_eq_true rfl, Nat.le_of_ble_eq_true rfl⟩) ⟨xW_blind, va_recv hK hP (ci := 2) (q0 := 0) rfl rfl, xW_at hP hK hN hD⟩ rfl rfl hl.1 rfl (lv_room (Nat.le_of_ble_eq_true rfl)) dX2_step_258 ⟨Nat.le_of_ble_eq_true rfl, Nat.le_of_ble_eq_true rfl⟩) hS (fun q _ h => hF q h) hF (fun u t H locs ht hvm hpo hB hz1 hk1 hS => ?_)
                        obtain ⟨hP, hD⟩ := xB_use hB ht hF
                        obtain ⟨u1, u2, u3⟩ := u
                        dsimp only at hpo hP hD
                        rw [hpo.1, hpo.2.1, hpo.2.2] at hP hD
                        clear hB hk1 hz1 ht hvm
                        replace hP : va_P D vwCl (mw m0 a C 0 (nI n) sp lo (jPh lo ph (mRef n ped rf lo sp) ped sp pr n) (jPr mPr lo ph (mRef n ped rf lo sp) ped sp pr bo hd n) bo mo2 (mRef n ped rf lo sp) (gr + 1) 0 (st + 1) (st + 1) 3) H := hP
                        replace hD : va_D A (mw m0 a C 0 (nI n) sp lo (jPh lo ph (mRef n ped rf lo sp) ped sp pr n) (jPr mPr lo ph (mRef n ped rf lo sp) ped sp pr bo hd n) bo mo2 (mRef n ped rf lo sp) (gr + 1) 0 (st + 1) (st + 1) 3) := hD
                        refine lv_goto (tgt := 302) hx hb dX2_step_261 (by decide) ?_
                        refine lv_aload_n hx hb dX2_step_302 rfl (lv_at hl 1 rfl) ?_
                        refine va_get (D := D) (ci := 2) (v := .int (gr + 1)) (C := RX2) (T := TX2) (N := 14) hx hb hts (by decide +kernel) hown hK hP 0 rfl rfl 9 (by decide) (hts _ hm10) (fun _ h9 => h9) rfl dX2_step_303 ?_
                        refine W.endD hdd ?_
                        exact W.iret (v := (gr + 1)) hx hb hr (fun t ht hW => ⟨⟨_, (0, jPh lo ph (mRef n ped rf lo sp) ped sp pr n, jPr mPr lo ph (mRef n ped rf lo sp) ped sp pr bo hd n, mo2, mRef n ped rf lo sp, gr + 1, 0, st + 1, st + 1, 3), rfl, ⟨fun h => absurd h (by simp [fBad, c_1, c_2, c_3, c_4, c_6, c_18, c_19, c_20, c_23, c_24]), fun _ => ⟨mo2, by simp [sCode, sGr, sNx, c_1, c_2, c_3, c_4, c_6, c_18, c_19, c_20, c_23, c_24], by simp [sCode, sGr, c_1, c_2, c_3, c_4, c_6, c_18, c_19, c_20, c_23, c_24], fun k h1 h2 => by rw [jPr_in _ _ _ _ _ _ _ _ _ h1 h2]; exact hM.1 k h1 h2⟩⟩, xB_end hP hK hN hD ht hW⟩, hS.F ht⟩) hS.2.2 dX2_step_306
                    · skip
                      replace c_23 := mt (lg_cmp_le _ _).mpr c_23
                      refine lv_lload_n hx hb dX2_step_240 rfl (lv_at hl 3 rfl) ?_
                      refine lv_goto (tgt := 245) hx hb dX2_step_241 (by decide) ?_
                      refine W.eq (g2 := F0 m 245 ls [.long (mMx sl), .long ((20 * gr.toInt64) + 10), .long (mRef n ped rf lo sp)]) (by simp [mMx, c_23]) ?_
                      refine lv_ladd hx hb dX2_step_245 ?_
                      refine W.lcmp hx hb dX2_step_246 ?_
                      refine lv_if_le (tgt := 264) hx hb dX2_step_247 (by decide) (fun c_27 => ?_) (fun c_27 => ?_)
                      · skip
                        replace c_27 := (lg_cmp_le _ _).mp c_27
                        refine lv_aload_n hx hb dX2_step_264 rfl (lv_at hl 1 rfl) ?_
                        refine va_get (D := D) (ci := 2) (v := .int gr) (C := RX2) (T := TX2) (N := 14) hx hb hts (by decide +kernel) hown hK hP 0 rfl rfl 9 (by decide) (hts _ hm10) (fun _ h9 => h9) rfl dX2_step_265 ?_
                        refine lv_iconst (v := 1) hx hb dX2_step_268 (by decide) ?_
                        refine lv_icmp_le (tgt := 302) hx hb dX2_step_269 (by decide) (fun c_28 => ?_) (fun c_28 => ?_)
                        · skip
                          refine lv_aload_n hx hb dX2_step_302 rfl (lv_at hl 1 rfl) ?_
                          refine va_get (D := D) (ci := 2) (v := .int gr) (C := RX2) (T := TX2) (N := 14) hx hb hts (by decide +kernel) hown hK hP 0 rfl rfl 9 (by decide) (hts _ hm10) (fun _ h9 => h9) rfl dX2_step_303 ?_
                          refine W.endD hdd ?_
                          exact W.iret (v := gr) hx hb hr (fun t ht hW => ⟨⟨_, (0, jPh lo ph (mRef n ped rf lo sp) ped sp pr n, jPr mPr lo ph (mRef n ped rf lo sp) ped sp pr bo hd n, mo2, mRef n ped rf lo sp, gr, 0, st + 1, ch, rs), rfl, ⟨fun h => absurd h (by simp [fBad, c_1, c_2, c_3, c_4, c_6, c_18, c_19, c_20, c_23, c_27, c_28]), fun _ => ⟨mo2, by simp [sCode, sGr, sNx, c_1, c_2, c_3, c_4, c_6, c_18, c_19, c_20, c_23, c_27, c_28], by simp [sCode, sGr, c_1, c_2, c_3, c_4, c_6, c_18, c_19, c_20, c_23, c_27, c_28], fun k h1 h2 => by rw [jPr_in _ _ _ _ _ _ _ _ _ h1 h2]; exact hM.1 k h1 h2⟩⟩, xB_end hP hK hN hD ht hW⟩, hS.F ht⟩) hS.2.2 dX2_step_306
                        · skip
                          refine lv_aload_n hx hb dX2_step_272 rfl (lv_at hl 1 rfl) ?_
                          refine va_get (D := D) (ci := 2) (v := .long (mRef n ped rf lo sp)) (C := RX2) (T := TX2) (N := 14) hx hb hts (by decide +kernel) hown hK hP 0 rfl rfl 8 (by decide) (hts _ hm11) (fun _ h9 => h9) rfl dX2_step_273 ?_
                          refine lv_ldc2 hx hb hown (hts _ hm12) dX2_step_276 ?_
                          refine lv_aload_n hx hb dX2_step_279 rfl (lv_at hl 1 rfl) ?_
                          refine va_get (D := D) (ci := 2) (v := .int gr) (C := RX2) (T := TX2) (N := 14) hx hb hts (by decide +kernel) hown hK hP 0 rfl rfl 9 (by decide) (hts _ hm10) (fun _ h9 => h9) rfl dX2_step_280 ?_
                          refine lv_iconst (v := 1) hx hb dX2_step_283 (by decide) ?_
                          refine lv_isub hx hb dX2_step_284 ?_
                          refine lv_i2l hx hb dX2_step_285 rfl ?_
                          refine lv_lmul hx hb dX2_step_286 ?_
                          refine W.lcmp hx hb dX2_step_287 ?_
                          refine lv_if_ge (tgt := 302) hx hb dX2_step_288 (by decide) (fun c_29 => ?_) (fun c_29 => ?_)
                          · skip
                            replace c_29 := (lg_cmp_ge _ _).mp c_29
                            refine lv_aload_n hx hb dX2_step_302 rfl (lv_at hl 1 rfl) ?_
                            refine va_get (D := D) (ci := 2) (v := .int gr) (C := RX2) (T := TX2) (N := 14) hx hb hts (by decide +kernel) hown hK hP 0 rfl rfl 9 (by decide) (hts _ hm10) (fun _ h9 => h9) rfl dX2_step_303 ?_
                            refine W.endD hdd ?_
                            exact W.iret (v := gr) hx hb hr (fun t ht hW => ⟨⟨_, (0, jPh lo ph (mRef n ped rf lo sp) ped sp pr n, jPr mPr lo ph (mRef n ped rf lo sp) ped sp pr bo hd n, mo2, mRef n ped rf lo sp, gr, 0, st + 1, ch, rs), rfl, ⟨fun h => absurd h (by simp [fBad, c_1, c_2, c_3, c_4, c_6, c_18, c_19, c_20, c_23, c_27, c_28, c_29]), fun _ => ⟨mo2, by simp [sCode, sGr, sNx, c_1, c_2, c_3, c_4, c_6, c_18, c_19, c_20, c_23, c_27, c_28, c_29], by simp [sCode, sGr, c_1, c_2, c_3, c_4, c_6, c_18, c_19, c_20, c_23, c_27, c_28, c_29], fun k h1 h2 => by rw [jPr_in _ _ _ _ _ _ _ _ _ h1 h2]; exact hM.1 k h1 h2⟩⟩, xB_end hP hK hN hD ht hW⟩, hS.F ht⟩) hS.2.2 dX2_step_306
                          · skip
                            replace c_29 := mt (lg_cmp_ge _ _).mpr c_29
                            refine lv_aload_n hx hb dX2_step_291 rfl (lv_at hl 1 rfl) ?_
                            refine lv_aload_n hx hb dX2_step_292 rfl (lv_at hl 1 rfl) ?_
                            refine va_get (D := D) (ci := 2) (v := .int gr) (C := RX2) (T := TX2) (N := 14) hx hb hts (by decide +kernel) hown hK hP 0 rfl rfl 9 (by decide) (hts _ hm10) (fun _ h9 => h9) rfl dX2_step_293 ?_
                            refine lv_iconst (v := 1) hx hb dX2_step_296 (by decide) ?_
                            refine lv_isub hx hb dX2_step_297 ?_
                            refine lv_iconst (v := 3) hx hb dX2_step_298 (by decide) ?_
                            have hF := xF hD hS hA
                            refine va_callv (va_runV (As := [.int (gr - 1), .int 3]) (rest := []) ⟨hx, hb, hml, hown, hts⟩ (m2_turn l D m0 a C n 0 sp lo (jPh lo ph (mRef n ped rf lo sp) ped sp pr n) (jPr mPr lo ph (mRef n ped rf lo sp) ped sp pr bo hd n) bo mo2 (mRef n ped rf lo sp) gr 0 (st + 1) ch rs hn (gr - 1) 3 _) (cwV 2 hts gX2_step_X2_turn rfl rfl rfl (by decide +kernel) ⟨Nat.le_of_ble_eq_true rfl, Nat.le_of_ble_eq_true rfl⟩) ⟨xW_blind, va_recv hK hP (ci := 2) (q0 := 0) rfl rfl, xW_at hP hK hN hD⟩ rfl rfl hl.1 rfl (lv_room (Nat.le_of_ble_eq_true rfl)) dX2_step_299 ⟨Nat.le_of_ble_eq_true rfl, Nat.le_of_ble_eq_true rfl⟩) hS (fun q _ h => hF q h) hF (fun u t H locs ht hvm hpo hB hz1 hk1 hS => ?_)
                            obtain ⟨hP, hD⟩ := xB_use hB ht hF
                            obtain ⟨u1, u2, u3⟩ := u
                            dsimp only at hpo hP hD
                            rw [hpo.1, hpo.2.1, hpo.2.2] at hP hD
                            clear hB hk1 hz1 ht hvm
                            replace hP : va_P D vwCl (mw m0 a C 0 (nI n) sp lo (jPh lo ph (mRef n ped rf lo sp) ped sp pr n) (jPr mPr lo ph (mRef n ped rf lo sp) ped sp pr bo hd n) bo mo2 (mRef n ped rf lo sp) (gr - 1) 0 (st + 1) (st + 1) 3) H := hP
                            replace hD : va_D A (mw m0 a C 0 (nI n) sp lo (jPh lo ph (mRef n ped rf lo sp) ped sp pr n) (jPr mPr lo ph (mRef n ped rf lo sp) ped sp pr bo hd n) bo mo2 (mRef n ped rf lo sp) (gr - 1) 0 (st + 1) (st + 1) 3) := hD
                            refine lv_aload_n hx hb dX2_step_302 rfl (lv_at hl 1 rfl) ?_
                            refine va_get (D := D) (ci := 2) (v := .int (gr - 1)) (C := RX2) (T := TX2) (N := 14) hx hb hts (by decide +kernel) hown hK hP 0 rfl rfl 9 (by decide) (hts _ hm10) (fun _ h9 => h9) rfl dX2_step_303 ?_
                            refine W.endD hdd ?_
                            exact W.iret (v := (gr - 1)) hx hb hr (fun t ht hW => ⟨⟨_, (0, jPh lo ph (mRef n ped rf lo sp) ped sp pr n, jPr mPr lo ph (mRef n ped rf lo sp) ped sp pr bo hd n, mo2, mRef n ped rf lo sp, gr - 1, 0, st + 1, st + 1, 3), rfl, ⟨fun h => absurd h (by simp [fBad, c_1, c_2, c_3, c_4, c_6, c_18, c_19, c_20, c_23, c_27, c_28, c_29]), fun _ => ⟨mo2, by simp [sCode, sGr, sNx, c_1, c_2, c_3, c_4, c_6, c_18, c_19, c_20, c_23, c_27, c_28, c_29], by simp [sCode, sGr, c_1, c_2, c_3, c_4, c_6, c_18, c_19, c_20, c_23, c_27, c_28, c_29], fun k h1 h2 => by rw [jPr_in _ _ _ _ _ _ _ _ _ h1 h2]; exact hM.1 k h1 h2⟩⟩, xB_end hP hK hN hD ht hW⟩, hS.F ht⟩) hS.2.2 dX2_step_306
                      · skip
                        replace c_27 := mt (lg_cmp_le _ _).mpr c_27
                        refine lv_aload_n hx hb dX2_step_250 rfl (lv_at hl 1 rfl) ?_
                        refine lv_aload_n hx hb dX2_step_251 rfl (lv_at hl 1 rfl) ?_
                        refine va_get (D := D) (ci := 2) (v := .int gr) (C := RX2) (T := TX2) (N := 14) hx hb hts (by decide +kernel) hown hK hP 0 rfl rfl 9 (by decide) (hts _ hm10) (fun _ h9 => h9) rfl dX2_step_252 ?_
                        refine lv_iconst (v := 1) hx hb dX2_step_255 (by decide) ?_
                        refine lv_iadd hx hb dX2_step_256 ?_
                        refine lv_iconst (v := 3) hx hb dX2_step_257 (by decide) ?_
                        have hF := xF hD hS hA
                        refine va_callv (va_runV (As := [.int (gr + 1), .int 3]) (rest := []) ⟨hx, hb, hml, hown, hts⟩ (m2_turn l D m0 a C n 0 sp lo (jPh lo ph (mRef n ped rf lo sp) ped sp pr n) (jPr mPr lo ph (mRef n ped rf lo sp) ped sp pr bo hd n) bo mo2 (mRef n ped rf lo sp) gr 0 (st + 1) ch rs hn (gr + 1) 3 _) (cwV 2 hts gX2_step_X2_turn rfl rfl rfl (by decide +kernel) ⟨Nat.le_of_ble_eq_true rfl, Nat.le_of_ble_eq_true rfl⟩) ⟨xW_blind, va_recv hK hP (ci := 2) (q0 := 0) rfl rfl, xW_at hP hK hN hD⟩ rfl rfl hl.1 rfl (lv_room (Nat.le_of_ble_eq_true rfl)) dX2_step_258 ⟨Nat.le_of_ble_eq_true rfl, Nat.le_of_ble_eq_true rfl⟩) hS (fun q _ h => hF q h) hF (fun u t H locs ht hvm hpo hB hz1 hk1 hS => ?_)
                        obtain ⟨hP, hD⟩ := xB_use hB ht hF
                        obtain ⟨u1, u2, u3⟩ := u
                        dsimp only at hpo hP hD
                        rw [hpo.1, hpo.2.1, hpo.2.2] at hP hD
                        clear hB hk1 hz1 ht hvm
                        replace hP : va_P D vwCl (mw m0 a C 0 (nI n) sp lo (jPh lo ph (mRef n ped rf lo sp) ped sp pr n) (jPr mPr lo ph (mRef n ped rf lo sp) ped sp pr bo hd n) bo mo2 (mRef n ped rf lo sp) (gr + 1) 0 (st + 1) (st + 1) 3) H := hP
                        replace hD : va_D A (mw m0 a C 0 (nI n) sp lo (jPh lo ph (mRef n ped rf lo sp) ped sp pr n) (jPr mPr lo ph (mRef n ped rf lo sp) ped sp pr bo hd n) bo mo2 (mRef n ped rf lo sp) (gr + 1) 0 (st + 1) (st + 1) 3) := hD
                        refine lv_goto (tgt := 302) hx hb dX2_step_261 (by decide) ?_
                        refine lv_aload_n hx hb dX2_step_302 rfl (lv_at hl 1 rfl) ?_
                        refine va_get (D := D) (ci := 2) (v := .int (gr + 1)) (C := RX2) (T := TX2) (N := 14) hx hb hts (by decide +kernel) hown hK hP 0 rfl rfl 9 (by decide) (hts _ hm10) (fun _ h9 => h9) rfl dX2_step_303 ?_
                        refine W.endD hdd ?_
                        exact W.iret (v := (gr + 1)) hx hb hr (fun t ht hW => ⟨⟨_, (0, jPh lo ph (mRef n ped rf lo sp) ped sp pr n, jPr mPr lo ph (mRef n ped rf lo sp) ped sp pr bo hd n, mo2, mRef n ped rf lo sp, gr + 1, 0, st + 1, st + 1, 3), rfl, ⟨fun h => absurd h (by simp [fBad, c_1, c_2, c_3, c_4, c_6, c_18, c_19, c_20, c_23, c_27]), fun _ => ⟨mo2, by simp [sCode, sGr, sNx, c_1, c_2, c_3, c_4, c_6, c_18, c_19, c_20, c_23, c_27], by simp [sCode, sGr, c_1, c_2, c_3, c_4, c_6, c_18, c_19, c_20, c_23, c_27], fun k h1 h2 => by rw [jPr_in _ _ _ _ _ _ _ _ _ h1 h2]; exact hM.1 k h1 h2⟩⟩, xB_end hP hK hN hD ht hW⟩, hS.F ht⟩) hS.2.2 dX2_step_306
              · skip
                replace c_18 := mt (lg_cmp_gt _ _).mpr c_18
                refine lv_iconst (v := 1) hx hb dX2_step_184 (by decide) ?_
                refine lv_goto (tgt := 189) hx hb dX2_step_185 (by decide) ?_
                refine va_put (D := D) (ci := 2) (v := .int 1) (ty := .boolean) (C := RX2) (T := TX2) (N := 14) hx hb hts (by decide +kernel) tyX2 tyX2_ok nmX2 hown hK hP hD hS 0 rfl rfl 10 (by decide) (hts _ hm7) (fun _ h9 => h9) rfl (by decide +kernel) rfl rfl (Nat.le_of_ble_eq_true rfl) dX2_step_189 (fun H locs hP hD hS => ?_)
                replace hP : va_P D vwCl (mw m0 a C 0 (nI n) sp lo (jPh lo ph (mRef n ped rf lo sp) ped sp pr n) (jPr mPr lo ph (mRef n ped rf lo sp) ped sp pr bo hd n) bo mo2 (mRef n ped rf lo sp) gr 1 (st + 1) ch rs) H := hP
                replace hD : va_D A (mw m0 a C 0 (nI n) sp lo (jPh lo ph (mRef n ped rf lo sp) ped sp pr n) (jPr mPr lo ph (mRef n ped rf lo sp) ped sp pr bo hd n) bo mo2 (mRef n ped rf lo sp) gr 1 (st + 1) ch rs) := hD
                refine lv_aload_n hx hb dX2_step_192 rfl (lv_at hl 1 rfl) ?_
                refine va_get (D := D) (ci := 2) (v := .int (st + 1)) (C := RX2) (T := TX2) (N := 14) hx hb hts (by decide +kernel) hown hK hP 0 rfl rfl 11 (by decide) (hts _ hm5) (fun _ h9 => h9) rfl dX2_step_193 ?_
                refine lv_aload_n hx hb dX2_step_196 rfl (lv_at hl 1 rfl) ?_
                refine va_get (D := D) (ci := 2) (v := .int ch) (C := RX2) (T := TX2) (N := 14) hx hb hts (by decide +kernel) hown hK hP 0 rfl rfl 12 (by decide) (hts _ hm8) (fun _ h9 => h9) rfl dX2_step_197 ?_
                refine lv_isub hx hb dX2_step_200 ?_
                refine lv_aload_n hx hb dX2_step_201 rfl (lv_at hl 1 rfl) ?_
                refine va_get (D := D) (ci := 2) (v := .int rs) (C := RX2) (T := TX2) (N := 14) hx hb hts (by decide +kernel) hown hK hP 0 rfl rfl 13 (by decide) (hts _ hm9) (fun _ h9 => h9) rfl dX2_step_202 ?_
                refine lv_icmp_lt (tgt := 302) hx hb dX2_step_205 (by decide) (fun c_30 => ?_) (fun c_30 => ?_)
                · skip
                  refine lv_aload_n hx hb dX2_step_302 rfl (lv_at hl 1 rfl) ?_
                  refine va_get (D := D) (ci := 2) (v := .int gr) (C := RX2) (T := TX2) (N := 14) hx hb hts (by decide +kernel) hown hK hP 0 rfl rfl 9 (by decide) (hts _ hm10) (fun _ h9 => h9) rfl dX2_step_303 ?_
                  refine W.endD hdd ?_
                  exact W.iret (v := gr) hx hb hr (fun t ht hW => ⟨⟨_, (0, jPh lo ph (mRef n ped rf lo sp) ped sp pr n, jPr mPr lo ph (mRef n ped rf lo sp) ped sp pr bo hd n, mo2, mRef n ped rf lo sp, gr, 1, st + 1, ch, rs), rfl, ⟨fun h => absurd h (by simp [fBad, c_1, c_2, c_3, c_4, c_6, c_18, c_30]), fun _ => ⟨mo2, by simp [sCode, sGr, sNx, c_1, c_2, c_3, c_4, c_6, c_18, c_30], by simp [sCode, sGr, c_1, c_2, c_3, c_4, c_6, c_18, c_30], fun k h1 h2 => by rw [jPr_in _ _ _ _ _ _ _ _ _ h1 h2]; exact hM.1 k h1 h2⟩⟩, xB_end hP hK hN hD ht hW⟩, hS.F ht⟩) hS.2.2 dX2_step_306
                · skip
                  refine lv_aload_n hx hb dX2_step_208 rfl (lv_at hl 1 rfl) ?_
                  refine va_get (D := D) (ci := 2) (v := .int gr) (C := RX2) (T := TX2) (N := 14) hx hb hts (by decide +kernel) hown hK hP 0 rfl rfl 9 (by decide) (hts _ hm10) (fun _ h9 => h9) rfl dX2_step_209 ?_
                  refine lv_bipush (v := 6) hx hb dX2_step_212 (by decide) ?_
                  refine lv_icmp_ge (tgt := 264) hx hb dX2_step_214 (by decide) (fun c_31 => ?_) (fun c_31 => ?_)
                  · skip
                    refine lv_aload_n hx hb dX2_step_264 rfl (lv_at hl 1 rfl) ?_
                    refine va_get (D := D) (ci := 2) (v := .int gr) (C := RX2) (T := TX2) (N := 14) hx hb hts (by decide +kernel) hown hK hP 0 rfl rfl 9 (by decide) (hts _ hm10) (fun _ h9 => h9) rfl dX2_step_265 ?_
                    refine lv_iconst (v := 1) hx hb dX2_step_268 (by decide) ?_
                    refine lv_icmp_le (tgt := 302) hx hb dX2_step_269 (by decide) (fun c_32 => ?_) (fun c_32 => ?_)
                    · skip
                      refine lv_aload_n hx hb dX2_step_302 rfl (lv_at hl 1 rfl) ?_
                      refine va_get (D := D) (ci := 2) (v := .int gr) (C := RX2) (T := TX2) (N := 14) hx hb hts (by decide +kernel) hown hK hP 0 rfl rfl 9 (by decide) (hts _ hm10) (fun _ h9 => h9) rfl dX2_step_303 ?_
                      refine W.endD hdd ?_
                      exact W.iret (v := gr) hx hb hr (fun t ht hW => ⟨⟨_, (0, jPh lo ph (mRef n ped rf lo sp) ped sp pr n, jPr mPr lo ph (mRef n ped rf lo sp) ped sp pr bo hd n, mo2, mRef n ped rf lo sp, gr, 1, st + 1, ch, rs), rfl, ⟨fun h => absurd h (by simp [fBad, c_1, c_2, c_3, c_4, c_6, c_18, c_30, c_31, c_32]), fun _ => ⟨mo2, by simp [sCode, sGr, sNx, c_1, c_2, c_3, c_4, c_6, c_18, c_30, c_31, c_32], by simp [sCode, sGr, c_1, c_2, c_3, c_4, c_6, c_18, c_30, c_31, c_32], fun k h1 h2 => by rw [jPr_in _ _ _ _ _ _ _ _ _ h1 h2]; exact hM.1 k h1 h2⟩⟩, xB_end hP hK hN hD ht hW⟩, hS.F ht⟩) hS.2.2 dX2_step_306
                    · skip
                      refine lv_aload_n hx hb dX2_step_272 rfl (lv_at hl 1 rfl) ?_
                      refine va_get (D := D) (ci := 2) (v := .long (mRef n ped rf lo sp)) (C := RX2) (T := TX2) (N := 14) hx hb hts (by decide +kernel) hown hK hP 0 rfl rfl 8 (by decide) (hts _ hm11) (fun _ h9 => h9) rfl dX2_step_273 ?_
                      refine lv_ldc2 hx hb hown (hts _ hm12) dX2_step_276 ?_
                      refine lv_aload_n hx hb dX2_step_279 rfl (lv_at hl 1 rfl) ?_
                      refine va_get (D := D) (ci := 2) (v := .int gr) (C := RX2) (T := TX2) (N := 14) hx hb hts (by decide +kernel) hown hK hP 0 rfl rfl 9 (by decide) (hts _ hm10) (fun _ h9 => h9) rfl dX2_step_280 ?_
                      refine lv_iconst (v := 1) hx hb dX2_step_283 (by decide) ?_
                      refine lv_isub hx hb dX2_step_284 ?_
                      refine lv_i2l hx hb dX2_step_285 rfl ?_
                      refine lv_lmul hx hb dX2_step_286 ?_
                      refine W.lcmp hx hb dX2_step_287 ?_
                      refine lv_if_ge (tgt := 302) hx hb dX2_step_288 (by decide) (fun c_33 => ?_) (fun c_33 => ?_)
                      · skip
                        replace c_33 := (lg_cmp_ge _ _).mp c_33
                        refine lv_aload_n hx hb dX2_step_302 rfl (lv_at hl 1 rfl) ?_
                        refine va_get (D := D) (ci := 2) (v := .int gr) (C := RX2) (T := TX2) (N := 14) hx hb hts (by decide +kernel) hown hK hP 0 rfl rfl 9 (by decide) (hts _ hm10) (fun _ h9 => h9) rfl dX2_step_303 ?_
                        refine W.endD hdd ?_
                        exact W.iret (v := gr) hx hb hr (fun t ht hW => ⟨⟨_, (0, jPh lo ph (mRef n ped rf lo sp) ped sp pr n, jPr mPr lo ph (mRef n ped rf lo sp) ped sp pr bo hd n, mo2, mRef n ped rf lo sp, gr, 1, st + 1, ch, rs), rfl, ⟨fun h => absurd h (by simp [fBad, c_1, c_2, c_3, c_4, c_6, c_18, c_30, c_31, c_32, c_33]), fun _ => ⟨mo2, by simp [sCode, sGr, sNx, c_1, c_2, c_3, c_4, c_6, c_18, c_30, c_31, c_32, c_33], by simp [sCode, sGr, c_1, c_2, c_3, c_4, c_6, c_18, c_30, c_31, c_32, c_33], fun k h1 h2 => by rw [jPr_in _ _ _ _ _ _ _ _ _ h1 h2]; exact hM.1 k h1 h2⟩⟩, xB_end hP hK hN hD ht hW⟩, hS.F ht⟩) hS.2.2 dX2_step_306
                      · skip
                        replace c_33 := mt (lg_cmp_ge _ _).mpr c_33
                        refine lv_aload_n hx hb dX2_step_291 rfl (lv_at hl 1 rfl) ?_
                        refine lv_aload_n hx hb dX2_step_292 rfl (lv_at hl 1 rfl) ?_
                        refine va_get (D := D) (ci := 2) (v := .int gr) (C := RX2) (T := TX2) (N := 14) hx hb hts (by decide +kernel) hown hK hP 0 rfl rfl 9 (by decide) (hts _ hm10) (fun _ h9 => h9) rfl dX2_step_293 ?_
                        refine lv_iconst (v := 1) hx hb dX2_step_296 (by decide) ?_
                        refine lv_isub hx hb dX2_step_297 ?_
                        refine lv_iconst (v := 3) hx hb dX2_step_298 (by decide) ?_
                        have hF := xF hD hS hA
                        refine va_callv (va_runV (As := [.int (gr - 1), .int 3]) (rest := []) ⟨hx, hb, hml, hown, hts⟩ (m2_turn l D m0 a C n 0 sp lo (jPh lo ph (mRef n ped rf lo sp) ped sp pr n) (jPr mPr lo ph (mRef n ped rf lo sp) ped sp pr bo hd n) bo mo2 (mRef n ped rf lo sp) gr 1 (st + 1) ch rs hn (gr - 1) 3 _) (cwV 2 hts gX2_step_X2_turn rfl rfl rfl (by decide +kernel) ⟨Nat.le_of_ble_eq_true rfl, Nat.le_of_ble_eq_true rfl⟩) ⟨xW_blind, va_recv hK hP (ci := 2) (q0 := 0) rfl rfl, xW_at hP hK hN hD⟩ rfl rfl hl.1 rfl (lv_room (Nat.le_of_ble_eq_true rfl)) dX2_step_299 ⟨Nat.le_of_ble_eq_true rfl, Nat.le_of_ble_eq_true rfl⟩) hS (fun q _ h => hF q h) hF (fun u t H locs ht hvm hpo hB hz1 hk1 hS => ?_)
                        obtain ⟨hP, hD⟩ := xB_use hB ht hF
                        obtain ⟨u1, u2, u3⟩ := u
                        dsimp only at hpo hP hD
                        rw [hpo.1, hpo.2.1, hpo.2.2] at hP hD
                        clear hB hk1 hz1 ht hvm
                        replace hP : va_P D vwCl (mw m0 a C 0 (nI n) sp lo (jPh lo ph (mRef n ped rf lo sp) ped sp pr n) (jPr mPr lo ph (mRef n ped rf lo sp) ped sp pr bo hd n) bo mo2 (mRef n ped rf lo sp) (gr - 1) 1 (st + 1) (st + 1) 3) H := hP
                        replace hD : va_D A (mw m0 a C 0 (nI n) sp lo (jPh lo ph (mRef n ped rf lo sp) ped sp pr n) (jPr mPr lo ph (mRef n ped rf lo sp) ped sp pr bo hd n) bo mo2 (mRef n ped rf lo sp) (gr - 1) 1 (st + 1) (st + 1) 3) := hD
                        refine lv_aload_n hx hb dX2_step_302 rfl (lv_at hl 1 rfl) ?_
                        refine va_get (D := D) (ci := 2) (v := .int (gr - 1)) (C := RX2) (T := TX2) (N := 14) hx hb hts (by decide +kernel) hown hK hP 0 rfl rfl 9 (by decide) (hts _ hm10) (fun _ h9 => h9) rfl dX2_step_303 ?_
                        refine W.endD hdd ?_
                        exact W.iret (v := (gr - 1)) hx hb hr (fun t ht hW => ⟨⟨_, (0, jPh lo ph (mRef n ped rf lo sp) ped sp pr n, jPr mPr lo ph (mRef n ped rf lo sp) ped sp pr bo hd n, mo2, mRef n ped rf lo sp, gr - 1, 1, st + 1, st + 1, 3), rfl, ⟨fun h => absurd h (by simp [fBad, c_1, c_2, c_3, c_4, c_6, c_18, c_30, c_31, c_32, c_33]), fun _ => ⟨mo2, by simp [sCode, sGr, sNx, c_1, c_2, c_3, c_4, c_6, c_18, c_30, c_31, c_32, c_33], by simp [sCode, sGr, c_1, c_2, c_3, c_4, c_6, c_18, c_30, c_31, c_32, c_33], fun k h1 h2 => by rw [jPr_in _ _ _ _ _ _ _ _ _ h1 h2]; exact hM.1 k h1 h2⟩⟩, xB_end hP hK hN hD ht hW⟩, hS.F ht⟩) hS.2.2 dX2_step_306
                  · skip
                    refine lv_aload_n hx hb dX2_step_217 rfl (lv_at hl 1 rfl) ?_
                    refine va_get (D := D) (ci := 2) (v := .long (mRef n ped rf lo sp)) (C := RX2) (T := TX2) (N := 14) hx hb hts (by decide +kernel) hown hK hP 0 rfl rfl 8 (by decide) (hts _ hm11) (fun _ h9 => h9) rfl dX2_step_218 ?_
                    refine lv_ldc2 hx hb hown (hts _ hm12) dX2_step_221 ?_
                    refine lv_aload_n hx hb dX2_step_224 rfl (lv_at hl 1 rfl) ?_
                    refine va_get (D := D) (ci := 2) (v := .int gr) (C := RX2) (T := TX2) (N := 14) hx hb hts (by decide +kernel) hown hK hP 0 rfl rfl 9 (by decide) (hts _ hm10) (fun _ h9 => h9) rfl dX2_step_225 ?_
                    refine lv_i2l hx hb dX2_step_228 rfl ?_
                    refine lv_lmul hx hb dX2_step_229 ?_
                    refine lv_ldc2 hx hb hown (hts _ hm13) dX2_step_230 ?_
                    refine lv_ladd hx hb dX2_step_233 ?_
                    refine lv_lload_n hx hb dX2_step_234 rfl (lv_at hl 3 rfl) ?_
                    refine lv_lconst (v := 0) hx hb dX2_step_235 (by decide) ?_
                    refine W.lcmp hx hb dX2_step_236 ?_
                    refine lv_if_le (tgt := 244) hx hb dX2_step_237 (by decide) (fun c_34 => ?_) (fun c_34 => ?_)
                    · skip
                      replace c_34 := (lg_cmp_le _ _).mp c_34
                      refine lv_lconst (v := 0) hx hb dX2_step_244 (by decide) ?_
                      refine W.eq (g2 := F0 m 245 ls [.long (mMx sl), .long ((20 * gr.toInt64) + 10), .long (mRef n ped rf lo sp)]) (by simp [mMx, c_34]) ?_
                      refine lv_ladd hx hb dX2_step_245 ?_
                      refine W.lcmp hx hb dX2_step_246 ?_
                      refine lv_if_le (tgt := 264) hx hb dX2_step_247 (by decide) (fun c_35 => ?_) (fun c_35 => ?_)
                      · skip
                        replace c_35 := (lg_cmp_le _ _).mp c_35
                        refine lv_aload_n hx hb dX2_step_264 rfl (lv_at hl 1 rfl) ?_
                        refine va_get (D := D) (ci := 2) (v := .int gr) (C := RX2) (T := TX2) (N := 14) hx hb hts (by decide +kernel) hown hK hP 0 rfl rfl 9 (by decide) (hts _ hm10) (fun _ h9 => h9) rfl dX2_step_265 ?_
                        refine lv_iconst (v := 1) hx hb dX2_step_268 (by decide) ?_
                        refine lv_icmp_le (tgt := 302) hx hb dX2_step_269 (by decide) (fun c_36 => ?_) (fun c_36 => ?_)
                        · skip
                          refine lv_aload_n hx hb dX2_step_302 rfl (lv_at hl 1 rfl) ?_
                          refine va_get (D := D) (ci := 2) (v := .int gr) (C := RX2) (T := TX2) (N := 14) hx hb hts (by decide +kernel) hown hK hP 0 rfl rfl 9 (by decide) (hts _ hm10) (fun _ h9 => h9) rfl dX2_step_303 ?_
                          refine W.endD hdd ?_
                          exact W.iret (v := gr) hx hb hr (fun t ht hW => ⟨⟨_, (0, jPh lo ph (mRef n ped rf lo sp) ped sp pr n, jPr mPr lo ph (mRef n ped rf lo sp) ped sp pr bo hd n, mo2, mRef n ped rf lo sp, gr, 1, st + 1, ch, rs), rfl, ⟨fun h => absurd h (by simp [fBad, c_1, c_2, c_3, c_4, c_6, c_18, c_30, c_31, c_34, c_35, c_36]), fun _ => ⟨mo2, by simp [sCode, sGr, sNx, c_1, c_2, c_3, c_4, c_6, c_18, c_30, c_31, c_34, c_35, c_36], by simp [sCode, sGr, c_1, c_2, c_3, c_4, c_6, c_18, c_30, c_31, c_34, c_35, c_36], fun k h1 h2 => by rw [jPr_in _ _ _ _ _ _ _ _ _ h1 h2]; exact hM.1 k h1 h2⟩⟩, xB_end hP hK hN hD ht hW⟩, hS.F ht⟩) hS.2.2 dX2_step_306
                        · skip
                          refine lv_aload_n hx hb dX2_step_272 rfl (lv_at hl 1 rfl) ?_
                          refine va_get (D := D) (ci := 2) (v := .long (mRef n ped rf lo sp)) (C := RX2) (T := TX2) (N := 14) hx hb hts (by decide +kernel) hown hK hP 0 rfl rfl 8 (by decide) (hts _ hm11) (fun _ h9 => h9) rfl dX2_step_273 ?_
                          refine lv_ldc2 hx hb hown (hts _ hm12) dX2_step_276 ?_
                          refine lv_aload_n hx hb dX2_step_279 rfl (lv_at hl 1 rfl) ?_
                          refine va_get (D := D) (ci := 2) (v := .int gr) (C := RX2) (T := TX2) (N := 14) hx hb hts (by decide +kernel) hown hK hP 0 rfl rfl 9 (by decide) (hts _ hm10) (fun _ h9 => h9) rfl dX2_step_280 ?_
                          refine lv_iconst (v := 1) hx hb dX2_step_283 (by decide) ?_
                          refine lv_isub hx hb dX2_step_284 ?_
                          refine lv_i2l hx hb dX2_step_285 rfl ?_
                          refine lv_lmul hx hb dX2_step_286 ?_
                          refine W.lcmp hx hb dX2_step_287 ?_
                          refine lv_if_ge (tgt := 302) hx hb dX2_step_288 (by decide) (fun c_37 => ?_) (fun c_37 => ?_)
                          · skip
                            replace c_37 := (lg_cmp_ge _ _).mp c_37
                            refine lv_aload_n hx hb dX2_step_302 rfl (lv_at hl 1 rfl) ?_
                            refine va_get (D := D) (ci := 2) (v := .int gr) (C := RX2) (T := TX2) (N := 14) hx hb hts (by decide +kernel) hown hK hP 0 rfl rfl 9 (by decide) (hts _ hm10) (fun _ h9 => h9) rfl dX2_step_303 ?_
                            refine W.endD hdd ?_
                            exact W.iret (v := gr) hx hb hr (fun t ht hW => ⟨⟨_, (0, jPh lo ph (mRef n ped rf lo sp) ped sp pr n, jPr mPr lo ph (mRef n ped rf lo sp) ped sp pr bo hd n, mo2, mRef n ped rf lo sp, gr, 1, st + 1, ch, rs), rfl, ⟨fun h => absurd h (by simp [fBad, c_1, c_2, c_3, c_4, c_6, c_18, c_30, c_31, c_34, c_35, c_36, c_37]), fun _ => ⟨mo2, by simp [sCode, sGr, sNx, c_1, c_2, c_3, c_4, c_6, c_18, c_30, c_31, c_34, c_35, c_36, c_37], by simp [sCode, sGr, c_1, c_2, c_3, c_4, c_6, c_18, c_30, c_31, c_34, c_35, c_36, c_37], fun k h1 h2 => by rw [jPr_in _ _ _ _ _ _ _ _ _ h1 h2]; exact hM.1 k h1 h2⟩⟩, xB_end hP hK hN hD ht hW⟩, hS.F ht⟩) hS.2.2 dX2_step_306
                          · skip
                            replace c_37 := mt (lg_cmp_ge _ _).mpr c_37
                            refine lv_aload_n hx hb dX2_step_291 rfl (lv_at hl 1 rfl) ?_
                            refine lv_aload_n hx hb dX2_step_292 rfl (lv_at hl 1 rfl) ?_
                            refine va_get (D := D) (ci := 2) (v := .int gr) (C := RX2) (T := TX2) (N := 14) hx hb hts (by decide +kernel) hown hK hP 0 rfl rfl 9 (by decide) (hts _ hm10) (fun _ h9 => h9) rfl dX2_step_293 ?_
                            refine lv_iconst (v := 1) hx hb dX2_step_296 (by decide) ?_
                            refine lv_isub hx hb dX2_step_297 ?_
                            refine lv_iconst (v := 3) hx hb dX2_step_298 (by decide) ?_
                            have hF := xF hD hS hA
                            refine va_callv (va_runV (As := [.int (gr - 1), .int 3]) (rest := []) ⟨hx, hb, hml, hown, hts⟩ (m2_turn l D m0 a C n 0 sp lo (jPh lo ph (mRef n ped rf lo sp) ped sp pr n) (jPr mPr lo ph (mRef n ped rf lo sp) ped sp pr bo hd n) bo mo2 (mRef n ped rf lo sp) gr 1 (st + 1) ch rs hn (gr - 1) 3 _) (cwV 2 hts gX2_step_X2_turn rfl rfl rfl (by decide +kernel) ⟨Nat.le_of_ble_eq_true rfl, Nat.le_of_ble_eq_true rfl⟩) ⟨xW_blind, va_recv hK hP (ci := 2) (q0 := 0) rfl rfl, xW_at hP hK hN hD⟩ rfl rfl hl.1 rfl (lv_room (Nat.le_of_ble_eq_true rfl)) dX2_step_299 ⟨Nat.le_of_ble_eq_true rfl, Nat.le_of_ble_eq_true rfl⟩) hS (fun q _ h => hF q h) hF (fun u t H locs ht hvm hpo hB hz1 hk1 hS => ?_)
                            obtain ⟨hP, hD⟩ := xB_use hB ht hF
                            obtain ⟨u1, u2, u3⟩ := u
                            dsimp only at hpo hP hD
                            rw [hpo.1, hpo.2.1, hpo.2.2] at hP hD
                            clear hB hk1 hz1 ht hvm
                            replace hP : va_P D vwCl (mw m0 a C 0 (nI n) sp lo (jPh lo ph (mRef n ped rf lo sp) ped sp pr n) (jPr mPr lo ph (mRef n ped rf lo sp) ped sp pr bo hd n) bo mo2 (mRef n ped rf lo sp) (gr - 1) 1 (st + 1) (st + 1) 3) H := hP
                            replace hD : va_D A (mw m0 a C 0 (nI n) sp lo (jPh lo ph (mRef n ped rf lo sp) ped sp pr n) (jPr mPr lo ph (mRef n ped rf lo sp) ped sp pr bo hd n) bo mo2 (mRef n ped rf lo sp) (gr - 1) 1 (st + 1) (st + 1) 3) := hD
                            refine lv_aload_n hx hb dX2_step_302 rfl (lv_at hl 1 rfl) ?_
                            refine va_get (D := D) (ci := 2) (v := .int (gr - 1)) (C := RX2) (T := TX2) (N := 14) hx hb hts (by decide +kernel) hown hK hP 0 rfl rfl 9 (by decide) (hts _ hm10) (fun _ h9 => h9) rfl dX2_step_303 ?_
                            refine W.endD hdd ?_
                            exact W.iret (v := (gr - 1)) hx hb hr (fun t ht hW => ⟨⟨_, (0, jPh lo ph (mRef n ped rf lo sp) ped sp pr n, jPr mPr lo ph (mRef n ped rf lo sp) ped sp pr bo hd n, mo2, mRef n ped rf lo sp, gr - 1, 1, st + 1, st + 1, 3), rfl, ⟨fun h => absurd h (by simp [fBad, c_1, c_2, c_3, c_4, c_6, c_18, c_30, c_31, c_34, c_35, c_36, c_37]), fun _ => ⟨mo2, by simp [sCode, sGr, sNx, c_1, c_2, c_3, c_4, c_6, c_18, c_30, c_31, c_34, c_35, c_36, c_37], by simp [sCode, sGr, c_1, c_2, c_3, c_4, c_6, c_18, c_30, c_31, c_34, c_35, c_36, c_37], fun k h1 h2 => by rw [jPr_in _ _ _ _ _ _ _ _ _ h1 h2]; exact hM.1 k h1 h2⟩⟩, xB_end hP hK hN hD ht hW⟩, hS.F ht⟩) hS.2.2 dX2_step_306
                      · skip
                        replace c_35 := mt (lg_cmp_le _ _).mpr c_35
                        refine lv_aload_n hx hb dX2_step_250 rfl (lv_at hl 1 rfl) ?_
                        refine lv_aload_n hx hb dX2_step_251 rfl (lv_at hl 1 rfl) ?_
                        refine va_get (D := D) (ci := 2) (v := .int gr) (C := RX2) (T := TX2) (N := 14) hx hb hts (by decide +kernel) hown hK hP 0 rfl rfl 9 (by decide) (hts _ hm10) (fun _ h9 => h9) rfl dX2_step_252 ?_
                        refine lv_iconst (v := 1) hx hb dX2_step_255 (by decide) ?_
                        refine lv_iadd hx hb dX2_step_256 ?_
                        refine lv_iconst (v := 3) hx hb dX2_step_257 (by decide) ?_
                        have hF := xF hD hS hA
                        refine va_callv (va_runV (As := [.int (gr + 1), .int 3]) (rest := []) ⟨hx, hb, hml, hown, hts⟩ (m2_turn l D m0 a C n 0 sp lo (jPh lo ph (mRef n ped rf lo sp) ped sp pr n) (jPr mPr lo ph (mRef n ped rf lo sp) ped sp pr bo hd n) bo mo2 (mRef n ped rf lo sp) gr 1 (st + 1) ch rs hn (gr + 1) 3 _) (cwV 2 hts gX2_step_X2_turn rfl rfl rfl (by decide +kernel) ⟨Nat.le_of_ble_eq_true rfl, Nat.le_of_ble_eq_true rfl⟩) ⟨xW_blind, va_recv hK hP (ci := 2) (q0 := 0) rfl rfl, xW_at hP hK hN hD⟩ rfl rfl hl.1 rfl (lv_room (Nat.le_of_ble_eq_true rfl)) dX2_step_258 ⟨Nat.le_of_ble_eq_true rfl, Nat.le_of_ble_eq_true rfl⟩) hS (fun q _ h => hF q h) hF (fun u t H locs ht hvm hpo hB hz1 hk1 hS => ?_)
                        obtain ⟨hP, hD⟩ := xB_use hB ht hF
                        obtain ⟨u1, u2, u3⟩ := u
                        dsimp only at hpo hP hD
                        rw [hpo.1, hpo.2.1, hpo.2.2] at hP hD
                        clear hB hk1 hz1 ht hvm
                        replace hP : va_P D vwCl (mw m0 a C 0 (nI n) sp lo (jPh lo ph (mRef n ped rf lo sp) ped sp pr n) (jPr mPr lo ph (mRef n ped rf lo sp) ped sp pr bo hd n) bo mo2 (mRef n ped rf lo sp) (gr + 1) 1 (st + 1) (st + 1) 3) H := hP
                        replace hD : va_D A (mw m0 a C 0 (nI n) sp lo (jPh lo ph (mRef n ped rf lo sp) ped sp pr n) (jPr mPr lo ph (mRef n ped rf lo sp) ped sp pr bo hd n) bo mo2 (mRef n ped rf lo sp) (gr + 1) 1 (st + 1) (st + 1) 3) := hD
                        refine lv_goto (tgt := 302) hx hb dX2_step_261 (by decide) ?_
                        refine lv_aload_n hx hb dX2_step_302 rfl (lv_at hl 1 rfl) ?_
                        refine va_get (D := D) (ci := 2) (v := .int (gr + 1)) (C := RX2) (T := TX2) (N := 14) hx hb hts (by decide +kernel) hown hK hP 0 rfl rfl 9 (by decide) (hts _ hm10) (fun _ h9 => h9) rfl dX2_step_303 ?_
                        refine W.endD hdd ?_
                        exact W.iret (v := (gr + 1)) hx hb hr (fun t ht hW => ⟨⟨_, (0, jPh lo ph (mRef n ped rf lo sp) ped sp pr n, jPr mPr lo ph (mRef n ped rf lo sp) ped sp pr bo hd n, mo2, mRef n ped rf lo sp, gr + 1, 1, st + 1, st + 1, 3), rfl, ⟨fun h => absurd h (by simp [fBad, c_1, c_2, c_3, c_4, c_6, c_18, c_30, c_31, c_34, c_35]), fun _ => ⟨mo2, by simp [sCode, sGr, sNx, c_1, c_2, c_3, c_4, c_6, c_18, c_30, c_31, c_34, c_35], by simp [sCode, sGr, c_1, c_2, c_3, c_4, c_6, c_18, c_30, c_31, c_34, c_35], fun k h1 h2 => by rw [jPr_in _ _ _ _ _ _ _ _ _ h1 h2]; exact hM.1 k h1 h2⟩⟩, xB_end hP hK hN hD ht hW⟩, hS.F ht⟩) hS.2.2 dX2_step_306
                    · skip
                      replace c_34 := mt (lg_cmp_le _ _).mpr c_34
                      refine lv_lload_n hx hb dX2_step_240 rfl (lv_at hl 3 rfl) ?_
                      refine lv_goto (tgt := 245) hx hb dX2_step_241 (by decide) ?_
                      refine W.eq (g2 := F0 m 245 ls [.long (mMx sl), .long ((20 * gr.toInt64) + 10), .long (mRef n ped rf lo sp)]) (by simp [mMx, c_34]) ?_
                      refine lv_ladd hx hb dX2_step_245 ?_
                      refine W.lcmp hx hb dX2_step_246 ?_
                      refine lv_if_le (tgt := 264) hx hb dX2_step_247 (by decide) (fun c_38 => ?_) (fun c_38 => ?_)
                      · skip
                        replace c_38 := (lg_cmp_le _ _).mp c_38
                        refine lv_aload_n hx hb dX2_step_264 rfl (lv_at hl 1 rfl) ?_
                        refine va_get (D := D) (ci := 2) (v := .int gr) (C := RX2) (T := TX2) (N := 14) hx hb hts (by decide +kernel) hown hK hP 0 rfl rfl 9 (by decide) (hts _ hm10) (fun _ h9 => h9) rfl dX2_step_265 ?_
                        refine lv_iconst (v := 1) hx hb dX2_step_268 (by decide) ?_
                        refine lv_icmp_le (tgt := 302) hx hb dX2_step_269 (by decide) (fun c_39 => ?_) (fun c_39 => ?_)
                        · skip
                          refine lv_aload_n hx hb dX2_step_302 rfl (lv_at hl 1 rfl) ?_
                          refine va_get (D := D) (ci := 2) (v := .int gr) (C := RX2) (T := TX2) (N := 14) hx hb hts (by decide +kernel) hown hK hP 0 rfl rfl 9 (by decide) (hts _ hm10) (fun _ h9 => h9) rfl dX2_step_303 ?_
                          refine W.endD hdd ?_
                          exact W.iret (v := gr) hx hb hr (fun t ht hW => ⟨⟨_, (0, jPh lo ph (mRef n ped rf lo sp) ped sp pr n, jPr mPr lo ph (mRef n ped rf lo sp) ped sp pr bo hd n, mo2, mRef n ped rf lo sp, gr, 1, st + 1, ch, rs), rfl, ⟨fun h => absurd h (by simp [fBad, c_1, c_2, c_3, c_4, c_6, c_18, c_30, c_31, c_34, c_38, c_39]), fun _ => ⟨mo2, by simp [sCode, sGr, sNx, c_1, c_2, c_3, c_4, c_6, c_18, c_30, c_31, c_34, c_38, c_39], by simp [sCode, sGr, c_1, c_2, c_3, c_4, c_6, c_18, c_30, c_31, c_34, c_38, c_39], fun k h1 h2 => by rw [jPr_in _ _ _ _ _ _ _ _ _ h1 h2]; exact hM.1 k h1 h2⟩⟩, xB_end hP hK hN hD ht hW⟩, hS.F ht⟩) hS.2.2 dX2_step_306
                        · skip
                          refine lv_aload_n hx hb dX2_step_272 rfl (lv_at hl 1 rfl) ?_
                          refine va_get (D := D) (ci := 2) (v := .long (mRef n ped rf lo sp)) (C := RX2) (T := TX2) (N := 14) hx hb hts (by decide +kernel) hown hK hP 0 rfl rfl 8 (by decide) (hts _ hm11) (fun _ h9 => h9) rfl dX2_step_273 ?_
                          refine lv_ldc2 hx hb hown (hts _ hm12) dX2_step_276 ?_
                          refine lv_aload_n hx hb dX2_step_279 rfl (lv_at hl 1 rfl) ?_
                          refine va_get (D := D) (ci := 2) (v := .int gr) (C := RX2) (T := TX2) (N := 14) hx hb hts (by decide +kernel) hown hK hP 0 rfl rfl 9 (by decide) (hts _ hm10) (fun _ h9 => h9) rfl dX2_step_280 ?_
                          refine lv_iconst (v := 1) hx hb dX2_step_283 (by decide) ?_
                          refine lv_isub hx hb dX2_step_284 ?_
                          refine lv_i2l hx hb dX2_step_285 rfl ?_
                          refine lv_lmul hx hb dX2_step_286 ?_
                          refine W.lcmp hx hb dX2_step_287 ?_
                          refine lv_if_ge (tgt := 302) hx hb dX2_step_288 (by decide) (fun c_40 => ?_) (fun c_40 => ?_)
                          · skip
                            replace c_40 := (lg_cmp_ge _ _).mp c_40
                            refine lv_aload_n hx hb dX2_step_302 rfl (lv_at hl 1 rfl) ?_
                            refine va_get (D := D) (ci := 2) (v := .int gr) (C := RX2) (T := TX2) (N := 14) hx hb hts (by decide +kernel) hown hK hP 0 rfl rfl 9 (by decide) (hts _ hm10) (fun _ h9 => h9) rfl dX2_step_303 ?_
                            refine W.endD hdd ?_
                            exact W.iret (v := gr) hx hb hr (fun t ht hW => ⟨⟨_, (0, jPh lo ph (mRef n ped rf lo sp) ped sp pr n, jPr mPr lo ph (mRef n ped rf lo sp) ped sp pr bo hd n, mo2, mRef n ped rf lo sp, gr, 1, st + 1, ch, rs), rfl, ⟨fun h => absurd h (by simp [fBad, c_1, c_2, c_3, c_4, c_6, c_18, c_30, c_31, c_34, c_38, c_39, c_40]), fun _ => ⟨mo2, by simp [sCode, sGr, sNx, c_1, c_2, c_3, c_4, c_6, c_18, c_30, c_31, c_34, c_38, c_39, c_40], by simp [sCode, sGr, c_1, c_2, c_3, c_4, c_6, c_18, c_30, c_31, c_34, c_38, c_39, c_40], fun k h1 h2 => by rw [jPr_in _ _ _ _ _ _ _ _ _ h1 h2]; exact hM.1 k h1 h2⟩⟩, xB_end hP hK hN hD ht hW⟩, hS.F ht⟩) hS.2.2 dX2_step_306
                          · skip
                            replace c_40 := mt (lg_cmp_ge _ _).mpr c_40
                            refine lv_aload_n hx hb dX2_step_291 rfl (lv_at hl 1 rfl) ?_
                            refine lv_aload_n hx hb dX2_step_292 rfl (lv_at hl 1 rfl) ?_
                            refine va_get (D := D) (ci := 2) (v := .int gr) (C := RX2) (T := TX2) (N := 14) hx hb hts (by decide +kernel) hown hK hP 0 rfl rfl 9 (by decide) (hts _ hm10) (fun _ h9 => h9) rfl dX2_step_293 ?_
                            refine lv_iconst (v := 1) hx hb dX2_step_296 (by decide) ?_
                            refine lv_isub hx hb dX2_step_297 ?_
                            refine lv_iconst (v := 3) hx hb dX2_step_298 (by decide) ?_
                            have hF := xF hD hS hA
                            refine va_callv (va_runV (As := [.int (gr - 1), .int 3]) (rest := []) ⟨hx, hb, hml, hown, hts⟩ (m2_turn l D m0 a C n 0 sp lo (jPh lo ph (mRef n ped rf lo sp) ped sp pr n) (jPr mPr lo ph (mRef n ped rf lo sp) ped sp pr bo hd n) bo mo2 (mRef n ped rf lo sp) gr 1 (st + 1) ch rs hn (gr - 1) 3 _) (cwV 2 hts gX2_step_X2_turn rfl rfl rfl (by decide +kernel) ⟨Nat.le_of_ble_eq_true rfl, Nat.le_of_ble_eq_true rfl⟩) ⟨xW_blind, va_recv hK hP (ci := 2) (q0 := 0) rfl rfl, xW_at hP hK hN hD⟩ rfl rfl hl.1 rfl (lv_room (Nat.le_of_ble_eq_true rfl)) dX2_step_299 ⟨Nat.le_of_ble_eq_true rfl, Nat.le_of_ble_eq_true rfl⟩) hS (fun q _ h => hF q h) hF (fun u t H locs ht hvm hpo hB hz1 hk1 hS => ?_)
                            obtain ⟨hP, hD⟩ := xB_use hB ht hF
                            obtain ⟨u1, u2, u3⟩ := u
                            dsimp only at hpo hP hD
                            rw [hpo.1, hpo.2.1, hpo.2.2] at hP hD
                            clear hB hk1 hz1 ht hvm
                            replace hP : va_P D vwCl (mw m0 a C 0 (nI n) sp lo (jPh lo ph (mRef n ped rf lo sp) ped sp pr n) (jPr mPr lo ph (mRef n ped rf lo sp) ped sp pr bo hd n) bo mo2 (mRef n ped rf lo sp) (gr - 1) 1 (st + 1) (st + 1) 3) H := hP
                            replace hD : va_D A (mw m0 a C 0 (nI n) sp lo (jPh lo ph (mRef n ped rf lo sp) ped sp pr n) (jPr mPr lo ph (mRef n ped rf lo sp) ped sp pr bo hd n) bo mo2 (mRef n ped rf lo sp) (gr - 1) 1 (st + 1) (st + 1) 3) := hD
                            refine lv_aload_n hx hb dX2_step_302 rfl (lv_at hl 1 rfl) ?_
                            refine va_get (D := D) (ci := 2) (v := .int (gr - 1)) (C := RX2) (T := TX2) (N := 14) hx hb hts (by decide +kernel) hown hK hP 0 rfl rfl 9 (by decide) (hts _ hm10) (fun _ h9 => h9) rfl dX2_step_303 ?_
                            refine W.endD hdd ?_
                            exact W.iret (v := (gr - 1)) hx hb hr (fun t ht hW => ⟨⟨_, (0, jPh lo ph (mRef n ped rf lo sp) ped sp pr n, jPr mPr lo ph (mRef n ped rf lo sp) ped sp pr bo hd n, mo2, mRef n ped rf lo sp, gr - 1, 1, st + 1, st + 1, 3), rfl, ⟨fun h => absurd h (by simp [fBad, c_1, c_2, c_3, c_4, c_6, c_18, c_30, c_31, c_34, c_38, c_39, c_40]), fun _ => ⟨mo2, by simp [sCode, sGr, sNx, c_1, c_2, c_3, c_4, c_6, c_18, c_30, c_31, c_34, c_38, c_39, c_40], by simp [sCode, sGr, c_1, c_2, c_3, c_4, c_6, c_18, c_30, c_31, c_34, c_38, c_39, c_40], fun k h1 h2 => by rw [jPr_in _ _ _ _ _ _ _ _ _ h1 h2]; exact hM.1 k h1 h2⟩⟩, xB_end hP hK hN hD ht hW⟩, hS.F ht⟩) hS.2.2 dX2_step_306
                      · skip
                        replace c_38 := mt (lg_cmp_le _ _).mpr c_38
                        refine lv_aload_n hx hb dX2_step_250 rfl (lv_at hl 1 rfl) ?_
                        refine lv_aload_n hx hb dX2_step_251 rfl (lv_at hl 1 rfl) ?_
                        refine va_get (D := D) (ci := 2) (v := .int gr) (C := RX2) (T := TX2) (N := 14) hx hb hts (by decide +kernel) hown hK hP 0 rfl rfl 9 (by decide) (hts _ hm10) (fun _ h9 => h9) rfl dX2_step_252 ?_
                        refine lv_iconst (v := 1) hx hb dX2_step_255 (by decide) ?_
                        refine lv_iadd hx hb dX2_step_256 ?_
                        refine lv_iconst (v := 3) hx hb dX2_step_257 (by decide) ?_
                        have hF := xF hD hS hA
                        refine va_callv (va_runV (As := [.int (gr + 1), .int 3]) (rest := []) ⟨hx, hb, hml, hown, hts⟩ (m2_turn l D m0 a C n 0 sp lo (jPh lo ph (mRef n ped rf lo sp) ped sp pr n) (jPr mPr lo ph (mRef n ped rf lo sp) ped sp pr bo hd n) bo mo2 (mRef n ped rf lo sp) gr 1 (st + 1) ch rs hn (gr + 1) 3 _) (cwV 2 hts gX2_step_X2_turn rfl rfl rfl (by decide +kernel) ⟨Nat.le_of_ble_eq_true rfl, Nat.le_of_ble_eq_true rfl⟩) ⟨xW_blind, va_recv hK hP (ci := 2) (q0 := 0) rfl rfl, xW_at hP hK hN hD⟩ rfl rfl hl.1 rfl (lv_room (Nat.le_of_ble_eq_true rfl)) dX2_step_258 ⟨Nat.le_of_ble_eq_true rfl, Nat.le_of_ble_eq_true rfl⟩) hS (fun q _ h => hF q h) hF (fun u t H locs ht hvm hpo hB hz1 hk1 hS => ?_)
                        obtain ⟨hP, hD⟩ := xB_use hB ht hF
                        obtain ⟨u1, u2, u3⟩ := u
                        dsimp only at hpo hP hD
                        rw [hpo.1, hpo.2.1, hpo.2.2] at hP hD
                        clear hB hk1 hz1 ht hvm
                        replace hP : va_P D vwCl (mw m0 a C 0 (nI n) sp lo (jPh lo ph (mRef n ped rf lo sp) ped sp pr n) (jPr mPr lo ph (mRef n ped rf lo sp) ped sp pr bo hd n) bo mo2 (mRef n ped rf lo sp) (gr + 1) 1 (st + 1) (st + 1) 3) H := hP
                        replace hD : va_D A (mw m0 a C 0 (nI n) sp lo (jPh lo ph (mRef n ped rf lo sp) ped sp pr n) (jPr mPr lo ph (mRef n ped rf lo sp) ped sp pr bo hd n) bo mo2 (mRef n ped rf lo sp) (gr + 1) 1 (st + 1) (st + 1) 3) := hD
                        refine lv_goto (tgt := 302) hx hb dX2_step_261 (by decide) ?_
                        refine lv_aload_n hx hb dX2_step_302 rfl (lv_at hl 1 rfl) ?_
                        refine va_get (D := D) (ci := 2) (v := .int (gr + 1)) (C := RX2) (T := TX2) (N := 14) hx hb hts (by decide +kernel) hown hK hP 0 rfl rfl 9 (by decide) (hts _ hm10) (fun _ h9 => h9) rfl dX2_step_303 ?_
                        refine W.endD hdd ?_
                        exact W.iret (v := (gr + 1)) hx hb hr (fun t ht hW => ⟨⟨_, (0, jPh lo ph (mRef n ped rf lo sp) ped sp pr n, jPr mPr lo ph (mRef n ped rf lo sp) ped sp pr bo hd n, mo2, mRef n ped rf lo sp, gr + 1, 1, st + 1, st + 1, 3), rfl, ⟨fun h => absurd h (by simp [fBad, c_1, c_2, c_3, c_4, c_6, c_18, c_30, c_31, c_34, c_38]), fun _ => ⟨mo2, by simp [sCode, sGr, sNx, c_1, c_2, c_3, c_4, c_6, c_18, c_30, c_31, c_34, c_38], by simp [sCode, sGr, c_1, c_2, c_3, c_4, c_6, c_18, c_30, c_31, c_34, c_38], fun k h1 h2 => by rw [jPr_in _ _ _ _ _ _ _ _ _ h1 h2]; exact hM.1 k h1 h2⟩⟩, xB_end hP hK hN hD ht hW⟩, hS.F ht⟩) hS.2.2 dX2_step_306
          | succ d ih =>
            obtain ⟨hjn, hl, hP, hD, hS, hdd, hM⟩ := hI
            have hlt : j < n := by omega
            have hts := dr_words hts0 dd
            have hN := cN_draw (d := dd) hN0
            have hK : va_K D vwCl [(C 1, .long), (C 2, .boolean), (C 3, .int), (C 4, .long), (C 5, .long), (C 6, .double)] (s.setDrawn dd) := hK0
            refine lv_iload hx hb dX2_step_56 (lv_at hl 0 rfl) ?_
            refine lv_aload_n hx hb dX2_step_58 rfl (lv_at hl 1 rfl) ?_
            refine va_get (D := D) (ci := 2) (v := .int (nI n)) (C := RX2) (T := TX2) (N := 14) hx hb hts (by decide +kernel) hown hK hP 0 rfl rfl 1 (by decide) (hts _ hm6) (fun _ h9 => h9) rfl dX2_step_59 ?_
            refine lv_icmp_gt (tgt := 165) hx hb dX2_step_62 (by decide) (fun c_41 => absurd c_41 (nI_nlt (by omega) (by omega))) (fun c_41 => ?_)
            refine lv_aload_n hx hb dX2_step_65 rfl (lv_at hl 1 rfl) ?_
            refine va_get (D := D) (ci := 2) (v := .ref (a 3)) (C := RX2) (T := TX2) (N := 14) hx hb hts (by decide +kernel) hown hK hP 0 rfl rfl 4 (by decide) (hts _ hm14) (fun _ h9 => h9) rfl dX2_step_66 ?_
            refine lv_iload hx hb dX2_step_69 (lv_at hl 0 rfl) ?_
            refine lv_aload_n hx hb dX2_step_71 rfl (lv_at hl 1 rfl) ?_
            refine lv_iload hx hb dX2_step_72 (lv_at hl 0 rfl) ?_
            refine lv_lload_n hx hb dX2_step_74 rfl (lv_at hl 2 rfl) ?_
            refine vp_callSi (W.runV (As := [.int (nI (j + 1)), .long ped]) (rest := [.int (nI (j + 1)), .ref (a 3)]) ⟨hx, hb, hml, hown, hts⟩ (m2_phaseOf l D m0 a C n 0 sp lo (jPh lo ph (mRef n ped rf lo sp) ped sp pr j) (jPr mPr lo ph (mRef n ped rf lo sp) ped sp pr bo hd j) bo mo2 (mRef n ped rf lo sp) gr hd (st + 1) ch rs hn j hlt ped) (cwV 2 hts gX2_step_X2_phaseOf rfl rfl rfl (by decide +kernel) ⟨Nat.le_of_ble_eq_true rfl, Nat.le_of_ble_eq_true rfl⟩) ⟨xP_blind, va_recv hK hP (ci := 2) (q0 := 0) rfl rfl, xP_at hP hK hN⟩ rfl rfl hl.1 rfl (lv_room (Nat.le_of_ble_eq_true rfl)) dX2_step_75 ⟨Nat.le_of_ble_eq_true rfl, Nat.le_of_ble_eq_true rfl⟩) (fun r_42 hr_43 => ?_)
            rw [jPh_at _ _ _ _ _ _ (Nat.lt_succ_self j), jPr_at _ _ _ _ _ _ _ _ _ (Nat.lt_succ_self j)] at hr_43
            subst hr_43
            refine va_iast (D := D) (f := (jPh lo ph (mRef n ped rf lo sp) ped sp pr j)) hx hb hK hP hD hS 3 2 rfl rfl (ix_9 hn hlt) dX2_step_78 (fun H locs hP hD hS => ?_)
            rw [wIx hn hlt] at hP hD
            replace hP : va_P D vwCl (mw m0 a C 0 (nI n) sp lo (va_up (jPh lo ph (mRef n ped rf lo sp) ped sp pr j) (j + 1) (sPh (lo (j + 1)) (mRef n ped rf lo sp) ped (sp (j + 1)) (ph (j + 1)) (pr (j + 1)))) (jPr mPr lo ph (mRef n ped rf lo sp) ped sp pr bo hd j) bo mo2 (mRef n ped rf lo sp) gr hd (st + 1) ch rs) H := hP
            replace hD : va_D A (mw m0 a C 0 (nI n) sp lo (va_up (jPh lo ph (mRef n ped rf lo sp) ped sp pr j) (j + 1) (sPh (lo (j + 1)) (mRef n ped rf lo sp) ped (sp (j + 1)) (ph (j + 1)) (pr (j + 1)))) (jPr mPr lo ph (mRef n ped rf lo sp) ped sp pr bo hd j) bo mo2 (mRef n ped rf lo sp) gr hd (st + 1) ch rs) := hD
            rw [jPh_up] at hP hD
            replace hP : va_P D vwCl (mw m0 a C 0 (nI n) sp lo (jPh lo ph (mRef n ped rf lo sp) ped sp pr (j + 1)) (jPr mPr lo ph (mRef n ped rf lo sp) ped sp pr bo hd j) bo mo2 (mRef n ped rf lo sp) gr hd (st + 1) ch rs) H := hP
            replace hD : va_D A (mw m0 a C 0 (nI n) sp lo (jPh lo ph (mRef n ped rf lo sp) ped sp pr (j + 1)) (jPr mPr lo ph (mRef n ped rf lo sp) ped sp pr bo hd j) bo mo2 (mRef n ped rf lo sp) gr hd (st + 1) ch rs) := hD
            refine lv_aload_n hx hb dX2_step_79 rfl (lv_at hl 1 rfl) ?_
            refine va_get (D := D) (ci := 2) (v := .ref (a 4)) (C := RX2) (T := TX2) (N := 14) hx hb hts (by decide +kernel) hown hK hP 0 rfl rfl 5 (by decide) (hts _ hm15) (fun _ h9 => h9) rfl dX2_step_80 ?_
            refine lv_iload hx hb dX2_step_83 (lv_at hl 0 rfl) ?_
            refine lv_aload_n hx hb dX2_step_85 rfl (lv_at hl 1 rfl) ?_
            refine lv_iload hx hb dX2_step_86 (lv_at hl 0 rfl) ?_
            refine lv_lload_n hx hb dX2_step_88 rfl (lv_at hl 2 rfl) ?_
            refine vp_callSl (W.runV (As := [.int (nI (j + 1)), .long ped]) (rest := [.int (nI (j + 1)), .ref (a 4)]) ⟨hx, hb, hml, hown, hts⟩ (m2_pressureOf l D m0 a C n 0 sp lo (jPh lo ph (mRef n ped rf lo sp) ped sp pr (j + 1)) (jPr mPr lo ph (mRef n ped rf lo sp) ped sp pr bo hd j) bo mo2 (mRef n ped rf lo sp) gr hd (st + 1) ch rs hn j hlt ped) (cwV 2 hts gX2_step_X2_pressureOf rfl rfl rfl (by decide +kernel) ⟨Nat.le_of_ble_eq_true rfl, Nat.le_of_ble_eq_true rfl⟩) ⟨xP_blind, va_recv hK hP (ci := 2) (q0 := 0) rfl rfl, xP_at hP hK hN⟩ rfl rfl hl.1 rfl (lv_room (Nat.le_of_ble_eq_true rfl)) dX2_step_89 ⟨Nat.le_of_ble_eq_true rfl, Nat.le_of_ble_eq_true rfl⟩) (fun r_44 hr_45 => ?_)
            rw [jPh_in _ _ _ _ _ _ (by omega) (Nat.le_refl _), jPr_at _ _ _ _ _ _ _ _ _ (Nat.lt_succ_self j)] at hr_45
            subst hr_45
            refine va_last (D := D) (f := (jPr mPr lo ph (mRef n ped rf lo sp) ped sp pr bo hd j)) hx hb hK hP hD hS 4 3 rfl rfl (ix_9 hn hlt) dX2_step_92 (fun H locs hP hD hS => ?_)
            rw [wIx hn hlt] at hP hD
            replace hP : va_P D vwCl (mw m0 a C 0 (nI n) sp lo (jPh lo ph (mRef n ped rf lo sp) ped sp pr (j + 1)) (va_up (jPr mPr lo ph (mRef n ped rf lo sp) ped sp pr bo hd j) (j + 1) (mPr (sPh (lo (j + 1)) (mRef n ped rf lo sp) ped (sp (j + 1)) (ph (j + 1)) (pr (j + 1))) ped (pr (j + 1)) hd (bo (j + 1)))) bo mo2 (mRef n ped rf lo sp) gr hd (st + 1) ch rs) H := hP
            replace hD : va_D A (mw m0 a C 0 (nI n) sp lo (jPh lo ph (mRef n ped rf lo sp) ped sp pr (j + 1)) (va_up (jPr mPr lo ph (mRef n ped rf lo sp) ped sp pr bo hd j) (j + 1) (mPr (sPh (lo (j + 1)) (mRef n ped rf lo sp) ped (sp (j + 1)) (ph (j + 1)) (pr (j + 1))) ped (pr (j + 1)) hd (bo (j + 1)))) bo mo2 (mRef n ped rf lo sp) gr hd (st + 1) ch rs) := hD
            rw [jPr_up] at hP hD
            replace hP : va_P D vwCl (mw m0 a C 0 (nI n) sp lo (jPh lo ph (mRef n ped rf lo sp) ped sp pr (j + 1)) (jPr mPr lo ph (mRef n ped rf lo sp) ped sp pr bo hd (j + 1)) bo mo2 (mRef n ped rf lo sp) gr hd (st + 1) ch rs) H := hP
            replace hD : va_D A (mw m0 a C 0 (nI n) sp lo (jPh lo ph (mRef n ped rf lo sp) ped sp pr (j + 1)) (jPr mPr lo ph (mRef n ped rf lo sp) ped sp pr bo hd (j + 1)) bo mo2 (mRef n ped rf lo sp) gr hd (st + 1) ch rs) := hD
            refine lv_aload_n hx hb dX2_step_93 rfl (lv_at hl 1 rfl) ?_
            refine va_get (D := D) (ci := 2) (v := .ref (a 6)) (C := RX2) (T := TX2) (N := 14) hx hb hts (by decide +kernel) hown hK hP 0 rfl rfl 7 (by decide) (hts _ hm16) (fun _ h9 => h9) rfl dX2_step_94 ?_
            refine lv_iload hx hb dX2_step_97 (lv_at hl 0 rfl) ?_
            refine va_dald (D := D) (f := mo2) hx hb hK hP 6 5 rfl rfl (ix_9 hn hlt) dX2_step_99 ?_
            refine W.eq (g2 := F0 m 100 ls [.double (mo2 (j + 1))]) (by rw [wIx hn hlt]) ?_
            refine lv_dstore (lv' := [(6, .double (mo2 (j + 1))), (5, .int (nI (j + 1))), (0, .ref m0), (1, .long ped), (3, .long sl)]) hx hb dX2_step_100 hl (by decide) rfl (fun ls hl => ?_)
            refine lv_dload hx hb dX2_step_102 (lv_at hl 0 rfl) ?_
            refine lv_ldc2d hx hb hown (hts _ hm17) dX2_step_104 ?_
            refine lv_aload_n hx hb dX2_step_107 rfl (lv_at hl 2 rfl) ?_
            refine va_get (D := D) (ci := 2) (v := .ref (a 1)) (C := RX2) (T := TX2) (N := 14) hx hb hts (by decide +kernel) hown hK hP 0 rfl rfl 2 (by decide) (hts _ hm18) (fun _ h9 => h9) rfl dX2_step_108 ?_
            refine lv_iload hx hb dX2_step_111 (lv_at hl 1 rfl) ?_
            refine va_lald (D := D) (f := sp) hx hb hK hP 1 0 rfl rfl (ix_9 hn hlt) dX2_step_113 ?_
            refine W.eq (g2 := F0 m 114 ls [.long (sp (j + 1)), .double 4593671619917905920, .double (mo2 (j + 1))]) (by rw [wIx hn hlt]) ?_
            refine lv_l2d hx hb dX2_step_114 ?_
            refine lv_dload hx hb dX2_step_115 (lv_at hl 0 rfl) ?_
            refine lv_dsub_any hdd lw_bits hx hb dX2_step_117 (fun r_46 d_47 al_48 hdd_49 => ?_)
            have hts := dr_words hts0 d_47
            have hN := cN_draw (d := d_47) hN0
            have hK : va_K D vwCl [(C 1, .long), (C 2, .boolean), (C 3, .int), (C 4, .long), (C 5, .long), (C 6, .double)] (s.setDrawn d_47) := hK0
            refine lv_dmul_any hdd_49 lw_bits hx hb dX2_step_118 (fun r_50 d_51 al_52 hdd_53 => ?_)
            have hts := dr_words hts0 d_51
            have hN := cN_draw (d := d_51) hN0
            have hK : va_K D vwCl [(C 1, .long), (C 2, .boolean), (C 3, .int), (C 4, .long), (C 5, .long), (C 6, .double)] (s.setDrawn d_51) := hK0
            refine lv_dadd_any hdd_53 lw_bits hx hb dX2_step_119 (fun r_54 d_55 al_56 hdd_57 => ?_)
            have hts := dr_words hts0 d_55
            have hN := cN_draw (d := d_55) hN0
            have hK : va_K D vwCl [(C 1, .long), (C 2, .boolean), (C 3, .int), (C 4, .long), (C 5, .long), (C 6, .double)] (s.setDrawn d_55) := hK0
            refine lv_dstore (lv' := [(6, .double r_54), (5, .int (nI (j + 1))), (0, .ref m0), (1, .long ped), (3, .long sl)]) hx hb dX2_step_120 hl (by decide) rfl (fun ls hl => ?_)
            refine lv_dload hx hb dX2_step_122 (lv_at hl 0 rfl) ?_
            refine lv_ldc2d hx hb hown (hts _ hm19) dX2_step_124 ?_
            refine lv_aload_n hx hb dX2_step_127 rfl (lv_at hl 2 rfl) ?_
            refine va_get (D := D) (ci := 2) (v := .ref (a 4)) (C := RX2) (T := TX2) (N := 14) hx hb hts (by decide +kernel) hown hK hP 0 rfl rfl 5 (by decide) (hts _ hm15) (fun _ h9 => h9) rfl dX2_step_128 ?_
            refine lv_iload hx hb dX2_step_131 (lv_at hl 1 rfl) ?_
            refine va_lald (D := D) (f := (jPr mPr lo ph (mRef n ped rf lo sp) ped sp pr bo hd (j + 1))) hx hb hK hP 4 3 rfl rfl (ix_9 hn hlt) dX2_step_133 ?_
            refine W.eq (g2 := F0 m 134 ls [.long ((jPr mPr lo ph (mRef n ped rf lo sp) ped sp pr bo hd (j + 1)) (j + 1)), .double 4589168020290535424, .double r_54]) (by rw [wIx hn hlt]) ?_
            refine lv_l2d hx hb dX2_step_134 ?_
            refine lv_dmul_any hdd_57 lw_bits hx hb dX2_step_135 (fun r_58 d_59 al_60 hdd_61 => ?_)
            have hts := dr_words hts0 d_59
            have hN := cN_draw (d := d_59) hN0
            have hK : va_K D vwCl [(C 1, .long), (C 2, .boolean), (C 3, .int), (C 4, .long), (C 5, .long), (C 6, .double)] (s.setDrawn d_59) := hK0
            refine lv_dsub_any hdd_61 lw_bits hx hb dX2_step_136 (fun r_62 d_63 al_64 hdd_65 => ?_)
            have hts := dr_words hts0 d_63
            have hN := cN_draw (d := d_63) hN0
            have hK : va_K D vwCl [(C 1, .long), (C 2, .boolean), (C 3, .int), (C 4, .long), (C 5, .long), (C 6, .double)] (s.setDrawn d_63) := hK0
            refine lv_dstore (lv' := [(6, .double r_62), (5, .int (nI (j + 1))), (0, .ref m0), (1, .long ped), (3, .long sl)]) hx hb dX2_step_137 hl (by decide) rfl (fun ls hl => ?_)
            refine lv_aload_n hx hb dX2_step_139 rfl (lv_at hl 2 rfl) ?_
            refine va_get (D := D) (ci := 2) (v := .ref (a 6)) (C := RX2) (T := TX2) (N := 14) hx hb hts (by decide +kernel) hown hK hP 0 rfl rfl 7 (by decide) (hts _ hm16) (fun _ h9 => h9) rfl dX2_step_140 ?_
            refine lv_iload hx hb dX2_step_143 (lv_at hl 1 rfl) ?_
            refine lv_dload hx hb dX2_step_145 (lv_at hl 0 rfl) ?_
            refine lv_dconst0 hx hb dX2_step_147 ?_
            refine lv_dcmp hx hb dX2_step_148 ?_
            refine lv_if_ge (tgt := 156) hx hb dX2_step_149 (by decide) (fun c_66 => ?_) (fun c_66 => ?_)
            · skip
              refine lv_dload hx hb dX2_step_156 (lv_at hl 0 rfl) ?_
              refine va_dast (D := D) (f := mo2) hx hb hK hP hD hS 6 5 rfl rfl (ix_9 hn hlt) dX2_step_158 (fun H locs hP hD hS => ?_)
              rw [wIx hn hlt] at hP hD
              replace hP : va_P D vwCl (mw m0 a C 0 (nI n) sp lo (jPh lo ph (mRef n ped rf lo sp) ped sp pr (j + 1)) (jPr mPr lo ph (mRef n ped rf lo sp) ped sp pr bo hd (j + 1)) bo (va_up mo2 (j + 1) r_62) (mRef n ped rf lo sp) gr hd (st + 1) ch rs) H := hP
              replace hD : va_D A (mw m0 a C 0 (nI n) sp lo (jPh lo ph (mRef n ped rf lo sp) ped sp pr (j + 1)) (jPr mPr lo ph (mRef n ped rf lo sp) ped sp pr bo hd (j + 1)) bo (va_up mo2 (j + 1) r_62) (mRef n ped rf lo sp) gr hd (st + 1) ch rs) := hD
              refine lv_iinc (v := nI (j + 1 + 1)) (lv' := [(5, .int (nI (j + 1 + 1))), (6, .double r_62), (0, .ref m0), (1, .long ped), (3, .long sl)]) hx hb dX2_step_159 hl (k := 1) rfl (nI_1 (j + 1)) (by decide) rfl (fun ls hl => ?_)
              refine lv_goto (tgt := 56) hx hb dX2_step_162 (by decide) ?_
              exact ih _ _ _ _ (j := j + 1) (mo2 := va_up mo2 (j + 1) r_62) ⟨by omega, by rw [show nI ((j + 1) + 1) = nI (j + 1 + 1) from rfl]; exact lv_sub hl [0, 2, 3, 4] rfl, by exact hP, by exact hD, hS, hdd_65, jM_up hM (v := jPr mPr lo ph (mRef n ped rf lo sp) ped sp pr bo hd (j + 1) (j + 1)) ⟨_, _, _, _, _, al_48, al_52, al_56, al_60, al_64, by simp [c_66]⟩ (jPr_in _ _ _ _ _ _ _ _ _ (by omega) (Nat.le_refl _))⟩ (by omega)
            · skip
              refine lv_dconst0 hx hb dX2_step_152 ?_
              refine lv_goto (tgt := 158) hx hb dX2_step_153 (by decide) ?_
              refine va_dast (D := D) (f := mo2) hx hb hK hP hD hS 6 5 rfl rfl (ix_9 hn hlt) dX2_step_158 (fun H locs hP hD hS => ?_)
              rw [wIx hn hlt] at hP hD
              replace hP : va_P D vwCl (mw m0 a C 0 (nI n) sp lo (jPh lo ph (mRef n ped rf lo sp) ped sp pr (j + 1)) (jPr mPr lo ph (mRef n ped rf lo sp) ped sp pr bo hd (j + 1)) bo (va_up mo2 (j + 1) FP.dconst0) (mRef n ped rf lo sp) gr hd (st + 1) ch rs) H := hP
              replace hD : va_D A (mw m0 a C 0 (nI n) sp lo (jPh lo ph (mRef n ped rf lo sp) ped sp pr (j + 1)) (jPr mPr lo ph (mRef n ped rf lo sp) ped sp pr bo hd (j + 1)) bo (va_up mo2 (j + 1) FP.dconst0) (mRef n ped rf lo sp) gr hd (st + 1) ch rs) := hD
              refine lv_iinc (v := nI (j + 1 + 1)) (lv' := [(5, .int (nI (j + 1 + 1))), (6, .double r_62), (0, .ref m0), (1, .long ped), (3, .long sl)]) hx hb dX2_step_159 hl (k := 1) rfl (nI_1 (j + 1)) (by decide) rfl (fun ls hl => ?_)
              refine lv_goto (tgt := 56) hx hb dX2_step_162 (by decide) ?_
              exact ih _ _ _ _ (j := j + 1) (mo2 := va_up mo2 (j + 1) FP.dconst0) ⟨by omega, by rw [show nI ((j + 1) + 1) = nI (j + 1 + 1) from rfl]; exact lv_sub hl [0, 2, 3, 4] rfl, by exact hP, by exact hD, hS, hdd_65, jM_up hM (v := jPr mPr lo ph (mRef n ped rf lo sp) ped sp pr bo hd (j + 1) (j + 1)) ⟨_, _, _, _, _, al_48, al_52, al_56, al_60, al_64, by simp [c_66]⟩ (jPr_in _ _ _ _ _ _ _ _ _ (by omega) (Nat.le_refl _))⟩ (by omega)
        · skip
          replace c_4 := mt (lg_cmp_le _ _).mpr c_4
          replace c_4 := i64_lt c_4
          refine lv_bipush (v := (-2)) hx hb dX2_step_35 (by decide) ?_
          refine W.endD hdd ?_
          exact W.iret (v := (-2)) hx hb hr (fun t ht hW => ⟨⟨_, (0, ph, pr, mo, rf, gr, hd, st, ch, rs), rfl, ⟨fun _ => ⟨rfl, rfl⟩, fun h => absurd (by simp [fBad, c_1, c_2, c_3, c_4]) h⟩, xB_end hP hK hN hD ht hW⟩, hS.F ht⟩) hS.2.2 dX2_step_37
