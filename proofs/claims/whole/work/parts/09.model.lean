/-! ===== the reference: methods that only read ===== -/
set_option maxHeartbeats 4000000 in
set_option maxRecDepth 100000 in
/-- noWheel of no wheel -/
theorem m2_no_out (l : Launch) (D : va_G) (m0 : Nat) (a : Nat → Nat) (C : Nat → ClassId) (n : Nat) (th : Int32) (sp : Nat → Int64) (lo ph : Nat → Int32) (pr bo : Nat → Int64) (mo : Nat → UInt64) (rf : Int64) (gr hd st ch rs : Int32) (hn : n ≤ 8) (w : Int32) (hwo : wOut n w) : Met l yX2_noWheel wsX2_noWheel ({ frames := 0, cells := 0, slots := 0, locals := 0 }) (va_Pc [.ref m0, .int w] (xP D [(C 1, .long), (C 2, .boolean), (C 3, .int), (C 4, .long), (C 5, .long), (C 6, .double)] (mw m0 a C th (nI n) sp lo ph pr bo mo rf gr hd st ch rs))) (vp_Si (fun r : Int32 => r = 1)) 0 0 (fun _ => False) := by
  refine Met.ofW (cc := cX2_noWheel) (maxL := 2) (ret := (some .boolean)) (by decide) rfl ?_
  intro p e s m args below meth c s₁ B hml hv
  obtain ⟨rfl, hP, hK, hN⟩ := hv
  have hx := B.exec
  have hb := B.bytes
  have hr := B.returns
  have hts := atoms_spec (ws := wsX2_noWheel) B.pre
  have hown : s.vm.findClass RX2 = some m.cls := findClass_of_methodNamed B.named
  have hlocks := B.notSynchronized
  have hm1 : (.fieldLink RX2 35 "GearBrakeModel" "wheels" "I" : Cond) ∈ wsX2_noWheel := by decide +kernel
  have hl := lv_entry ([.ref m0, .int w]) (n := 2) (Nat.le_of_ble_eq_true rfl)
  rw [lg_entry_eq]
  generalize (lg_sl ([.ref m0, .int w]) ++ List.replicate (2 - (lg_sl ([.ref m0, .int w])).length) Slot.unset).toArray = ls at hl ⊢
  replace hl : lv_has ls 2 [(0, .ref m0), (1, .int w)] := hl
  refine lv_iload_n hx hb dX2_noWheel_0 rfl (lv_at hl 1 rfl) ?_
  refine lv_iconst (v := 1) hx hb dX2_noWheel_1 (by decide) ?_
  refine lv_icmp_lt (tgt := 13) hx hb dX2_noWheel_2 (by decide) (fun c_1 => ?_) (fun c_1 => ?_)
  · skip
    refine lv_iconst (v := 1) hx hb dX2_noWheel_13 (by decide) ?_
    refine lv_goto (tgt := 18) hx hb dX2_noWheel_14 (by decide) ?_
    exact W.zret (v := 1) (ty := .boolean) hx hb hr rfl (fun t ht hW => ⟨_, rfl, rfl, ht⟩) (fun q h => absurd h List.not_mem_nil) dX2_noWheel_18
  · skip
    refine lv_iload_n hx hb dX2_noWheel_5 rfl (lv_at hl 1 rfl) ?_
    refine lv_aload_n hx hb dX2_noWheel_6 rfl (lv_at hl 0 rfl) ?_
    refine va_get (D := D) (ci := 2) (v := .int (nI n)) (C := RX2) (T := TX2) (N := 14) hx hb hts (by decide +kernel) hown hK hP 0 rfl rfl 1 (by decide) (hts _ hm1) (fun _ h9 => h9) rfl dX2_noWheel_7 ?_
    refine lv_icmp_le (tgt := 17) hx hb dX2_noWheel_10 (by decide) (fun c_2 => ?_) (fun c_2 => ?_)
    · skip
      exact (hwo.elim c_1 (i32_nlt c_2)).elim
    · skip
      refine lv_iconst (v := 1) hx hb dX2_noWheel_13 (by decide) ?_
      refine lv_goto (tgt := 18) hx hb dX2_noWheel_14 (by decide) ?_
      exact W.zret (v := 1) (ty := .boolean) hx hb hr rfl (fun t ht hW => ⟨_, rfl, rfl, ht⟩) (fun q h => absurd h List.not_mem_nil) dX2_noWheel_18
set_option maxHeartbeats 4000000 in
set_option maxRecDepth 100000 in
/-- noWheel of wheel i + 1 -/
theorem m2_no_in (l : Launch) (D : va_G) (m0 : Nat) (a : Nat → Nat) (C : Nat → ClassId) (n : Nat) (th : Int32) (sp : Nat → Int64) (lo ph : Nat → Int32) (pr bo : Nat → Int64) (mo : Nat → UInt64) (rf : Int64) (gr hd st ch rs : Int32) (hn : n ≤ 8) (i : Nat) (hi : i < n) : Met l yX2_noWheel wsX2_noWheel ({ frames := 0, cells := 0, slots := 0, locals := 0 }) (va_Pc [.ref m0, .int (nI (i + 1))] (xP D [(C 1, .long), (C 2, .boolean), (C 3, .int), (C 4, .long), (C 5, .long), (C 6, .double)] (mw m0 a C th (nI n) sp lo ph pr bo mo rf gr hd st ch rs))) (vp_Si (fun r : Int32 => r = 0)) 0 0 (fun _ => False) := by
  refine Met.ofW (cc := cX2_noWheel) (maxL := 2) (ret := (some .boolean)) (by decide) rfl ?_
  intro p e s m args below meth c s₁ B hml hv
  obtain ⟨rfl, hP, hK, hN⟩ := hv
  have hx := B.exec
  have hb := B.bytes
  have hr := B.returns
  have hts := atoms_spec (ws := wsX2_noWheel) B.pre
  have hown : s.vm.findClass RX2 = some m.cls := findClass_of_methodNamed B.named
  have hlocks := B.notSynchronized
  have hm1 : (.fieldLink RX2 35 "GearBrakeModel" "wheels" "I" : Cond) ∈ wsX2_noWheel := by decide +kernel
  have hl := lv_entry ([.ref m0, .int (nI (i + 1))]) (n := 2) (Nat.le_of_ble_eq_true rfl)
  rw [lg_entry_eq]
  generalize (lg_sl ([.ref m0, .int (nI (i + 1))]) ++ List.replicate (2 - (lg_sl ([.ref m0, .int (nI (i + 1))])).length) Slot.unset).toArray = ls at hl ⊢
  replace hl : lv_has ls 2 [(0, .ref m0), (1, .int (nI (i + 1)))] := hl
  refine lv_iload_n hx hb dX2_noWheel_0 rfl (lv_at hl 1 rfl) ?_
  refine lv_iconst (v := 1) hx hb dX2_noWheel_1 (by decide) ?_
  refine lv_icmp_lt (tgt := 13) hx hb dX2_noWheel_2 (by decide) (fun c_1 => absurd (Or.inl c_1) (wOut_in hn hi)) (fun c_1 => ?_)
  refine lv_iload_n hx hb dX2_noWheel_5 rfl (lv_at hl 1 rfl) ?_
  refine lv_aload_n hx hb dX2_noWheel_6 rfl (lv_at hl 0 rfl) ?_
  refine va_get (D := D) (ci := 2) (v := .int (nI n)) (C := RX2) (T := TX2) (N := 14) hx hb hts (by decide +kernel) hown hK hP 0 rfl rfl 1 (by decide) (hts _ hm1) (fun _ h9 => h9) rfl dX2_noWheel_7 ?_
  refine lv_icmp_le (tgt := 17) hx hb dX2_noWheel_10 (by decide) (fun c_2 => ?_) (fun c_2 => absurd (nI_le (by omega) (by omega)) c_2)
  refine lv_iconst (v := 0) hx hb dX2_noWheel_17 (by decide) ?_
  exact W.zret (v := 0) (ty := .boolean) hx hb hr rfl (fun t ht hW => ⟨_, rfl, rfl, ht⟩) (fun q h => absurd h List.not_mem_nil) dX2_noWheel_18
set_option maxHeartbeats 4000000 in
set_option maxRecDepth 100000 in
/-- thrown -/
theorem m2_thrown (l : Launch) (D : va_G) (m0 : Nat) (a : Nat → Nat) (C : Nat → ClassId) (n : Nat) (th : Int32) (sp : Nat → Int64) (lo ph : Nat → Int32) (pr bo : Nat → Int64) (mo : Nat → UInt64) (rf : Int64) (gr hd st ch rs : Int32) (hn : n ≤ 8) : Met l yX2_thrown wsX2_thrown ({ frames := 0, cells := 0, slots := 0, locals := 0 }) (va_Pc [.ref m0] (xP D [(C 1, .long), (C 2, .boolean), (C 3, .int), (C 4, .long), (C 5, .long), (C 6, .double)] (mw m0 a C th (nI n) sp lo ph pr bo mo rf gr hd st ch rs))) (vp_Si (fun r : Int32 => r = th)) 0 0 (fun _ => False) := by
  refine Met.ofW (cc := cX2_thrown) (maxL := 1) (ret := (some .int)) (by decide) rfl ?_
  intro p e s m args below meth c s₁ B hml hv
  obtain ⟨rfl, hP, hK, hN⟩ := hv
  have hx := B.exec
  have hb := B.bytes
  have hr := B.returns
  have hts := atoms_spec (ws := wsX2_thrown) B.pre
  have hown : s.vm.findClass RX2 = some m.cls := findClass_of_methodNamed B.named
  have hlocks := B.notSynchronized
  have hm1 : (.fieldLink RX2 40 "GearBrakeModel" "thrown" "I" : Cond) ∈ wsX2_thrown := by decide +kernel
  have hl := lv_entry ([.ref m0]) (n := 1) (Nat.le_of_ble_eq_true rfl)
  rw [lg_entry_eq]
  generalize (lg_sl ([.ref m0]) ++ List.replicate (1 - (lg_sl ([.ref m0])).length) Slot.unset).toArray = ls at hl ⊢
  replace hl : lv_has ls 1 [(0, .ref m0)] := hl
  refine lv_aload_n hx hb dX2_thrown_0 rfl (lv_at hl 0 rfl) ?_
  refine va_get (D := D) (ci := 2) (v := .int th) (C := RX2) (T := TX2) (N := 14) hx hb hts (by decide +kernel) hown hK hP 0 rfl rfl 0 (by decide) (hts _ hm1) (fun _ h9 => h9) rfl dX2_thrown_1 ?_
  exact W.iret (v := th) hx hb hr (fun t ht hW => ⟨_, rfl, rfl, ht⟩) (fun q h => absurd h List.not_mem_nil) dX2_thrown_4
set_option maxHeartbeats 4000000 in
set_option maxRecDepth 100000 in
/-- lostOnes -/
theorem m2_lostOnes (l : Launch) (D : va_G) (m0 : Nat) (a : Nat → Nat) (C : Nat → ClassId) (n : Nat) (th : Int32) (sp : Nat → Int64) (lo ph : Nat → Int32) (pr bo : Nat → Int64) (mo : Nat → UInt64) (rf : Int64) (gr hd st ch rs : Int32) (hn : n ≤ 8) : Met l yX2_lostOnes wsX2_lostOnes ({ frames := 0, cells := 0, slots := 0, locals := 0 }) (va_Pc [.ref m0] (xP D [(C 1, .long), (C 2, .boolean), (C 3, .int), (C 4, .long), (C 5, .long), (C 6, .double)] (mw m0 a C th (nI n) sp lo ph pr bo mo rf gr hd st ch rs))) (vp_Si (fun r : Int32 => r = cnt lo n)) 0 0 (fun _ => False) := by
  refine Met.ofW (cc := cX2_lostOnes) (maxL := 3) (ret := (some .int)) (by decide) rfl ?_
  intro p e s m args below meth c s₁ B hml hv
  obtain ⟨rfl, hP, hK, hN⟩ := hv
  have hx := B.exec
  have hb := B.bytes
  have hr := B.returns
  have hts := atoms_spec (ws := wsX2_lostOnes) B.pre
  have hown : s.vm.findClass RX2 = some m.cls := findClass_of_methodNamed B.named
  have hlocks := B.notSynchronized
  have hm1 : (.fieldLink RX2 35 "GearBrakeModel" "wheels" "I" : Cond) ∈ wsX2_lostOnes := by decide +kernel
  have hm2 : (.fieldLink RX2 13 "GearBrakeModel" "losts" "[Z" : Cond) ∈ wsX2_lostOnes := by decide +kernel
  have hl := lv_entry ([.ref m0]) (n := 3) (Nat.le_of_ble_eq_true rfl)
  rw [lg_entry_eq]
  generalize (lg_sl ([.ref m0]) ++ List.replicate (3 - (lg_sl ([.ref m0])).length) Slot.unset).toArray = ls at hl ⊢
  replace hl : lv_has ls 3 [(0, .ref m0)] := hl
  refine lv_iconst (v := 0) hx hb dX2_lostOnes_0 (by decide) ?_
  refine lv_istore_n (lv' := [(1, .int 0), (0, .ref m0)]) hx hb dX2_lostOnes_1 rfl hl (by decide) rfl (fun ls hl => ?_)
  refine lv_iconst (v := 1) hx hb dX2_lostOnes_2 (by decide) ?_
  refine lv_istore_n (lv' := [(2, .int 1), (1, .int 0), (0, .ref m0)]) hx hb dX2_lostOnes_3 rfl hl (by decide) rfl (fun ls hl => ?_)
  obtain ⟨j, hI⟩ : ∃ (j : Nat), j ≤ n ∧ lv_has ls 3 [(2, .int (nI (j + 1))), (1, .int (cnt lo j)), (0, .ref m0)] := ⟨0, Nat.zero_le _, by exact lv_sub hl [0, 1, 2] rfl⟩
  obtain ⟨d, hjd⟩ : ∃ d, j + d = n := ⟨n - j, by omega⟩
  clear hl
  induction d generalizing ls j with
  | zero =>
    obtain ⟨hjn, hl⟩ := hI
    have hjn : j = n := by omega
    rw [hjn] at hl
    refine lv_iload_n hx hb dX2_lostOnes_4 rfl (lv_at hl 0 rfl) ?_
    refine lv_aload_n hx hb dX2_lostOnes_5 rfl (lv_at hl 2 rfl) ?_
    refine va_get (D := D) (ci := 2) (v := .int (nI n)) (C := RX2) (T := TX2) (N := 14) hx hb hts (by decide +kernel) hown hK hP 0 rfl rfl 1 (by decide) (hts _ hm1) (fun _ h9 => h9) rfl dX2_lostOnes_6 ?_
    refine lv_icmp_gt (tgt := 35) hx hb dX2_lostOnes_9 (by decide) (fun c_1 => ?_) (fun c_1 => absurd (nI_lt (Nat.lt_succ_self n) (by omega)) c_1)
    refine lv_iload_n hx hb dX2_lostOnes_35 rfl (lv_at hl 1 rfl) ?_
    exact W.iret (v := (cnt lo n)) hx hb hr (fun t ht hW => ⟨_, rfl, rfl, ht⟩) (fun q h => absurd h List.not_mem_nil) dX2_lostOnes_36
  | succ d ih =>
    obtain ⟨hjn, hl⟩ := hI
    have hlt : j < n := by omega
    refine lv_iload_n hx hb dX2_lostOnes_4 rfl (lv_at hl 0 rfl) ?_
    refine lv_aload_n hx hb dX2_lostOnes_5 rfl (lv_at hl 2 rfl) ?_
    refine va_get (D := D) (ci := 2) (v := .int (nI n)) (C := RX2) (T := TX2) (N := 14) hx hb hts (by decide +kernel) hown hK hP 0 rfl rfl 1 (by decide) (hts _ hm1) (fun _ h9 => h9) rfl dX2_lostOnes_6 ?_
    refine lv_icmp_gt (tgt := 35) hx hb dX2_lostOnes_9 (by decide) (fun c_2 => absurd c_2 (nI_nlt (by omega) (by omega))) (fun c_2 => ?_)
    refine lv_aload_n hx hb dX2_lostOnes_12 rfl (lv_at hl 2 rfl) ?_
    refine va_get (D := D) (ci := 2) (v := .ref (a 2)) (C := RX2) (T := TX2) (N := 14) hx hb hts (by decide +kernel) hown hK hP 0 rfl rfl 3 (by decide) (hts _ hm2) (fun _ h9 => h9) rfl dX2_lostOnes_13 ?_
    refine lv_iload_n hx hb dX2_lostOnes_16 rfl (lv_at hl 0 rfl) ?_
    refine va_zald (D := D) (f := lo) hx hb hK hP 2 1 rfl rfl (ix_9 hn hlt) dX2_lostOnes_17 ?_
    refine W.eq (g2 := F0 m 18 ls [.int (lo (j + 1))]) (by rw [wIx hn hlt]) ?_
    refine lv_if_eq (tgt := 27) hx hb dX2_lostOnes_18 (by decide) (fun c_3 => ?_) (fun c_3 => ?_)
    · skip
      refine lv_iload_n hx hb dX2_lostOnes_27 rfl (lv_at hl 1 rfl) ?_
      refine lv_istore_n (lv' := [(1, .int (cnt lo j)), (2, .int (nI (j + 1))), (0, .ref m0)]) hx hb dX2_lostOnes_28 rfl hl (by decide) rfl (fun ls hl => ?_)
      refine lv_iinc (v := nI (j + 1 + 1)) (lv' := [(2, .int (nI (j + 1 + 1))), (1, .int (cnt lo j)), (0, .ref m0)]) hx hb dX2_lostOnes_29 hl (k := 1) rfl (nI_1 (j + 1)) (by decide) rfl (fun ls hl => ?_)
      refine lv_goto (tgt := 4) hx hb dX2_lostOnes_32 (by decide) ?_
      exact ih _ (j + 1) ⟨by omega, by rw [show nI ((j + 1) + 1) = nI (j + 1 + 1) from rfl]; rw [show cnt lo (j + 1) = cnt lo j from by simp [cnt, c_3]]; exact lv_sub hl [0, 1, 2] rfl⟩ (by omega)
    · skip
      refine lv_iload_n hx hb dX2_lostOnes_21 rfl (lv_at hl 1 rfl) ?_
      refine lv_iconst (v := 1) hx hb dX2_lostOnes_22 (by decide) ?_
      refine lv_iadd hx hb dX2_lostOnes_23 ?_
      refine lv_goto (tgt := 28) hx hb dX2_lostOnes_24 (by decide) ?_
      refine lv_istore_n (lv' := [(1, .int ((cnt lo j) + 1)), (2, .int (nI (j + 1))), (0, .ref m0)]) hx hb dX2_lostOnes_28 rfl hl (by decide) rfl (fun ls hl => ?_)
      refine lv_iinc (v := nI (j + 1 + 1)) (lv' := [(2, .int (nI (j + 1 + 1))), (1, .int ((cnt lo j) + 1)), (0, .ref m0)]) hx hb dX2_lostOnes_29 hl (k := 1) rfl (nI_1 (j + 1)) (by decide) rfl (fun ls hl => ?_)
      refine lv_goto (tgt := 4) hx hb dX2_lostOnes_32 (by decide) ?_
      exact ih _ (j + 1) ⟨by omega, by rw [show nI ((j + 1) + 1) = nI (j + 1 + 1) from rfl]; rw [show cnt lo (j + 1) = (cnt lo j) + 1 from by simp [cnt, c_3]]; exact lv_sub hl [0, 1, 2] rfl⟩ (by omega)
set_option maxHeartbeats 4000000 in
set_option maxRecDepth 100000 in
/-- phaseOf -/
theorem m2_phaseOf (l : Launch) (D : va_G) (m0 : Nat) (a : Nat → Nat) (C : Nat → ClassId) (n : Nat) (th : Int32) (sp : Nat → Int64) (lo ph : Nat → Int32) (pr bo : Nat → Int64) (mo : Nat → UInt64) (rf : Int64) (gr hd st ch rs : Int32) (hn : n ≤ 8) (i : Nat) (hi : i < n) (ped : Int64) : Met l yX2_phaseOf wsX2_phaseOf ({ frames := 0, cells := 0, slots := 0, locals := 0 }) (va_Pc [.ref m0, .int (nI (i + 1)), .long ped] (xP D [(C 1, .long), (C 2, .boolean), (C 3, .int), (C 4, .long), (C 5, .long), (C 6, .double)] (mw m0 a C th (nI n) sp lo ph pr bo mo rf gr hd st ch rs))) (vp_Si (fun r : Int32 => r = sPh (lo (i + 1)) rf ped (sp (i + 1)) (ph (i + 1)) (pr (i + 1)))) 0 0 (fun _ => False) := by
  refine Met.ofW (cc := cX2_phaseOf) (maxL := 5) (ret := (some .int)) (by decide) rfl ?_
  intro p e s m args below meth c s₁ B hml hv
  obtain ⟨rfl, hP, hK, hN⟩ := hv
  have hx := B.exec
  have hb := B.bytes
  have hr := B.returns
  have hts := atoms_spec (ws := wsX2_phaseOf) B.pre
  have hown : s.vm.findClass RX2 = some m.cls := findClass_of_methodNamed B.named
  have hlocks := B.notSynchronized
  have hm1 : (.fieldLink RX2 13 "GearBrakeModel" "losts" "[Z" : Cond) ∈ wsX2_phaseOf := by decide +kernel
  have hm2 : (.fieldLink RX2 53 "GearBrakeModel" "reference" "J" : Cond) ∈ wsX2_phaseOf := by decide +kernel
  have hm3 : (.constantLong RX2 38 (100) : Cond) ∈ wsX2_phaseOf := by decide +kernel
  have hm4 : (.fieldLink RX2 7 "GearBrakeModel" "speeds" "[J" : Cond) ∈ wsX2_phaseOf := by decide +kernel
  have hm5 : (.constantLong RX2 59 (80) : Cond) ∈ wsX2_phaseOf := by decide +kernel
  have hm6 : (.constantLong RX2 61 (90) : Cond) ∈ wsX2_phaseOf := by decide +kernel
  have hm7 : (.fieldLink RX2 17 "GearBrakeModel" "phases" "[I" : Cond) ∈ wsX2_phaseOf := by decide +kernel
  have hm8 : (.fieldLink RX2 21 "GearBrakeModel" "pressures" "[J" : Cond) ∈ wsX2_phaseOf := by decide +kernel
  have hl := lv_entry ([.ref m0, .int (nI (i + 1)), .long ped]) (n := 5) (Nat.le_of_ble_eq_true rfl)
  rw [lg_entry_eq]
  generalize (lg_sl ([.ref m0, .int (nI (i + 1)), .long ped]) ++ List.replicate (5 - (lg_sl ([.ref m0, .int (nI (i + 1)), .long ped])).length) Slot.unset).toArray = ls at hl ⊢
  replace hl : lv_has ls 5 [(0, .ref m0), (1, .int (nI (i + 1))), (2, .long ped)] := hl
  refine lv_aload_n hx hb dX2_phaseOf_0 rfl (lv_at hl 0 rfl) ?_
  refine va_get (D := D) (ci := 2) (v := .ref (a 2)) (C := RX2) (T := TX2) (N := 14) hx hb hts (by decide +kernel) hown hK hP 0 rfl rfl 3 (by decide) (hts _ hm1) (fun _ h9 => h9) rfl dX2_phaseOf_1 ?_
  refine lv_iload_n hx hb dX2_phaseOf_4 rfl (lv_at hl 1 rfl) ?_
  refine va_zald (D := D) (f := lo) hx hb hK hP 2 1 rfl rfl (ix_9 hn hi) dX2_phaseOf_5 ?_
  refine W.eq (g2 := F0 m 6 ls [.int (lo (i + 1))]) (by rw [wIx hn hi]) ?_
  refine lv_if_ne (tgt := 24) hx hb dX2_phaseOf_6 (by decide) (fun c_1 => ?_) (fun c_1 => ?_)
  · skip
    refine lv_iconst (v := 0) hx hb dX2_phaseOf_24 (by decide) ?_
    exact W.iret (v := 0) hx hb hr (fun t ht hW => ⟨_, rfl, by first | (simp [sPh, c_1]; done) | (simp [sPh, c_1]; rfl), ht⟩) (fun q h => absurd h List.not_mem_nil) dX2_phaseOf_25
  · skip
    refine lv_aload_n hx hb dX2_phaseOf_9 rfl (lv_at hl 0 rfl) ?_
    refine va_get (D := D) (ci := 2) (v := .long rf) (C := RX2) (T := TX2) (N := 14) hx hb hts (by decide +kernel) hown hK hP 0 rfl rfl 8 (by decide) (hts _ hm2) (fun _ h9 => h9) rfl dX2_phaseOf_10 ?_
    refine lv_lconst (v := 0) hx hb dX2_phaseOf_13 (by decide) ?_
    refine W.lcmp hx hb dX2_phaseOf_14 ?_
    refine lv_if_eq (tgt := 24) hx hb dX2_phaseOf_15 (by decide) (fun c_2 => ?_) (fun c_2 => ?_)
    · skip
      replace c_2 := (lg_cmp_eq _ _).mp c_2
      refine lv_iconst (v := 0) hx hb dX2_phaseOf_24 (by decide) ?_
      exact W.iret (v := 0) hx hb hr (fun t ht hW => ⟨_, rfl, by first | (simp [sPh, c_1, c_2]; done) | (simp [sPh, c_1, c_2]; rfl), ht⟩) (fun q h => absurd h List.not_mem_nil) dX2_phaseOf_25
    · skip
      replace c_2 := mt (lg_cmp_eq _ _).mpr c_2
      refine lv_lload_n hx hb dX2_phaseOf_18 rfl (lv_at hl 2 rfl) ?_
      refine lv_lconst (v := 0) hx hb dX2_phaseOf_19 (by decide) ?_
      refine W.lcmp hx hb dX2_phaseOf_20 ?_
      refine lv_if_ne (tgt := 26) hx hb dX2_phaseOf_21 (by decide) (fun c_3 => ?_) (fun c_3 => ?_)
      · skip
        replace c_3 := mt (lg_cmp_eq _ _).mpr c_3
        refine lv_ldc2 hx hb hown (hts _ hm3) dX2_phaseOf_26 ?_
        refine lv_aload_n hx hb dX2_phaseOf_29 rfl (lv_at hl 0 rfl) ?_
        refine va_get (D := D) (ci := 2) (v := .ref (a 1)) (C := RX2) (T := TX2) (N := 14) hx hb hts (by decide +kernel) hown hK hP 0 rfl rfl 2 (by decide) (hts _ hm4) (fun _ h9 => h9) rfl dX2_phaseOf_30 ?_
        refine lv_iload_n hx hb dX2_phaseOf_33 rfl (lv_at hl 1 rfl) ?_
        refine va_lald (D := D) (f := sp) hx hb hK hP 1 0 rfl rfl (ix_9 hn hi) dX2_phaseOf_34 ?_
        refine W.eq (g2 := F0 m 35 ls [.long (sp (i + 1)), .long 100]) (by rw [wIx hn hi]) ?_
        refine lv_lmul hx hb dX2_phaseOf_35 ?_
        refine lv_ldc2 hx hb hown (hts _ hm5) dX2_phaseOf_36 ?_
        refine lv_aload_n hx hb dX2_phaseOf_39 rfl (lv_at hl 0 rfl) ?_
        refine va_get (D := D) (ci := 2) (v := .long rf) (C := RX2) (T := TX2) (N := 14) hx hb hts (by decide +kernel) hown hK hP 0 rfl rfl 8 (by decide) (hts _ hm2) (fun _ h9 => h9) rfl dX2_phaseOf_40 ?_
        refine lv_lmul hx hb dX2_phaseOf_43 ?_
        refine W.lcmp hx hb dX2_phaseOf_44 ?_
        refine lv_if_ge (tgt := 50) hx hb dX2_phaseOf_45 (by decide) (fun c_4 => ?_) (fun c_4 => ?_)
        · skip
          replace c_4 := (lg_cmp_ge _ _).mp c_4
          refine lv_ldc2 hx hb hown (hts _ hm3) dX2_phaseOf_50 ?_
          refine lv_aload_n hx hb dX2_phaseOf_53 rfl (lv_at hl 0 rfl) ?_
          refine va_get (D := D) (ci := 2) (v := .ref (a 1)) (C := RX2) (T := TX2) (N := 14) hx hb hts (by decide +kernel) hown hK hP 0 rfl rfl 2 (by decide) (hts _ hm4) (fun _ h9 => h9) rfl dX2_phaseOf_54 ?_
          refine lv_iload_n hx hb dX2_phaseOf_57 rfl (lv_at hl 1 rfl) ?_
          refine va_lald (D := D) (f := sp) hx hb hK hP 1 0 rfl rfl (ix_9 hn hi) dX2_phaseOf_58 ?_
          refine W.eq (g2 := F0 m 59 ls [.long (sp (i + 1)), .long 100]) (by rw [wIx hn hi]) ?_
          refine lv_lmul hx hb dX2_phaseOf_59 ?_
          refine lv_ldc2 hx hb hown (hts _ hm6) dX2_phaseOf_60 ?_
          refine lv_aload_n hx hb dX2_phaseOf_63 rfl (lv_at hl 0 rfl) ?_
          refine va_get (D := D) (ci := 2) (v := .long rf) (C := RX2) (T := TX2) (N := 14) hx hb hts (by decide +kernel) hown hK hP 0 rfl rfl 8 (by decide) (hts _ hm2) (fun _ h9 => h9) rfl dX2_phaseOf_64 ?_
          refine lv_lmul hx hb dX2_phaseOf_67 ?_
          refine W.lcmp hx hb dX2_phaseOf_68 ?_
          refine lv_if_ge (tgt := 74) hx hb dX2_phaseOf_69 (by decide) (fun c_5 => ?_) (fun c_5 => ?_)
          · skip
            replace c_5 := (lg_cmp_ge _ _).mp c_5
            refine lv_aload_n hx hb dX2_phaseOf_74 rfl (lv_at hl 0 rfl) ?_
            refine va_get (D := D) (ci := 2) (v := .ref (a 3)) (C := RX2) (T := TX2) (N := 14) hx hb hts (by decide +kernel) hown hK hP 0 rfl rfl 4 (by decide) (hts _ hm7) (fun _ h9 => h9) rfl dX2_phaseOf_75 ?_
            refine lv_iload_n hx hb dX2_phaseOf_78 rfl (lv_at hl 1 rfl) ?_
            refine va_iald (D := D) (f := ph) hx hb hK hP 3 2 rfl rfl (ix_9 hn hi) dX2_phaseOf_79 ?_
            refine W.eq (g2 := F0 m 80 ls [.int (ph (i + 1))]) (by rw [wIx hn hi]) ?_
            refine lv_istore (lv' := [(4, .int (ph (i + 1))), (0, .ref m0), (1, .int (nI (i + 1))), (2, .long ped)]) hx hb dX2_phaseOf_80 hl (by decide) rfl (fun ls hl => ?_)
            refine lv_iload hx hb dX2_phaseOf_82 (lv_at hl 0 rfl) ?_
            refine lv_iconst (v := 1) hx hb dX2_phaseOf_84 (by decide) ?_
            refine lv_icmp_eq (tgt := 111) hx hb dX2_phaseOf_85 (by decide) (fun c_6 => ?_) (fun c_6 => ?_)
            · skip
              refine lv_iconst (v := 3) hx hb dX2_phaseOf_111 (by decide) ?_
              refine lv_goto (tgt := 116) hx hb dX2_phaseOf_112 (by decide) ?_
              exact W.iret (v := 3) hx hb hr (fun t ht hW => ⟨_, rfl, by first | (simp [sPh, c_1, c_2, c_3, c_4, c_5, c_6]; done) | (simp [sPh, c_1, c_2, c_3, c_4, c_5, c_6]; rfl), ht⟩) (fun q h => absurd h List.not_mem_nil) dX2_phaseOf_116
            · skip
              refine lv_iload hx hb dX2_phaseOf_88 (lv_at hl 0 rfl) ?_
              refine lv_iconst (v := 2) hx hb dX2_phaseOf_90 (by decide) ?_
              refine lv_icmp_eq (tgt := 111) hx hb dX2_phaseOf_91 (by decide) (fun c_7 => ?_) (fun c_7 => ?_)
              · skip
                refine lv_iconst (v := 3) hx hb dX2_phaseOf_111 (by decide) ?_
                refine lv_goto (tgt := 116) hx hb dX2_phaseOf_112 (by decide) ?_
                exact W.iret (v := 3) hx hb hr (fun t ht hW => ⟨_, rfl, by first | (simp [sPh, c_1, c_2, c_3, c_4, c_5, c_6, c_7]; done) | (simp [sPh, c_1, c_2, c_3, c_4, c_5, c_6, c_7]; rfl), ht⟩) (fun q h => absurd h List.not_mem_nil) dX2_phaseOf_116
              · skip
                refine lv_iload hx hb dX2_phaseOf_94 (lv_at hl 0 rfl) ?_
                refine lv_iconst (v := 3) hx hb dX2_phaseOf_96 (by decide) ?_
                refine lv_icmp_ne (tgt := 115) hx hb dX2_phaseOf_97 (by decide) (fun c_8 => ?_) (fun c_8 => ?_)
                · skip
                  refine lv_iconst (v := 0) hx hb dX2_phaseOf_115 (by decide) ?_
                  exact W.iret (v := 0) hx hb hr (fun t ht hW => ⟨_, rfl, by first | (simp [sPh, c_1, c_2, c_3, c_4, c_5, c_6, c_7, c_8]; done) | (simp [sPh, c_1, c_2, c_3, c_4, c_5, c_6, c_7, c_8]; rfl), ht⟩) (fun q h => absurd h List.not_mem_nil) dX2_phaseOf_116
                · skip
                  refine lv_aload_n hx hb dX2_phaseOf_100 rfl (lv_at hl 1 rfl) ?_
                  refine va_get (D := D) (ci := 2) (v := .ref (a 4)) (C := RX2) (T := TX2) (N := 14) hx hb hts (by decide +kernel) hown hK hP 0 rfl rfl 5 (by decide) (hts _ hm8) (fun _ h9 => h9) rfl dX2_phaseOf_101 ?_
                  refine lv_iload_n hx hb dX2_phaseOf_104 rfl (lv_at hl 2 rfl) ?_
                  refine va_lald (D := D) (f := pr) hx hb hK hP 4 3 rfl rfl (ix_9 hn hi) dX2_phaseOf_105 ?_
                  refine W.eq (g2 := F0 m 106 ls [.long (pr (i + 1))]) (by rw [wIx hn hi]) ?_
                  refine lv_lload_n hx hb dX2_phaseOf_106 rfl (lv_at hl 3 rfl) ?_
                  refine W.lcmp hx hb dX2_phaseOf_107 ?_
                  refine lv_if_ge (tgt := 115) hx hb dX2_phaseOf_108 (by decide) (fun c_9 => ?_) (fun c_9 => ?_)
                  · skip
                    replace c_9 := (lg_cmp_ge _ _).mp c_9
                    refine lv_iconst (v := 0) hx hb dX2_phaseOf_115 (by decide) ?_
                    exact W.iret (v := 0) hx hb hr (fun t ht hW => ⟨_, rfl, by first | (simp [sPh, c_1, c_2, c_3, c_4, c_5, c_6, c_7, c_8, c_9]; done) | (simp [sPh, c_1, c_2, c_3, c_4, c_5, c_6, c_7, c_8, c_9]; rfl), ht⟩) (fun q h => absurd h List.not_mem_nil) dX2_phaseOf_116
                  · skip
                    replace c_9 := mt (lg_cmp_ge _ _).mpr c_9
                    refine lv_iconst (v := 3) hx hb dX2_phaseOf_111 (by decide) ?_
                    refine lv_goto (tgt := 116) hx hb dX2_phaseOf_112 (by decide) ?_
                    exact W.iret (v := 3) hx hb hr (fun t ht hW => ⟨_, rfl, by first | (simp [sPh, c_1, c_2, c_3, c_4, c_5, c_6, c_7, c_8, c_9]; done) | (simp [sPh, c_1, c_2, c_3, c_4, c_5, c_6, c_7, c_8, c_9]; rfl), ht⟩) (fun q h => absurd h List.not_mem_nil) dX2_phaseOf_116
          · skip
            replace c_5 := mt (lg_cmp_ge _ _).mpr c_5
            refine lv_iconst (v := 1) hx hb dX2_phaseOf_72 (by decide) ?_
            exact W.iret (v := 1) hx hb hr (fun t ht hW => ⟨_, rfl, by first | (simp [sPh, c_1, c_2, c_3, c_4, c_5]; done) | (simp [sPh, c_1, c_2, c_3, c_4, c_5]; rfl), ht⟩) (fun q h => absurd h List.not_mem_nil) dX2_phaseOf_73
        · skip
          replace c_4 := mt (lg_cmp_ge _ _).mpr c_4
          refine lv_iconst (v := 2) hx hb dX2_phaseOf_48 (by decide) ?_
          exact W.iret (v := 2) hx hb hr (fun t ht hW => ⟨_, rfl, by first | (simp [sPh, c_1, c_2, c_3, c_4]; done) | (simp [sPh, c_1, c_2, c_3, c_4]; rfl), ht⟩) (fun q h => absurd h List.not_mem_nil) dX2_phaseOf_49
      · skip
        replace c_3 := (lg_cmp_eq _ _).mp c_3
        refine lv_iconst (v := 0) hx hb dX2_phaseOf_24 (by decide) ?_
        exact W.iret (v := 0) hx hb hr (fun t ht hW => ⟨_, rfl, by first | (simp [sPh, c_1, c_2, c_3]; done) | (simp [sPh, c_1, c_2, c_3]; rfl), ht⟩) (fun q h => absurd h List.not_mem_nil) dX2_phaseOf_25
set_option maxHeartbeats 4000000 in
set_option maxRecDepth 100000 in
/-- pressureOf -/
theorem m2_pressureOf (l : Launch) (D : va_G) (m0 : Nat) (a : Nat → Nat) (C : Nat → ClassId) (n : Nat) (th : Int32) (sp : Nat → Int64) (lo ph : Nat → Int32) (pr bo : Nat → Int64) (mo : Nat → UInt64) (rf : Int64) (gr hd st ch rs : Int32) (hn : n ≤ 8) (i : Nat) (hi : i < n) (ped : Int64) : Met l yX2_pressureOf wsX2_pressureOf ({ frames := 0, cells := 0, slots := 0, locals := 0 }) (va_Pc [.ref m0, .int (nI (i + 1)), .long ped] (xP D [(C 1, .long), (C 2, .boolean), (C 3, .int), (C 4, .long), (C 5, .long), (C 6, .double)] (mw m0 a C th (nI n) sp lo ph pr bo mo rf gr hd st ch rs))) (vp_Sl (fun r : Int64 => r = mPr (ph (i + 1)) ped (pr (i + 1)) hd (bo (i + 1)))) 0 0 (fun _ => False) := by
  refine Met.ofW (cc := cX2_pressureOf) (maxL := 6) (ret := (some .long)) (by decide) rfl ?_
  intro p e s m args below meth c s₁ B hml hv
  obtain ⟨rfl, hP, hK, hN⟩ := hv
  have hx := B.exec
  have hb := B.bytes
  have hr := B.returns
  have hts := atoms_spec (ws := wsX2_pressureOf) B.pre
  have hown : s.vm.findClass RX2 = some m.cls := findClass_of_methodNamed B.named
  have hlocks := B.notSynchronized
  have hm1 : (.fieldLink RX2 21 "GearBrakeModel" "pressures" "[J" : Cond) ∈ wsX2_pressureOf := by decide +kernel
  have hm2 : (.fieldLink RX2 17 "GearBrakeModel" "phases" "[I" : Cond) ∈ wsX2_pressureOf := by decide +kernel
  have hm3 : (.fieldLink RX2 67 "GearBrakeModel" "holds" "Z" : Cond) ∈ wsX2_pressureOf := by decide +kernel
  have hm4 : (.fieldLink RX2 24 "GearBrakeModel" "bounds" "[J" : Cond) ∈ wsX2_pressureOf := by decide +kernel
  have hm5 : (.constantLong RX2 71 (30) : Cond) ∈ wsX2_pressureOf := by decide +kernel
  have hm6 : (.constantLong RX2 65 (5) : Cond) ∈ wsX2_pressureOf := by decide +kernel
  have hm7 : (.constantLong RX2 63 (10) : Cond) ∈ wsX2_pressureOf := by decide +kernel
  have hl := lv_entry ([.ref m0, .int (nI (i + 1)), .long ped]) (n := 6) (Nat.le_of_ble_eq_true rfl)
  rw [lg_entry_eq]
  generalize (lg_sl ([.ref m0, .int (nI (i + 1)), .long ped]) ++ List.replicate (6 - (lg_sl ([.ref m0, .int (nI (i + 1)), .long ped])).length) Slot.unset).toArray = ls at hl ⊢
  replace hl : lv_has ls 6 [(0, .ref m0), (1, .int (nI (i + 1))), (2, .long ped)] := hl
  refine lv_aload_n hx hb dX2_pressureOf_0 rfl (lv_at hl 0 rfl) ?_
  refine va_get (D := D) (ci := 2) (v := .ref (a 4)) (C := RX2) (T := TX2) (N := 14) hx hb hts (by decide +kernel) hown hK hP 0 rfl rfl 5 (by decide) (hts _ hm1) (fun _ h9 => h9) rfl dX2_pressureOf_1 ?_
  refine lv_iload_n hx hb dX2_pressureOf_4 rfl (lv_at hl 1 rfl) ?_
  refine va_lald (D := D) (f := pr) hx hb hK hP 4 3 rfl rfl (ix_9 hn hi) dX2_pressureOf_5 ?_
  refine W.eq (g2 := F0 m 6 ls [.long (pr (i + 1))]) (by rw [wIx hn hi]) ?_
  refine lv_lstore (lv' := [(4, .long (pr (i + 1))), (0, .ref m0), (1, .int (nI (i + 1))), (2, .long ped)]) hx hb dX2_pressureOf_6 hl (by decide) rfl (fun ls hl => ?_)
  refine lv_aload_n hx hb dX2_pressureOf_8 rfl (lv_at hl 1 rfl) ?_
  refine va_get (D := D) (ci := 2) (v := .ref (a 3)) (C := RX2) (T := TX2) (N := 14) hx hb hts (by decide +kernel) hown hK hP 0 rfl rfl 4 (by decide) (hts _ hm2) (fun _ h9 => h9) rfl dX2_pressureOf_9 ?_
  refine lv_iload_n hx hb dX2_pressureOf_12 rfl (lv_at hl 2 rfl) ?_
  refine va_iald (D := D) (f := ph) hx hb hK hP 3 2 rfl rfl (ix_9 hn hi) dX2_pressureOf_13 ?_
  refine W.eq (g2 := F0 m 14 ls [.int (ph (i + 1))]) (by rw [wIx hn hi]) ?_
  refine lv_if_ne (tgt := 23) hx hb dX2_pressureOf_14 (by decide) (fun c_1 => ?_) (fun c_1 => ?_)
  · skip
    refine lv_aload_n hx hb dX2_pressureOf_23 rfl (lv_at hl 1 rfl) ?_
    refine va_get (D := D) (ci := 2) (v := .ref (a 3)) (C := RX2) (T := TX2) (N := 14) hx hb hts (by decide +kernel) hown hK hP 0 rfl rfl 4 (by decide) (hts _ hm2) (fun _ h9 => h9) rfl dX2_pressureOf_24 ?_
    refine lv_iload_n hx hb dX2_pressureOf_27 rfl (lv_at hl 2 rfl) ?_
    refine va_iald (D := D) (f := ph) hx hb hK hP 3 2 rfl rfl (ix_9 hn hi) dX2_pressureOf_28 ?_
    refine W.eq (g2 := F0 m 29 ls [.int (ph (i + 1))]) (by rw [wIx hn hi]) ?_
    refine lv_iconst (v := 2) hx hb dX2_pressureOf_29 (by decide) ?_
    refine lv_icmp_ne (tgt := 57) hx hb dX2_pressureOf_30 (by decide) (fun c_2 => ?_) (fun c_2 => ?_)
    · skip
      refine lv_aload_n hx hb dX2_pressureOf_57 rfl (lv_at hl 1 rfl) ?_
      refine va_get (D := D) (ci := 2) (v := .ref (a 3)) (C := RX2) (T := TX2) (N := 14) hx hb hts (by decide +kernel) hown hK hP 0 rfl rfl 4 (by decide) (hts _ hm2) (fun _ h9 => h9) rfl dX2_pressureOf_58 ?_
      refine lv_iload_n hx hb dX2_pressureOf_61 rfl (lv_at hl 2 rfl) ?_
      refine va_iald (D := D) (f := ph) hx hb hK hP 3 2 rfl rfl (ix_9 hn hi) dX2_pressureOf_62 ?_
      refine W.eq (g2 := F0 m 63 ls [.int (ph (i + 1))]) (by rw [wIx hn hi]) ?_
      refine lv_iconst (v := 3) hx hb dX2_pressureOf_63 (by decide) ?_
      refine lv_icmp_ne (tgt := 90) hx hb dX2_pressureOf_64 (by decide) (fun c_3 => ?_) (fun c_3 => ?_)
      · skip
        refine lv_aload_n hx hb dX2_pressureOf_90 rfl (lv_at hl 1 rfl) ?_
        refine va_get (D := D) (ci := 2) (v := .int hd) (C := RX2) (T := TX2) (N := 14) hx hb hts (by decide +kernel) hown hK hP 0 rfl rfl 10 (by decide) (hts _ hm3) (fun _ h9 => h9) rfl dX2_pressureOf_91 ?_
        refine lv_if_eq (tgt := 112) hx hb dX2_pressureOf_94 (by decide) (fun c_4 => ?_) (fun c_4 => ?_)
        · skip
          refine lv_lload hx hb dX2_pressureOf_112 (lv_at hl 0 rfl) ?_
          refine lv_lstore (lv' := [(4, .long (pr (i + 1))), (0, .ref m0), (1, .int (nI (i + 1))), (2, .long ped)]) hx hb dX2_pressureOf_114 hl (by decide) rfl (fun ls hl => ?_)
          refine lv_lload hx hb dX2_pressureOf_116 (lv_at hl 0 rfl) ?_
          refine lv_aload_n hx hb dX2_pressureOf_118 rfl (lv_at hl 1 rfl) ?_
          refine va_get (D := D) (ci := 2) (v := .ref (a 5)) (C := RX2) (T := TX2) (N := 14) hx hb hts (by decide +kernel) hown hK hP 0 rfl rfl 6 (by decide) (hts _ hm4) (fun _ h9 => h9) rfl dX2_pressureOf_119 ?_
          refine lv_iload_n hx hb dX2_pressureOf_122 rfl (lv_at hl 2 rfl) ?_
          refine va_lald (D := D) (f := bo) hx hb hK hP 5 4 rfl rfl (ix_9 hn hi) dX2_pressureOf_123 ?_
          refine W.eq (g2 := F0 m 124 ls [.long (bo (i + 1)), .long (pr (i + 1))]) (by rw [wIx hn hi]) ?_
          refine W.lcmp hx hb dX2_pressureOf_124 ?_
          refine lv_if_le (tgt := 137) hx hb dX2_pressureOf_125 (by decide) (fun c_5 => ?_) (fun c_5 => ?_)
          · skip
            replace c_5 := (lg_cmp_le _ _).mp c_5
            refine lv_lload hx hb dX2_pressureOf_137 (lv_at hl 0 rfl) ?_
            exact W.lret (v := (pr (i + 1))) hx hb hr (fun t ht hW => ⟨_, rfl, by first | (simp [mPr, mHold, mWant, c_1, c_2, c_3, c_4, c_5]; done) | (simp [mPr, mHold, mWant, c_1, c_2, c_3, c_4, c_5]; rfl), ht⟩) (fun q h => absurd h List.not_mem_nil) dX2_pressureOf_139
          · skip
            replace c_5 := mt (lg_cmp_le _ _).mpr c_5
            refine lv_aload_n hx hb dX2_pressureOf_128 rfl (lv_at hl 1 rfl) ?_
            refine va_get (D := D) (ci := 2) (v := .ref (a 5)) (C := RX2) (T := TX2) (N := 14) hx hb hts (by decide +kernel) hown hK hP 0 rfl rfl 6 (by decide) (hts _ hm4) (fun _ h9 => h9) rfl dX2_pressureOf_129 ?_
            refine lv_iload_n hx hb dX2_pressureOf_132 rfl (lv_at hl 2 rfl) ?_
            refine va_lald (D := D) (f := bo) hx hb hK hP 5 4 rfl rfl (ix_9 hn hi) dX2_pressureOf_133 ?_
            refine W.eq (g2 := F0 m 134 ls [.long (bo (i + 1))]) (by rw [wIx hn hi]) ?_
            refine lv_goto (tgt := 139) hx hb dX2_pressureOf_134 (by decide) ?_
            exact W.lret (v := (bo (i + 1))) hx hb hr (fun t ht hW => ⟨_, rfl, by first | (simp [mPr, mHold, mWant, c_1, c_2, c_3, c_4, c_5]; done) | (simp [mPr, mHold, mWant, c_1, c_2, c_3, c_4, c_5]; rfl), ht⟩) (fun q h => absurd h List.not_mem_nil) dX2_pressureOf_139
        · skip
          refine lv_lload hx hb dX2_pressureOf_97 (lv_at hl 0 rfl) ?_
          refine lv_ldc2 hx hb hown (hts _ hm5) dX2_pressureOf_99 ?_
          refine W.lcmp hx hb dX2_pressureOf_102 ?_
          refine lv_if_ge (tgt := 112) hx hb dX2_pressureOf_103 (by decide) (fun c_6 => ?_) (fun c_6 => ?_)
          · skip
            replace c_6 := (lg_cmp_ge _ _).mp c_6
            refine lv_lload hx hb dX2_pressureOf_112 (lv_at hl 0 rfl) ?_
            refine lv_lstore (lv' := [(4, .long (pr (i + 1))), (0, .ref m0), (1, .int (nI (i + 1))), (2, .long ped)]) hx hb dX2_pressureOf_114 hl (by decide) rfl (fun ls hl => ?_)
            refine lv_lload hx hb dX2_pressureOf_116 (lv_at hl 0 rfl) ?_
            refine lv_aload_n hx hb dX2_pressureOf_118 rfl (lv_at hl 1 rfl) ?_
            refine va_get (D := D) (ci := 2) (v := .ref (a 5)) (C := RX2) (T := TX2) (N := 14) hx hb hts (by decide +kernel) hown hK hP 0 rfl rfl 6 (by decide) (hts _ hm4) (fun _ h9 => h9) rfl dX2_pressureOf_119 ?_
            refine lv_iload_n hx hb dX2_pressureOf_122 rfl (lv_at hl 2 rfl) ?_
            refine va_lald (D := D) (f := bo) hx hb hK hP 5 4 rfl rfl (ix_9 hn hi) dX2_pressureOf_123 ?_
            refine W.eq (g2 := F0 m 124 ls [.long (bo (i + 1)), .long (pr (i + 1))]) (by rw [wIx hn hi]) ?_
            refine W.lcmp hx hb dX2_pressureOf_124 ?_
            refine lv_if_le (tgt := 137) hx hb dX2_pressureOf_125 (by decide) (fun c_7 => ?_) (fun c_7 => ?_)
            · skip
              replace c_7 := (lg_cmp_le _ _).mp c_7
              refine lv_lload hx hb dX2_pressureOf_137 (lv_at hl 0 rfl) ?_
              exact W.lret (v := (pr (i + 1))) hx hb hr (fun t ht hW => ⟨_, rfl, by first | (simp [mPr, mHold, mWant, c_1, c_2, c_3, c_4, c_6, c_7]; done) | (simp [mPr, mHold, mWant, c_1, c_2, c_3, c_4, c_6, c_7]; rfl), ht⟩) (fun q h => absurd h List.not_mem_nil) dX2_pressureOf_139
            · skip
              replace c_7 := mt (lg_cmp_le _ _).mpr c_7
              refine lv_aload_n hx hb dX2_pressureOf_128 rfl (lv_at hl 1 rfl) ?_
              refine va_get (D := D) (ci := 2) (v := .ref (a 5)) (C := RX2) (T := TX2) (N := 14) hx hb hts (by decide +kernel) hown hK hP 0 rfl rfl 6 (by decide) (hts _ hm4) (fun _ h9 => h9) rfl dX2_pressureOf_129 ?_
              refine lv_iload_n hx hb dX2_pressureOf_132 rfl (lv_at hl 2 rfl) ?_
              refine va_lald (D := D) (f := bo) hx hb hK hP 5 4 rfl rfl (ix_9 hn hi) dX2_pressureOf_133 ?_
              refine W.eq (g2 := F0 m 134 ls [.long (bo (i + 1))]) (by rw [wIx hn hi]) ?_
              refine lv_goto (tgt := 139) hx hb dX2_pressureOf_134 (by decide) ?_
              exact W.lret (v := (bo (i + 1))) hx hb hr (fun t ht hW => ⟨_, rfl, by first | (simp [mPr, mHold, mWant, c_1, c_2, c_3, c_4, c_6, c_7]; done) | (simp [mPr, mHold, mWant, c_1, c_2, c_3, c_4, c_6, c_7]; rfl), ht⟩) (fun q h => absurd h List.not_mem_nil) dX2_pressureOf_139
          · skip
            replace c_6 := mt (lg_cmp_ge _ _).mpr c_6
            refine lv_ldc2 hx hb hown (hts _ hm5) dX2_pressureOf_106 ?_
            refine lv_goto (tgt := 114) hx hb dX2_pressureOf_109 (by decide) ?_
            refine lv_lstore (lv' := [(4, .long 30), (0, .ref m0), (1, .int (nI (i + 1))), (2, .long ped)]) hx hb dX2_pressureOf_114 hl (by decide) rfl (fun ls hl => ?_)
            refine lv_lload hx hb dX2_pressureOf_116 (lv_at hl 0 rfl) ?_
            refine lv_aload_n hx hb dX2_pressureOf_118 rfl (lv_at hl 1 rfl) ?_
            refine va_get (D := D) (ci := 2) (v := .ref (a 5)) (C := RX2) (T := TX2) (N := 14) hx hb hts (by decide +kernel) hown hK hP 0 rfl rfl 6 (by decide) (hts _ hm4) (fun _ h9 => h9) rfl dX2_pressureOf_119 ?_
            refine lv_iload_n hx hb dX2_pressureOf_122 rfl (lv_at hl 2 rfl) ?_
            refine va_lald (D := D) (f := bo) hx hb hK hP 5 4 rfl rfl (ix_9 hn hi) dX2_pressureOf_123 ?_
            refine W.eq (g2 := F0 m 124 ls [.long (bo (i + 1)), .long 30]) (by rw [wIx hn hi]) ?_
            refine W.lcmp hx hb dX2_pressureOf_124 ?_
            refine lv_if_le (tgt := 137) hx hb dX2_pressureOf_125 (by decide) (fun c_8 => ?_) (fun c_8 => ?_)
            · skip
              replace c_8 := (lg_cmp_le _ _).mp c_8
              refine lv_lload hx hb dX2_pressureOf_137 (lv_at hl 0 rfl) ?_
              exact W.lret (v := 30) hx hb hr (fun t ht hW => ⟨_, rfl, by first | (simp [mPr, mHold, mWant, c_1, c_2, c_3, c_4, c_6, c_8]; done) | (simp [mPr, mHold, mWant, c_1, c_2, c_3, c_4, c_6, c_8]; rfl), ht⟩) (fun q h => absurd h List.not_mem_nil) dX2_pressureOf_139
            · skip
              replace c_8 := mt (lg_cmp_le _ _).mpr c_8
              refine lv_aload_n hx hb dX2_pressureOf_128 rfl (lv_at hl 1 rfl) ?_
              refine va_get (D := D) (ci := 2) (v := .ref (a 5)) (C := RX2) (T := TX2) (N := 14) hx hb hts (by decide +kernel) hown hK hP 0 rfl rfl 6 (by decide) (hts _ hm4) (fun _ h9 => h9) rfl dX2_pressureOf_129 ?_
              refine lv_iload_n hx hb dX2_pressureOf_132 rfl (lv_at hl 2 rfl) ?_
              refine va_lald (D := D) (f := bo) hx hb hK hP 5 4 rfl rfl (ix_9 hn hi) dX2_pressureOf_133 ?_
              refine W.eq (g2 := F0 m 134 ls [.long (bo (i + 1))]) (by rw [wIx hn hi]) ?_
              refine lv_goto (tgt := 139) hx hb dX2_pressureOf_134 (by decide) ?_
              exact W.lret (v := (bo (i + 1))) hx hb hr (fun t ht hW => ⟨_, rfl, by first | (simp [mPr, mHold, mWant, c_1, c_2, c_3, c_4, c_6, c_8]; done) | (simp [mPr, mHold, mWant, c_1, c_2, c_3, c_4, c_6, c_8]; rfl), ht⟩) (fun q h => absurd h List.not_mem_nil) dX2_pressureOf_139
      · skip
        refine lv_lload hx hb dX2_pressureOf_67 (lv_at hl 0 rfl) ?_
        refine lv_ldc2 hx hb hown (hts _ hm6) dX2_pressureOf_69 ?_
        refine lv_ladd hx hb dX2_pressureOf_72 ?_
        refine lv_lload_n hx hb dX2_pressureOf_73 rfl (lv_at hl 3 rfl) ?_
        refine W.lcmp hx hb dX2_pressureOf_74 ?_
        refine lv_if_le (tgt := 82) hx hb dX2_pressureOf_75 (by decide) (fun c_9 => ?_) (fun c_9 => ?_)
        · skip
          replace c_9 := (lg_cmp_le _ _).mp c_9
          refine lv_lload hx hb dX2_pressureOf_82 (lv_at hl 0 rfl) ?_
          refine lv_ldc2 hx hb hown (hts _ hm6) dX2_pressureOf_84 ?_
          refine lv_ladd hx hb dX2_pressureOf_87 ?_
          refine lv_lstore (lv' := [(4, .long ((pr (i + 1)) + 5)), (0, .ref m0), (1, .int (nI (i + 1))), (2, .long ped)]) hx hb dX2_pressureOf_88 hl (by decide) rfl (fun ls hl => ?_)
          refine lv_aload_n hx hb dX2_pressureOf_90 rfl (lv_at hl 1 rfl) ?_
          refine va_get (D := D) (ci := 2) (v := .int hd) (C := RX2) (T := TX2) (N := 14) hx hb hts (by decide +kernel) hown hK hP 0 rfl rfl 10 (by decide) (hts _ hm3) (fun _ h9 => h9) rfl dX2_pressureOf_91 ?_
          refine lv_if_eq (tgt := 112) hx hb dX2_pressureOf_94 (by decide) (fun c_10 => ?_) (fun c_10 => ?_)
          · skip
            refine lv_lload hx hb dX2_pressureOf_112 (lv_at hl 0 rfl) ?_
            refine lv_lstore (lv' := [(4, .long ((pr (i + 1)) + 5)), (0, .ref m0), (1, .int (nI (i + 1))), (2, .long ped)]) hx hb dX2_pressureOf_114 hl (by decide) rfl (fun ls hl => ?_)
            refine lv_lload hx hb dX2_pressureOf_116 (lv_at hl 0 rfl) ?_
            refine lv_aload_n hx hb dX2_pressureOf_118 rfl (lv_at hl 1 rfl) ?_
            refine va_get (D := D) (ci := 2) (v := .ref (a 5)) (C := RX2) (T := TX2) (N := 14) hx hb hts (by decide +kernel) hown hK hP 0 rfl rfl 6 (by decide) (hts _ hm4) (fun _ h9 => h9) rfl dX2_pressureOf_119 ?_
            refine lv_iload_n hx hb dX2_pressureOf_122 rfl (lv_at hl 2 rfl) ?_
            refine va_lald (D := D) (f := bo) hx hb hK hP 5 4 rfl rfl (ix_9 hn hi) dX2_pressureOf_123 ?_
            refine W.eq (g2 := F0 m 124 ls [.long (bo (i + 1)), .long ((pr (i + 1)) + 5)]) (by rw [wIx hn hi]) ?_
            refine W.lcmp hx hb dX2_pressureOf_124 ?_
            refine lv_if_le (tgt := 137) hx hb dX2_pressureOf_125 (by decide) (fun c_11 => ?_) (fun c_11 => ?_)
            · skip
              replace c_11 := (lg_cmp_le _ _).mp c_11
              refine lv_lload hx hb dX2_pressureOf_137 (lv_at hl 0 rfl) ?_
              exact W.lret (v := ((pr (i + 1)) + 5)) hx hb hr (fun t ht hW => ⟨_, rfl, by first | (simp [mPr, mHold, mWant, c_1, c_2, c_3, c_9, c_10, c_11]; done) | (simp [mPr, mHold, mWant, c_1, c_2, c_3, c_9, c_10, c_11]; rfl), ht⟩) (fun q h => absurd h List.not_mem_nil) dX2_pressureOf_139
            · skip
              replace c_11 := mt (lg_cmp_le _ _).mpr c_11
              refine lv_aload_n hx hb dX2_pressureOf_128 rfl (lv_at hl 1 rfl) ?_
              refine va_get (D := D) (ci := 2) (v := .ref (a 5)) (C := RX2) (T := TX2) (N := 14) hx hb hts (by decide +kernel) hown hK hP 0 rfl rfl 6 (by decide) (hts _ hm4) (fun _ h9 => h9) rfl dX2_pressureOf_129 ?_
              refine lv_iload_n hx hb dX2_pressureOf_132 rfl (lv_at hl 2 rfl) ?_
              refine va_lald (D := D) (f := bo) hx hb hK hP 5 4 rfl rfl (ix_9 hn hi) dX2_pressureOf_133 ?_
              refine W.eq (g2 := F0 m 134 ls [.long (bo (i + 1))]) (by rw [wIx hn hi]) ?_
              refine lv_goto (tgt := 139) hx hb dX2_pressureOf_134 (by decide) ?_
              exact W.lret (v := (bo (i + 1))) hx hb hr (fun t ht hW => ⟨_, rfl, by first | (simp [mPr, mHold, mWant, c_1, c_2, c_3, c_9, c_10, c_11]; done) | (simp [mPr, mHold, mWant, c_1, c_2, c_3, c_9, c_10, c_11]; rfl), ht⟩) (fun q h => absurd h List.not_mem_nil) dX2_pressureOf_139
          · skip
            refine lv_lload hx hb dX2_pressureOf_97 (lv_at hl 0 rfl) ?_
            refine lv_ldc2 hx hb hown (hts _ hm5) dX2_pressureOf_99 ?_
            refine W.lcmp hx hb dX2_pressureOf_102 ?_
            refine lv_if_ge (tgt := 112) hx hb dX2_pressureOf_103 (by decide) (fun c_12 => ?_) (fun c_12 => ?_)
            · skip
              replace c_12 := (lg_cmp_ge _ _).mp c_12
              refine lv_lload hx hb dX2_pressureOf_112 (lv_at hl 0 rfl) ?_
              refine lv_lstore (lv' := [(4, .long ((pr (i + 1)) + 5)), (0, .ref m0), (1, .int (nI (i + 1))), (2, .long ped)]) hx hb dX2_pressureOf_114 hl (by decide) rfl (fun ls hl => ?_)
              refine lv_lload hx hb dX2_pressureOf_116 (lv_at hl 0 rfl) ?_
              refine lv_aload_n hx hb dX2_pressureOf_118 rfl (lv_at hl 1 rfl) ?_
              refine va_get (D := D) (ci := 2) (v := .ref (a 5)) (C := RX2) (T := TX2) (N := 14) hx hb hts (by decide +kernel) hown hK hP 0 rfl rfl 6 (by decide) (hts _ hm4) (fun _ h9 => h9) rfl dX2_pressureOf_119 ?_
              refine lv_iload_n hx hb dX2_pressureOf_122 rfl (lv_at hl 2 rfl) ?_
              refine va_lald (D := D) (f := bo) hx hb hK hP 5 4 rfl rfl (ix_9 hn hi) dX2_pressureOf_123 ?_
              refine W.eq (g2 := F0 m 124 ls [.long (bo (i + 1)), .long ((pr (i + 1)) + 5)]) (by rw [wIx hn hi]) ?_
              refine W.lcmp hx hb dX2_pressureOf_124 ?_
              refine lv_if_le (tgt := 137) hx hb dX2_pressureOf_125 (by decide) (fun c_13 => ?_) (fun c_13 => ?_)
              · skip
                replace c_13 := (lg_cmp_le _ _).mp c_13
                refine lv_lload hx hb dX2_pressureOf_137 (lv_at hl 0 rfl) ?_
                exact W.lret (v := ((pr (i + 1)) + 5)) hx hb hr (fun t ht hW => ⟨_, rfl, by first | (simp [mPr, mHold, mWant, c_1, c_2, c_3, c_9, c_10, c_12, c_13]; done) | (simp [mPr, mHold, mWant, c_1, c_2, c_3, c_9, c_10, c_12, c_13]; rfl), ht⟩) (fun q h => absurd h List.not_mem_nil) dX2_pressureOf_139
              · skip
                replace c_13 := mt (lg_cmp_le _ _).mpr c_13
                refine lv_aload_n hx hb dX2_pressureOf_128 rfl (lv_at hl 1 rfl) ?_
                refine va_get (D := D) (ci := 2) (v := .ref (a 5)) (C := RX2) (T := TX2) (N := 14) hx hb hts (by decide +kernel) hown hK hP 0 rfl rfl 6 (by decide) (hts _ hm4) (fun _ h9 => h9) rfl dX2_pressureOf_129 ?_
                refine lv_iload_n hx hb dX2_pressureOf_132 rfl (lv_at hl 2 rfl) ?_
                refine va_lald (D := D) (f := bo) hx hb hK hP 5 4 rfl rfl (ix_9 hn hi) dX2_pressureOf_133 ?_
                refine W.eq (g2 := F0 m 134 ls [.long (bo (i + 1))]) (by rw [wIx hn hi]) ?_
                refine lv_goto (tgt := 139) hx hb dX2_pressureOf_134 (by decide) ?_
                exact W.lret (v := (bo (i + 1))) hx hb hr (fun t ht hW => ⟨_, rfl, by first | (simp [mPr, mHold, mWant, c_1, c_2, c_3, c_9, c_10, c_12, c_13]; done) | (simp [mPr, mHold, mWant, c_1, c_2, c_3, c_9, c_10, c_12, c_13]; rfl), ht⟩) (fun q h => absurd h List.not_mem_nil) dX2_pressureOf_139
            · skip
              replace c_12 := mt (lg_cmp_ge _ _).mpr c_12
              refine lv_ldc2 hx hb hown (hts _ hm5) dX2_pressureOf_106 ?_
              refine lv_goto (tgt := 114) hx hb dX2_pressureOf_109 (by decide) ?_
              refine lv_lstore (lv' := [(4, .long 30), (0, .ref m0), (1, .int (nI (i + 1))), (2, .long ped)]) hx hb dX2_pressureOf_114 hl (by decide) rfl (fun ls hl => ?_)
              refine lv_lload hx hb dX2_pressureOf_116 (lv_at hl 0 rfl) ?_
              refine lv_aload_n hx hb dX2_pressureOf_118 rfl (lv_at hl 1 rfl) ?_
              refine va_get (D := D) (ci := 2) (v := .ref (a 5)) (C := RX2) (T := TX2) (N := 14) hx hb hts (by decide +kernel) hown hK hP 0 rfl rfl 6 (by decide) (hts _ hm4) (fun _ h9 => h9) rfl dX2_pressureOf_119 ?_
              refine lv_iload_n hx hb dX2_pressureOf_122 rfl (lv_at hl 2 rfl) ?_
              refine va_lald (D := D) (f := bo) hx hb hK hP 5 4 rfl rfl (ix_9 hn hi) dX2_pressureOf_123 ?_
              refine W.eq (g2 := F0 m 124 ls [.long (bo (i + 1)), .long 30]) (by rw [wIx hn hi]) ?_
              refine W.lcmp hx hb dX2_pressureOf_124 ?_
              refine lv_if_le (tgt := 137) hx hb dX2_pressureOf_125 (by decide) (fun c_14 => ?_) (fun c_14 => ?_)
              · skip
                replace c_14 := (lg_cmp_le _ _).mp c_14
                refine lv_lload hx hb dX2_pressureOf_137 (lv_at hl 0 rfl) ?_
                exact W.lret (v := 30) hx hb hr (fun t ht hW => ⟨_, rfl, by first | (simp [mPr, mHold, mWant, c_1, c_2, c_3, c_9, c_10, c_12, c_14]; done) | (simp [mPr, mHold, mWant, c_1, c_2, c_3, c_9, c_10, c_12, c_14]; rfl), ht⟩) (fun q h => absurd h List.not_mem_nil) dX2_pressureOf_139
              · skip
                replace c_14 := mt (lg_cmp_le _ _).mpr c_14
                refine lv_aload_n hx hb dX2_pressureOf_128 rfl (lv_at hl 1 rfl) ?_
                refine va_get (D := D) (ci := 2) (v := .ref (a 5)) (C := RX2) (T := TX2) (N := 14) hx hb hts (by decide +kernel) hown hK hP 0 rfl rfl 6 (by decide) (hts _ hm4) (fun _ h9 => h9) rfl dX2_pressureOf_129 ?_
                refine lv_iload_n hx hb dX2_pressureOf_132 rfl (lv_at hl 2 rfl) ?_
                refine va_lald (D := D) (f := bo) hx hb hK hP 5 4 rfl rfl (ix_9 hn hi) dX2_pressureOf_133 ?_
                refine W.eq (g2 := F0 m 134 ls [.long (bo (i + 1))]) (by rw [wIx hn hi]) ?_
                refine lv_goto (tgt := 139) hx hb dX2_pressureOf_134 (by decide) ?_
                exact W.lret (v := (bo (i + 1))) hx hb hr (fun t ht hW => ⟨_, rfl, by first | (simp [mPr, mHold, mWant, c_1, c_2, c_3, c_9, c_10, c_12, c_14]; done) | (simp [mPr, mHold, mWant, c_1, c_2, c_3, c_9, c_10, c_12, c_14]; rfl), ht⟩) (fun q h => absurd h List.not_mem_nil) dX2_pressureOf_139
        · skip
          replace c_9 := mt (lg_cmp_le _ _).mpr c_9
          refine lv_lload_n hx hb dX2_pressureOf_78 rfl (lv_at hl 3 rfl) ?_
          refine lv_goto (tgt := 88) hx hb dX2_pressureOf_79 (by decide) ?_
          refine lv_lstore (lv' := [(4, .long ped), (0, .ref m0), (1, .int (nI (i + 1))), (2, .long ped)]) hx hb dX2_pressureOf_88 hl (by decide) rfl (fun ls hl => ?_)
          refine lv_aload_n hx hb dX2_pressureOf_90 rfl (lv_at hl 1 rfl) ?_
          refine va_get (D := D) (ci := 2) (v := .int hd) (C := RX2) (T := TX2) (N := 14) hx hb hts (by decide +kernel) hown hK hP 0 rfl rfl 10 (by decide) (hts _ hm3) (fun _ h9 => h9) rfl dX2_pressureOf_91 ?_
          refine lv_if_eq (tgt := 112) hx hb dX2_pressureOf_94 (by decide) (fun c_15 => ?_) (fun c_15 => ?_)
          · skip
            refine lv_lload hx hb dX2_pressureOf_112 (lv_at hl 0 rfl) ?_
            refine lv_lstore (lv' := [(4, .long ped), (0, .ref m0), (1, .int (nI (i + 1))), (2, .long ped)]) hx hb dX2_pressureOf_114 hl (by decide) rfl (fun ls hl => ?_)
            refine lv_lload hx hb dX2_pressureOf_116 (lv_at hl 0 rfl) ?_
            refine lv_aload_n hx hb dX2_pressureOf_118 rfl (lv_at hl 1 rfl) ?_
            refine va_get (D := D) (ci := 2) (v := .ref (a 5)) (C := RX2) (T := TX2) (N := 14) hx hb hts (by decide +kernel) hown hK hP 0 rfl rfl 6 (by decide) (hts _ hm4) (fun _ h9 => h9) rfl dX2_pressureOf_119 ?_
            refine lv_iload_n hx hb dX2_pressureOf_122 rfl (lv_at hl 2 rfl) ?_
            refine va_lald (D := D) (f := bo) hx hb hK hP 5 4 rfl rfl (ix_9 hn hi) dX2_pressureOf_123 ?_
            refine W.eq (g2 := F0 m 124 ls [.long (bo (i + 1)), .long ped]) (by rw [wIx hn hi]) ?_
            refine W.lcmp hx hb dX2_pressureOf_124 ?_
            refine lv_if_le (tgt := 137) hx hb dX2_pressureOf_125 (by decide) (fun c_16 => ?_) (fun c_16 => ?_)
            · skip
              replace c_16 := (lg_cmp_le _ _).mp c_16
              refine lv_lload hx hb dX2_pressureOf_137 (lv_at hl 0 rfl) ?_
              exact W.lret (v := ped) hx hb hr (fun t ht hW => ⟨_, rfl, by first | (simp [mPr, mHold, mWant, c_1, c_2, c_3, c_9, c_15, c_16]; done) | (simp [mPr, mHold, mWant, c_1, c_2, c_3, c_9, c_15, c_16]; rfl), ht⟩) (fun q h => absurd h List.not_mem_nil) dX2_pressureOf_139
            · skip
              replace c_16 := mt (lg_cmp_le _ _).mpr c_16
              refine lv_aload_n hx hb dX2_pressureOf_128 rfl (lv_at hl 1 rfl) ?_
              refine va_get (D := D) (ci := 2) (v := .ref (a 5)) (C := RX2) (T := TX2) (N := 14) hx hb hts (by decide +kernel) hown hK hP 0 rfl rfl 6 (by decide) (hts _ hm4) (fun _ h9 => h9) rfl dX2_pressureOf_129 ?_
              refine lv_iload_n hx hb dX2_pressureOf_132 rfl (lv_at hl 2 rfl) ?_
              refine va_lald (D := D) (f := bo) hx hb hK hP 5 4 rfl rfl (ix_9 hn hi) dX2_pressureOf_133 ?_
              refine W.eq (g2 := F0 m 134 ls [.long (bo (i + 1))]) (by rw [wIx hn hi]) ?_
              refine lv_goto (tgt := 139) hx hb dX2_pressureOf_134 (by decide) ?_
              exact W.lret (v := (bo (i + 1))) hx hb hr (fun t ht hW => ⟨_, rfl, by first | (simp [mPr, mHold, mWant, c_1, c_2, c_3, c_9, c_15, c_16]; done) | (simp [mPr, mHold, mWant, c_1, c_2, c_3, c_9, c_15, c_16]; rfl), ht⟩) (fun q h => absurd h List.not_mem_nil) dX2_pressureOf_139
          · skip
            refine lv_lload hx hb dX2_pressureOf_97 (lv_at hl 0 rfl) ?_
            refine lv_ldc2 hx hb hown (hts _ hm5) dX2_pressureOf_99 ?_
            refine W.lcmp hx hb dX2_pressureOf_102 ?_
            refine lv_if_ge (tgt := 112) hx hb dX2_pressureOf_103 (by decide) (fun c_17 => ?_) (fun c_17 => ?_)
            · skip
              replace c_17 := (lg_cmp_ge _ _).mp c_17
              refine lv_lload hx hb dX2_pressureOf_112 (lv_at hl 0 rfl) ?_
              refine lv_lstore (lv' := [(4, .long ped), (0, .ref m0), (1, .int (nI (i + 1))), (2, .long ped)]) hx hb dX2_pressureOf_114 hl (by decide) rfl (fun ls hl => ?_)
              refine lv_lload hx hb dX2_pressureOf_116 (lv_at hl 0 rfl) ?_
              refine lv_aload_n hx hb dX2_pressureOf_118 rfl (lv_at hl 1 rfl) ?_
              refine va_get (D := D) (ci := 2) (v := .ref (a 5)) (C := RX2) (T := TX2) (N := 14) hx hb hts (by decide +kernel) hown hK hP 0 rfl rfl 6 (by decide) (hts _ hm4) (fun _ h9 => h9) rfl dX2_pressureOf_119 ?_
              refine lv_iload_n hx hb dX2_pressureOf_122 rfl (lv_at hl 2 rfl) ?_
              refine va_lald (D := D) (f := bo) hx hb hK hP 5 4 rfl rfl (ix_9 hn hi) dX2_pressureOf_123 ?_
              refine W.eq (g2 := F0 m 124 ls [.long (bo (i + 1)), .long ped]) (by rw [wIx hn hi]) ?_
              refine W.lcmp hx hb dX2_pressureOf_124 ?_
              refine lv_if_le (tgt := 137) hx hb dX2_pressureOf_125 (by decide) (fun c_18 => ?_) (fun c_18 => ?_)
              · skip
                replace c_18 := (lg_cmp_le _ _).mp c_18
                refine lv_lload hx hb dX2_pressureOf_137 (lv_at hl 0 rfl) ?_
                exact W.lret (v := ped) hx hb hr (fun t ht hW => ⟨_, rfl, by first | (simp [mPr, mHold, mWant, c_1, c_2, c_3, c_9, c_15, c_17, c_18]; done) | (simp [mPr, mHold, mWant, c_1, c_2, c_3, c_9, c_15, c_17, c_18]; rfl), ht⟩) (fun q h => absurd h List.not_mem_nil) dX2_pressureOf_139
              · skip
                replace c_18 := mt (lg_cmp_le _ _).mpr c_18
                refine lv_aload_n hx hb dX2_pressureOf_128 rfl (lv_at hl 1 rfl) ?_
                refine va_get (D := D) (ci := 2) (v := .ref (a 5)) (C := RX2) (T := TX2) (N := 14) hx hb hts (by decide +kernel) hown hK hP 0 rfl rfl 6 (by decide) (hts _ hm4) (fun _ h9 => h9) rfl dX2_pressureOf_129 ?_
                refine lv_iload_n hx hb dX2_pressureOf_132 rfl (lv_at hl 2 rfl) ?_
                refine va_lald (D := D) (f := bo) hx hb hK hP 5 4 rfl rfl (ix_9 hn hi) dX2_pressureOf_133 ?_
                refine W.eq (g2 := F0 m 134 ls [.long (bo (i + 1))]) (by rw [wIx hn hi]) ?_
                refine lv_goto (tgt := 139) hx hb dX2_pressureOf_134 (by decide) ?_
                exact W.lret (v := (bo (i + 1))) hx hb hr (fun t ht hW => ⟨_, rfl, by first | (simp [mPr, mHold, mWant, c_1, c_2, c_3, c_9, c_15, c_17, c_18]; done) | (simp [mPr, mHold, mWant, c_1, c_2, c_3, c_9, c_15, c_17, c_18]; rfl), ht⟩) (fun q h => absurd h List.not_mem_nil) dX2_pressureOf_139
            · skip
              replace c_17 := mt (lg_cmp_ge _ _).mpr c_17
              refine lv_ldc2 hx hb hown (hts _ hm5) dX2_pressureOf_106 ?_
              refine lv_goto (tgt := 114) hx hb dX2_pressureOf_109 (by decide) ?_
              refine lv_lstore (lv' := [(4, .long 30), (0, .ref m0), (1, .int (nI (i + 1))), (2, .long ped)]) hx hb dX2_pressureOf_114 hl (by decide) rfl (fun ls hl => ?_)
              refine lv_lload hx hb dX2_pressureOf_116 (lv_at hl 0 rfl) ?_
              refine lv_aload_n hx hb dX2_pressureOf_118 rfl (lv_at hl 1 rfl) ?_
              refine va_get (D := D) (ci := 2) (v := .ref (a 5)) (C := RX2) (T := TX2) (N := 14) hx hb hts (by decide +kernel) hown hK hP 0 rfl rfl 6 (by decide) (hts _ hm4) (fun _ h9 => h9) rfl dX2_pressureOf_119 ?_
              refine lv_iload_n hx hb dX2_pressureOf_122 rfl (lv_at hl 2 rfl) ?_
              refine va_lald (D := D) (f := bo) hx hb hK hP 5 4 rfl rfl (ix_9 hn hi) dX2_pressureOf_123 ?_
              refine W.eq (g2 := F0 m 124 ls [.long (bo (i + 1)), .long 30]) (by rw [wIx hn hi]) ?_
              refine W.lcmp hx hb dX2_pressureOf_124 ?_
              refine lv_if_le (tgt := 137) hx hb dX2_pressureOf_125 (by decide) (fun c_19 => ?_) (fun c_19 => ?_)
              · skip
                replace c_19 := (lg_cmp_le _ _).mp c_19
                refine lv_lload hx hb dX2_pressureOf_137 (lv_at hl 0 rfl) ?_
                exact W.lret (v := 30) hx hb hr (fun t ht hW => ⟨_, rfl, by first | (simp [mPr, mHold, mWant, c_1, c_2, c_3, c_9, c_15, c_17, c_19]; done) | (simp [mPr, mHold, mWant, c_1, c_2, c_3, c_9, c_15, c_17, c_19]; rfl), ht⟩) (fun q h => absurd h List.not_mem_nil) dX2_pressureOf_139
              · skip
                replace c_19 := mt (lg_cmp_le _ _).mpr c_19
                refine lv_aload_n hx hb dX2_pressureOf_128 rfl (lv_at hl 1 rfl) ?_
                refine va_get (D := D) (ci := 2) (v := .ref (a 5)) (C := RX2) (T := TX2) (N := 14) hx hb hts (by decide +kernel) hown hK hP 0 rfl rfl 6 (by decide) (hts _ hm4) (fun _ h9 => h9) rfl dX2_pressureOf_129 ?_
                refine lv_iload_n hx hb dX2_pressureOf_132 rfl (lv_at hl 2 rfl) ?_
                refine va_lald (D := D) (f := bo) hx hb hK hP 5 4 rfl rfl (ix_9 hn hi) dX2_pressureOf_133 ?_
                refine W.eq (g2 := F0 m 134 ls [.long (bo (i + 1))]) (by rw [wIx hn hi]) ?_
                refine lv_goto (tgt := 139) hx hb dX2_pressureOf_134 (by decide) ?_
                exact W.lret (v := (bo (i + 1))) hx hb hr (fun t ht hW => ⟨_, rfl, by first | (simp [mPr, mHold, mWant, c_1, c_2, c_3, c_9, c_15, c_17, c_19]; done) | (simp [mPr, mHold, mWant, c_1, c_2, c_3, c_9, c_15, c_17, c_19]; rfl), ht⟩) (fun q h => absurd h List.not_mem_nil) dX2_pressureOf_139
    · skip
      refine lv_lload hx hb dX2_pressureOf_33 (lv_at hl 0 rfl) ?_
      refine lv_ldc2 hx hb hown (hts _ hm7) dX2_pressureOf_35 ?_
      refine W.lcmp hx hb dX2_pressureOf_38 ?_
      refine lv_if_ge (tgt := 46) hx hb dX2_pressureOf_39 (by decide) (fun c_20 => ?_) (fun c_20 => ?_)
      · skip
        replace c_20 := (lg_cmp_ge _ _).mp c_20
        refine lv_lload hx hb dX2_pressureOf_46 (lv_at hl 0 rfl) ?_
        refine lv_ldc2 hx hb hown (hts _ hm7) dX2_pressureOf_48 ?_
        refine lv_lsub hx hb dX2_pressureOf_51 ?_
        refine lv_lstore (lv' := [(4, .long ((pr (i + 1)) - 10)), (0, .ref m0), (1, .int (nI (i + 1))), (2, .long ped)]) hx hb dX2_pressureOf_52 hl (by decide) rfl (fun ls hl => ?_)
        refine lv_goto (tgt := 90) hx hb dX2_pressureOf_54 (by decide) ?_
        refine lv_aload_n hx hb dX2_pressureOf_90 rfl (lv_at hl 1 rfl) ?_
        refine va_get (D := D) (ci := 2) (v := .int hd) (C := RX2) (T := TX2) (N := 14) hx hb hts (by decide +kernel) hown hK hP 0 rfl rfl 10 (by decide) (hts _ hm3) (fun _ h9 => h9) rfl dX2_pressureOf_91 ?_
        refine lv_if_eq (tgt := 112) hx hb dX2_pressureOf_94 (by decide) (fun c_21 => ?_) (fun c_21 => ?_)
        · skip
          refine lv_lload hx hb dX2_pressureOf_112 (lv_at hl 0 rfl) ?_
          refine lv_lstore (lv' := [(4, .long ((pr (i + 1)) - 10)), (0, .ref m0), (1, .int (nI (i + 1))), (2, .long ped)]) hx hb dX2_pressureOf_114 hl (by decide) rfl (fun ls hl => ?_)
          refine lv_lload hx hb dX2_pressureOf_116 (lv_at hl 0 rfl) ?_
          refine lv_aload_n hx hb dX2_pressureOf_118 rfl (lv_at hl 1 rfl) ?_
          refine va_get (D := D) (ci := 2) (v := .ref (a 5)) (C := RX2) (T := TX2) (N := 14) hx hb hts (by decide +kernel) hown hK hP 0 rfl rfl 6 (by decide) (hts _ hm4) (fun _ h9 => h9) rfl dX2_pressureOf_119 ?_
          refine lv_iload_n hx hb dX2_pressureOf_122 rfl (lv_at hl 2 rfl) ?_
          refine va_lald (D := D) (f := bo) hx hb hK hP 5 4 rfl rfl (ix_9 hn hi) dX2_pressureOf_123 ?_
          refine W.eq (g2 := F0 m 124 ls [.long (bo (i + 1)), .long ((pr (i + 1)) - 10)]) (by rw [wIx hn hi]) ?_
          refine W.lcmp hx hb dX2_pressureOf_124 ?_
          refine lv_if_le (tgt := 137) hx hb dX2_pressureOf_125 (by decide) (fun c_22 => ?_) (fun c_22 => ?_)
          · skip
            replace c_22 := (lg_cmp_le _ _).mp c_22
            refine lv_lload hx hb dX2_pressureOf_137 (lv_at hl 0 rfl) ?_
            exact W.lret (v := ((pr (i + 1)) - 10)) hx hb hr (fun t ht hW => ⟨_, rfl, by first | (simp [mPr, mHold, mWant, c_1, c_2, c_20, c_21, c_22]; done) | (simp [mPr, mHold, mWant, c_1, c_2, c_20, c_21, c_22]; rfl), ht⟩) (fun q h => absurd h List.not_mem_nil) dX2_pressureOf_139
          · skip
            replace c_22 := mt (lg_cmp_le _ _).mpr c_22
            refine lv_aload_n hx hb dX2_pressureOf_128 rfl (lv_at hl 1 rfl) ?_
            refine va_get (D := D) (ci := 2) (v := .ref (a 5)) (C := RX2) (T := TX2) (N := 14) hx hb hts (by decide +kernel) hown hK hP 0 rfl rfl 6 (by decide) (hts _ hm4) (fun _ h9 => h9) rfl dX2_pressureOf_129 ?_
            refine lv_iload_n hx hb dX2_pressureOf_132 rfl (lv_at hl 2 rfl) ?_
            refine va_lald (D := D) (f := bo) hx hb hK hP 5 4 rfl rfl (ix_9 hn hi) dX2_pressureOf_133 ?_
            refine W.eq (g2 := F0 m 134 ls [.long (bo (i + 1))]) (by rw [wIx hn hi]) ?_
            refine lv_goto (tgt := 139) hx hb dX2_pressureOf_134 (by decide) ?_
            exact W.lret (v := (bo (i + 1))) hx hb hr (fun t ht hW => ⟨_, rfl, by first | (simp [mPr, mHold, mWant, c_1, c_2, c_20, c_21, c_22]; done) | (simp [mPr, mHold, mWant, c_1, c_2, c_20, c_21, c_22]; rfl), ht⟩) (fun q h => absurd h List.not_mem_nil) dX2_pressureOf_139
        · skip
          refine lv_lload hx hb dX2_pressureOf_97 (lv_at hl 0 rfl) ?_
          refine lv_ldc2 hx hb hown (hts _ hm5) dX2_pressureOf_99 ?_
          refine W.lcmp hx hb dX2_pressureOf_102 ?_
          refine lv_if_ge (tgt := 112) hx hb dX2_pressureOf_103 (by decide) (fun c_23 => ?_) (fun c_23 => ?_)
          · skip
            replace c_23 := (lg_cmp_ge _ _).mp c_23
            refine lv_lload hx hb dX2_pressureOf_112 (lv_at hl 0 rfl) ?_
            refine lv_lstore (lv' := [(4, .long ((pr (i + 1)) - 10)), (0, .ref m0), (1, .int (nI (i + 1))), (2, .long ped)]) hx hb dX2_pressureOf_114 hl (by decide) rfl (fun ls hl => ?_)
            refine lv_lload hx hb dX2_pressureOf_116 (lv_at hl 0 rfl) ?_
            refine lv_aload_n hx hb dX2_pressureOf_118 rfl (lv_at hl 1 rfl) ?_
            refine va_get (D := D) (ci := 2) (v := .ref (a 5)) (C := RX2) (T := TX2) (N := 14) hx hb hts (by decide +kernel) hown hK hP 0 rfl rfl 6 (by decide) (hts _ hm4) (fun _ h9 => h9) rfl dX2_pressureOf_119 ?_
            refine lv_iload_n hx hb dX2_pressureOf_122 rfl (lv_at hl 2 rfl) ?_
            refine va_lald (D := D) (f := bo) hx hb hK hP 5 4 rfl rfl (ix_9 hn hi) dX2_pressureOf_123 ?_
            refine W.eq (g2 := F0 m 124 ls [.long (bo (i + 1)), .long ((pr (i + 1)) - 10)]) (by rw [wIx hn hi]) ?_
            refine W.lcmp hx hb dX2_pressureOf_124 ?_
            refine lv_if_le (tgt := 137) hx hb dX2_pressureOf_125 (by decide) (fun c_24 => ?_) (fun c_24 => ?_)
            · skip
              replace c_24 := (lg_cmp_le _ _).mp c_24
              refine lv_lload hx hb dX2_pressureOf_137 (lv_at hl 0 rfl) ?_
              exact W.lret (v := ((pr (i + 1)) - 10)) hx hb hr (fun t ht hW => ⟨_, rfl, by first | (simp [mPr, mHold, mWant, c_1, c_2, c_20, c_21, c_23, c_24]; done) | (simp [mPr, mHold, mWant, c_1, c_2, c_20, c_21, c_23, c_24]; rfl), ht⟩) (fun q h => absurd h List.not_mem_nil) dX2_pressureOf_139
            · skip
              replace c_24 := mt (lg_cmp_le _ _).mpr c_24
              refine lv_aload_n hx hb dX2_pressureOf_128 rfl (lv_at hl 1 rfl) ?_
              refine va_get (D := D) (ci := 2) (v := .ref (a 5)) (C := RX2) (T := TX2) (N := 14) hx hb hts (by decide +kernel) hown hK hP 0 rfl rfl 6 (by decide) (hts _ hm4) (fun _ h9 => h9) rfl dX2_pressureOf_129 ?_
              refine lv_iload_n hx hb dX2_pressureOf_132 rfl (lv_at hl 2 rfl) ?_
              refine va_lald (D := D) (f := bo) hx hb hK hP 5 4 rfl rfl (ix_9 hn hi) dX2_pressureOf_133 ?_
              refine W.eq (g2 := F0 m 134 ls [.long (bo (i + 1))]) (by rw [wIx hn hi]) ?_
              refine lv_goto (tgt := 139) hx hb dX2_pressureOf_134 (by decide) ?_
              exact W.lret (v := (bo (i + 1))) hx hb hr (fun t ht hW => ⟨_, rfl, by first | (simp [mPr, mHold, mWant, c_1, c_2, c_20, c_21, c_23, c_24]; done) | (simp [mPr, mHold, mWant, c_1, c_2, c_20, c_21, c_23, c_24]; rfl), ht⟩) (fun q h => absurd h List.not_mem_nil) dX2_pressureOf_139
          · skip
            replace c_23 := mt (lg_cmp_ge _ _).mpr c_23
            refine lv_ldc2 hx hb hown (hts _ hm5) dX2_pressureOf_106 ?_
            refine lv_goto (tgt := 114) hx hb dX2_pressureOf_109 (by decide) ?_
            refine lv_lstore (lv' := [(4, .long 30), (0, .ref m0), (1, .int (nI (i + 1))), (2, .long ped)]) hx hb dX2_pressureOf_114 hl (by decide) rfl (fun ls hl => ?_)
            refine lv_lload hx hb dX2_pressureOf_116 (lv_at hl 0 rfl) ?_
            refine lv_aload_n hx hb dX2_pressureOf_118 rfl (lv_at hl 1 rfl) ?_
            refine va_get (D := D) (ci := 2) (v := .ref (a 5)) (C := RX2) (T := TX2) (N := 14) hx hb hts (by decide +kernel) hown hK hP 0 rfl rfl 6 (by decide) (hts _ hm4) (fun _ h9 => h9) rfl dX2_pressureOf_119 ?_
            refine lv_iload_n hx hb dX2_pressureOf_122 rfl (lv_at hl 2 rfl) ?_
            refine va_lald (D := D) (f := bo) hx hb hK hP 5 4 rfl rfl (ix_9 hn hi) dX2_pressureOf_123 ?_
            refine W.eq (g2 := F0 m 124 ls [.long (bo (i + 1)), .long 30]) (by rw [wIx hn hi]) ?_
            refine W.lcmp hx hb dX2_pressureOf_124 ?_
            refine lv_if_le (tgt := 137) hx hb dX2_pressureOf_125 (by decide) (fun c_25 => ?_) (fun c_25 => ?_)
            · skip
              replace c_25 := (lg_cmp_le _ _).mp c_25
              refine lv_lload hx hb dX2_pressureOf_137 (lv_at hl 0 rfl) ?_
              exact W.lret (v := 30) hx hb hr (fun t ht hW => ⟨_, rfl, by first | (simp [mPr, mHold, mWant, c_1, c_2, c_20, c_21, c_23, c_25]; done) | (simp [mPr, mHold, mWant, c_1, c_2, c_20, c_21, c_23, c_25]; rfl), ht⟩) (fun q h => absurd h List.not_mem_nil) dX2_pressureOf_139
            · skip
              replace c_25 := mt (lg_cmp_le _ _).mpr c_25
              refine lv_aload_n hx hb dX2_pressureOf_128 rfl (lv_at hl 1 rfl) ?_
              refine va_get (D := D) (ci := 2) (v := .ref (a 5)) (C := RX2) (T := TX2) (N := 14) hx hb hts (by decide +kernel) hown hK hP 0 rfl rfl 6 (by decide) (hts _ hm4) (fun _ h9 => h9) rfl dX2_pressureOf_129 ?_
              refine lv_iload_n hx hb dX2_pressureOf_132 rfl (lv_at hl 2 rfl) ?_
              refine va_lald (D := D) (f := bo) hx hb hK hP 5 4 rfl rfl (ix_9 hn hi) dX2_pressureOf_133 ?_
              refine W.eq (g2 := F0 m 134 ls [.long (bo (i + 1))]) (by rw [wIx hn hi]) ?_
              refine lv_goto (tgt := 139) hx hb dX2_pressureOf_134 (by decide) ?_
              exact W.lret (v := (bo (i + 1))) hx hb hr (fun t ht hW => ⟨_, rfl, by first | (simp [mPr, mHold, mWant, c_1, c_2, c_20, c_21, c_23, c_25]; done) | (simp [mPr, mHold, mWant, c_1, c_2, c_20, c_21, c_23, c_25]; rfl), ht⟩) (fun q h => absurd h List.not_mem_nil) dX2_pressureOf_139
      · skip
        replace c_20 := mt (lg_cmp_ge _ _).mpr c_20
        refine lv_lconst (v := 0) hx hb dX2_pressureOf_42 (by decide) ?_
        refine lv_goto (tgt := 52) hx hb dX2_pressureOf_43 (by decide) ?_
        refine lv_lstore (lv' := [(4, .long 0), (0, .ref m0), (1, .int (nI (i + 1))), (2, .long ped)]) hx hb dX2_pressureOf_52 hl (by decide) rfl (fun ls hl => ?_)
        refine lv_goto (tgt := 90) hx hb dX2_pressureOf_54 (by decide) ?_
        refine lv_aload_n hx hb dX2_pressureOf_90 rfl (lv_at hl 1 rfl) ?_
        refine va_get (D := D) (ci := 2) (v := .int hd) (C := RX2) (T := TX2) (N := 14) hx hb hts (by decide +kernel) hown hK hP 0 rfl rfl 10 (by decide) (hts _ hm3) (fun _ h9 => h9) rfl dX2_pressureOf_91 ?_
        refine lv_if_eq (tgt := 112) hx hb dX2_pressureOf_94 (by decide) (fun c_26 => ?_) (fun c_26 => ?_)
        · skip
          refine lv_lload hx hb dX2_pressureOf_112 (lv_at hl 0 rfl) ?_
          refine lv_lstore (lv' := [(4, .long 0), (0, .ref m0), (1, .int (nI (i + 1))), (2, .long ped)]) hx hb dX2_pressureOf_114 hl (by decide) rfl (fun ls hl => ?_)
          refine lv_lload hx hb dX2_pressureOf_116 (lv_at hl 0 rfl) ?_
          refine lv_aload_n hx hb dX2_pressureOf_118 rfl (lv_at hl 1 rfl) ?_
          refine va_get (D := D) (ci := 2) (v := .ref (a 5)) (C := RX2) (T := TX2) (N := 14) hx hb hts (by decide +kernel) hown hK hP 0 rfl rfl 6 (by decide) (hts _ hm4) (fun _ h9 => h9) rfl dX2_pressureOf_119 ?_
          refine lv_iload_n hx hb dX2_pressureOf_122 rfl (lv_at hl 2 rfl) ?_
          refine va_lald (D := D) (f := bo) hx hb hK hP 5 4 rfl rfl (ix_9 hn hi) dX2_pressureOf_123 ?_
          refine W.eq (g2 := F0 m 124 ls [.long (bo (i + 1)), .long 0]) (by rw [wIx hn hi]) ?_
          refine W.lcmp hx hb dX2_pressureOf_124 ?_
          refine lv_if_le (tgt := 137) hx hb dX2_pressureOf_125 (by decide) (fun c_27 => ?_) (fun c_27 => ?_)
          · skip
            replace c_27 := (lg_cmp_le _ _).mp c_27
            refine lv_lload hx hb dX2_pressureOf_137 (lv_at hl 0 rfl) ?_
            exact W.lret (v := 0) hx hb hr (fun t ht hW => ⟨_, rfl, by first | (simp [mPr, mHold, mWant, c_1, c_2, c_20, c_26, c_27]; done) | (simp [mPr, mHold, mWant, c_1, c_2, c_20, c_26, c_27]; rfl), ht⟩) (fun q h => absurd h List.not_mem_nil) dX2_pressureOf_139
          · skip
            replace c_27 := mt (lg_cmp_le _ _).mpr c_27
            refine lv_aload_n hx hb dX2_pressureOf_128 rfl (lv_at hl 1 rfl) ?_
            refine va_get (D := D) (ci := 2) (v := .ref (a 5)) (C := RX2) (T := TX2) (N := 14) hx hb hts (by decide +kernel) hown hK hP 0 rfl rfl 6 (by decide) (hts _ hm4) (fun _ h9 => h9) rfl dX2_pressureOf_129 ?_
            refine lv_iload_n hx hb dX2_pressureOf_132 rfl (lv_at hl 2 rfl) ?_
            refine va_lald (D := D) (f := bo) hx hb hK hP 5 4 rfl rfl (ix_9 hn hi) dX2_pressureOf_133 ?_
            refine W.eq (g2 := F0 m 134 ls [.long (bo (i + 1))]) (by rw [wIx hn hi]) ?_
            refine lv_goto (tgt := 139) hx hb dX2_pressureOf_134 (by decide) ?_
            exact W.lret (v := (bo (i + 1))) hx hb hr (fun t ht hW => ⟨_, rfl, by first | (simp [mPr, mHold, mWant, c_1, c_2, c_20, c_26, c_27]; done) | (simp [mPr, mHold, mWant, c_1, c_2, c_20, c_26, c_27]; rfl), ht⟩) (fun q h => absurd h List.not_mem_nil) dX2_pressureOf_139
        · skip
          refine lv_lload hx hb dX2_pressureOf_97 (lv_at hl 0 rfl) ?_
          refine lv_ldc2 hx hb hown (hts _ hm5) dX2_pressureOf_99 ?_
          refine W.lcmp hx hb dX2_pressureOf_102 ?_
          refine lv_if_ge (tgt := 112) hx hb dX2_pressureOf_103 (by decide) (fun c_28 => ?_) (fun c_28 => ?_)
          · skip
            replace c_28 := (lg_cmp_ge _ _).mp c_28
            refine lv_lload hx hb dX2_pressureOf_112 (lv_at hl 0 rfl) ?_
            refine lv_lstore (lv' := [(4, .long 0), (0, .ref m0), (1, .int (nI (i + 1))), (2, .long ped)]) hx hb dX2_pressureOf_114 hl (by decide) rfl (fun ls hl => ?_)
            refine lv_lload hx hb dX2_pressureOf_116 (lv_at hl 0 rfl) ?_
            refine lv_aload_n hx hb dX2_pressureOf_118 rfl (lv_at hl 1 rfl) ?_
            refine va_get (D := D) (ci := 2) (v := .ref (a 5)) (C := RX2) (T := TX2) (N := 14) hx hb hts (by decide +kernel) hown hK hP 0 rfl rfl 6 (by decide) (hts _ hm4) (fun _ h9 => h9) rfl dX2_pressureOf_119 ?_
            refine lv_iload_n hx hb dX2_pressureOf_122 rfl (lv_at hl 2 rfl) ?_
            refine va_lald (D := D) (f := bo) hx hb hK hP 5 4 rfl rfl (ix_9 hn hi) dX2_pressureOf_123 ?_
            refine W.eq (g2 := F0 m 124 ls [.long (bo (i + 1)), .long 0]) (by rw [wIx hn hi]) ?_
            refine W.lcmp hx hb dX2_pressureOf_124 ?_
            refine lv_if_le (tgt := 137) hx hb dX2_pressureOf_125 (by decide) (fun c_29 => ?_) (fun c_29 => ?_)
            · skip
              replace c_29 := (lg_cmp_le _ _).mp c_29
              refine lv_lload hx hb dX2_pressureOf_137 (lv_at hl 0 rfl) ?_
              exact W.lret (v := 0) hx hb hr (fun t ht hW => ⟨_, rfl, by first | (simp [mPr, mHold, mWant, c_1, c_2, c_20, c_26, c_28, c_29]; done) | (simp [mPr, mHold, mWant, c_1, c_2, c_20, c_26, c_28, c_29]; rfl), ht⟩) (fun q h => absurd h List.not_mem_nil) dX2_pressureOf_139
            · skip
              replace c_29 := mt (lg_cmp_le _ _).mpr c_29
              refine lv_aload_n hx hb dX2_pressureOf_128 rfl (lv_at hl 1 rfl) ?_
              refine va_get (D := D) (ci := 2) (v := .ref (a 5)) (C := RX2) (T := TX2) (N := 14) hx hb hts (by decide +kernel) hown hK hP 0 rfl rfl 6 (by decide) (hts _ hm4) (fun _ h9 => h9) rfl dX2_pressureOf_129 ?_
              refine lv_iload_n hx hb dX2_pressureOf_132 rfl (lv_at hl 2 rfl) ?_
              refine va_lald (D := D) (f := bo) hx hb hK hP 5 4 rfl rfl (ix_9 hn hi) dX2_pressureOf_133 ?_
              refine W.eq (g2 := F0 m 134 ls [.long (bo (i + 1))]) (by rw [wIx hn hi]) ?_
              refine lv_goto (tgt := 139) hx hb dX2_pressureOf_134 (by decide) ?_
              exact W.lret (v := (bo (i + 1))) hx hb hr (fun t ht hW => ⟨_, rfl, by first | (simp [mPr, mHold, mWant, c_1, c_2, c_20, c_26, c_28, c_29]; done) | (simp [mPr, mHold, mWant, c_1, c_2, c_20, c_26, c_28, c_29]; rfl), ht⟩) (fun q h => absurd h List.not_mem_nil) dX2_pressureOf_139
          · skip
            replace c_28 := mt (lg_cmp_ge _ _).mpr c_28
            refine lv_ldc2 hx hb hown (hts _ hm5) dX2_pressureOf_106 ?_
            refine lv_goto (tgt := 114) hx hb dX2_pressureOf_109 (by decide) ?_
            refine lv_lstore (lv' := [(4, .long 30), (0, .ref m0), (1, .int (nI (i + 1))), (2, .long ped)]) hx hb dX2_pressureOf_114 hl (by decide) rfl (fun ls hl => ?_)
            refine lv_lload hx hb dX2_pressureOf_116 (lv_at hl 0 rfl) ?_
            refine lv_aload_n hx hb dX2_pressureOf_118 rfl (lv_at hl 1 rfl) ?_
            refine va_get (D := D) (ci := 2) (v := .ref (a 5)) (C := RX2) (T := TX2) (N := 14) hx hb hts (by decide +kernel) hown hK hP 0 rfl rfl 6 (by decide) (hts _ hm4) (fun _ h9 => h9) rfl dX2_pressureOf_119 ?_
            refine lv_iload_n hx hb dX2_pressureOf_122 rfl (lv_at hl 2 rfl) ?_
            refine va_lald (D := D) (f := bo) hx hb hK hP 5 4 rfl rfl (ix_9 hn hi) dX2_pressureOf_123 ?_
            refine W.eq (g2 := F0 m 124 ls [.long (bo (i + 1)), .long 30]) (by rw [wIx hn hi]) ?_
            refine W.lcmp hx hb dX2_pressureOf_124 ?_
            refine lv_if_le (tgt := 137) hx hb dX2_pressureOf_125 (by decide) (fun c_30 => ?_) (fun c_30 => ?_)
            · skip
              replace c_30 := (lg_cmp_le _ _).mp c_30
              refine lv_lload hx hb dX2_pressureOf_137 (lv_at hl 0 rfl) ?_
              exact W.lret (v := 30) hx hb hr (fun t ht hW => ⟨_, rfl, by first | (simp [mPr, mHold, mWant, c_1, c_2, c_20, c_26, c_28, c_30]; done) | (simp [mPr, mHold, mWant, c_1, c_2, c_20, c_26, c_28, c_30]; rfl), ht⟩) (fun q h => absurd h List.not_mem_nil) dX2_pressureOf_139
            · skip
              replace c_30 := mt (lg_cmp_le _ _).mpr c_30
              refine lv_aload_n hx hb dX2_pressureOf_128 rfl (lv_at hl 1 rfl) ?_
              refine va_get (D := D) (ci := 2) (v := .ref (a 5)) (C := RX2) (T := TX2) (N := 14) hx hb hts (by decide +kernel) hown hK hP 0 rfl rfl 6 (by decide) (hts _ hm4) (fun _ h9 => h9) rfl dX2_pressureOf_129 ?_
              refine lv_iload_n hx hb dX2_pressureOf_132 rfl (lv_at hl 2 rfl) ?_
              refine va_lald (D := D) (f := bo) hx hb hK hP 5 4 rfl rfl (ix_9 hn hi) dX2_pressureOf_133 ?_
              refine W.eq (g2 := F0 m 134 ls [.long (bo (i + 1))]) (by rw [wIx hn hi]) ?_
              refine lv_goto (tgt := 139) hx hb dX2_pressureOf_134 (by decide) ?_
              exact W.lret (v := (bo (i + 1))) hx hb hr (fun t ht hW => ⟨_, rfl, by first | (simp [mPr, mHold, mWant, c_1, c_2, c_20, c_26, c_28, c_30]; done) | (simp [mPr, mHold, mWant, c_1, c_2, c_20, c_26, c_28, c_30]; rfl), ht⟩) (fun q h => absurd h List.not_mem_nil) dX2_pressureOf_139
  · skip
    refine lv_lload_n hx hb dX2_pressureOf_17 rfl (lv_at hl 3 rfl) ?_
    refine lv_lstore (lv' := [(4, .long ped), (0, .ref m0), (1, .int (nI (i + 1))), (2, .long ped)]) hx hb dX2_pressureOf_18 hl (by decide) rfl (fun ls hl => ?_)
    refine lv_goto (tgt := 90) hx hb dX2_pressureOf_20 (by decide) ?_
    refine lv_aload_n hx hb dX2_pressureOf_90 rfl (lv_at hl 1 rfl) ?_
    refine va_get (D := D) (ci := 2) (v := .int hd) (C := RX2) (T := TX2) (N := 14) hx hb hts (by decide +kernel) hown hK hP 0 rfl rfl 10 (by decide) (hts _ hm3) (fun _ h9 => h9) rfl dX2_pressureOf_91 ?_
    refine lv_if_eq (tgt := 112) hx hb dX2_pressureOf_94 (by decide) (fun c_31 => ?_) (fun c_31 => ?_)
    · skip
      refine lv_lload hx hb dX2_pressureOf_112 (lv_at hl 0 rfl) ?_
      refine lv_lstore (lv' := [(4, .long ped), (0, .ref m0), (1, .int (nI (i + 1))), (2, .long ped)]) hx hb dX2_pressureOf_114 hl (by decide) rfl (fun ls hl => ?_)
      refine lv_lload hx hb dX2_pressureOf_116 (lv_at hl 0 rfl) ?_
      refine lv_aload_n hx hb dX2_pressureOf_118 rfl (lv_at hl 1 rfl) ?_
      refine va_get (D := D) (ci := 2) (v := .ref (a 5)) (C := RX2) (T := TX2) (N := 14) hx hb hts (by decide +kernel) hown hK hP 0 rfl rfl 6 (by decide) (hts _ hm4) (fun _ h9 => h9) rfl dX2_pressureOf_119 ?_
      refine lv_iload_n hx hb dX2_pressureOf_122 rfl (lv_at hl 2 rfl) ?_
      refine va_lald (D := D) (f := bo) hx hb hK hP 5 4 rfl rfl (ix_9 hn hi) dX2_pressureOf_123 ?_
      refine W.eq (g2 := F0 m 124 ls [.long (bo (i + 1)), .long ped]) (by rw [wIx hn hi]) ?_
      refine W.lcmp hx hb dX2_pressureOf_124 ?_
      refine lv_if_le (tgt := 137) hx hb dX2_pressureOf_125 (by decide) (fun c_32 => ?_) (fun c_32 => ?_)
      · skip
        replace c_32 := (lg_cmp_le _ _).mp c_32
        refine lv_lload hx hb dX2_pressureOf_137 (lv_at hl 0 rfl) ?_
        exact W.lret (v := ped) hx hb hr (fun t ht hW => ⟨_, rfl, by first | (simp [mPr, mHold, mWant, c_1, c_31, c_32]; done) | (simp [mPr, mHold, mWant, c_1, c_31, c_32]; rfl), ht⟩) (fun q h => absurd h List.not_mem_nil) dX2_pressureOf_139
      · skip
        replace c_32 := mt (lg_cmp_le _ _).mpr c_32
        refine lv_aload_n hx hb dX2_pressureOf_128 rfl (lv_at hl 1 rfl) ?_
        refine va_get (D := D) (ci := 2) (v := .ref (a 5)) (C := RX2) (T := TX2) (N := 14) hx hb hts (by decide +kernel) hown hK hP 0 rfl rfl 6 (by decide) (hts _ hm4) (fun _ h9 => h9) rfl dX2_pressureOf_129 ?_
        refine lv_iload_n hx hb dX2_pressureOf_132 rfl (lv_at hl 2 rfl) ?_
        refine va_lald (D := D) (f := bo) hx hb hK hP 5 4 rfl rfl (ix_9 hn hi) dX2_pressureOf_133 ?_
        refine W.eq (g2 := F0 m 134 ls [.long (bo (i + 1))]) (by rw [wIx hn hi]) ?_
        refine lv_goto (tgt := 139) hx hb dX2_pressureOf_134 (by decide) ?_
        exact W.lret (v := (bo (i + 1))) hx hb hr (fun t ht hW => ⟨_, rfl, by first | (simp [mPr, mHold, mWant, c_1, c_31, c_32]; done) | (simp [mPr, mHold, mWant, c_1, c_31, c_32]; rfl), ht⟩) (fun q h => absurd h List.not_mem_nil) dX2_pressureOf_139
    · skip
      refine lv_lload hx hb dX2_pressureOf_97 (lv_at hl 0 rfl) ?_
      refine lv_ldc2 hx hb hown (hts _ hm5) dX2_pressureOf_99 ?_
      refine W.lcmp hx hb dX2_pressureOf_102 ?_
      refine lv_if_ge (tgt := 112) hx hb dX2_pressureOf_103 (by decide) (fun c_33 => ?_) (fun c_33 => ?_)
      · skip
        replace c_33 := (lg_cmp_ge _ _).mp c_33
        refine lv_lload hx hb dX2_pressureOf_112 (lv_at hl 0 rfl) ?_
        refine lv_lstore (lv' := [(4, .long ped), (0, .ref m0), (1, .int (nI (i + 1))), (2, .long ped)]) hx hb dX2_pressureOf_114 hl (by decide) rfl (fun ls hl => ?_)
        refine lv_lload hx hb dX2_pressureOf_116 (lv_at hl 0 rfl) ?_
        refine lv_aload_n hx hb dX2_pressureOf_118 rfl (lv_at hl 1 rfl) ?_
        refine va_get (D := D) (ci := 2) (v := .ref (a 5)) (C := RX2) (T := TX2) (N := 14) hx hb hts (by decide +kernel) hown hK hP 0 rfl rfl 6 (by decide) (hts _ hm4) (fun _ h9 => h9) rfl dX2_pressureOf_119 ?_
        refine lv_iload_n hx hb dX2_pressureOf_122 rfl (lv_at hl 2 rfl) ?_
        refine va_lald (D := D) (f := bo) hx hb hK hP 5 4 rfl rfl (ix_9 hn hi) dX2_pressureOf_123 ?_
        refine W.eq (g2 := F0 m 124 ls [.long (bo (i + 1)), .long ped]) (by rw [wIx hn hi]) ?_
        refine W.lcmp hx hb dX2_pressureOf_124 ?_
        refine lv_if_le (tgt := 137) hx hb dX2_pressureOf_125 (by decide) (fun c_34 => ?_) (fun c_34 => ?_)
        · skip
          replace c_34 := (lg_cmp_le _ _).mp c_34
          refine lv_lload hx hb dX2_pressureOf_137 (lv_at hl 0 rfl) ?_
          exact W.lret (v := ped) hx hb hr (fun t ht hW => ⟨_, rfl, by first | (simp [mPr, mHold, mWant, c_1, c_31, c_33, c_34]; done) | (simp [mPr, mHold, mWant, c_1, c_31, c_33, c_34]; rfl), ht⟩) (fun q h => absurd h List.not_mem_nil) dX2_pressureOf_139
        · skip
          replace c_34 := mt (lg_cmp_le _ _).mpr c_34
          refine lv_aload_n hx hb dX2_pressureOf_128 rfl (lv_at hl 1 rfl) ?_
          refine va_get (D := D) (ci := 2) (v := .ref (a 5)) (C := RX2) (T := TX2) (N := 14) hx hb hts (by decide +kernel) hown hK hP 0 rfl rfl 6 (by decide) (hts _ hm4) (fun _ h9 => h9) rfl dX2_pressureOf_129 ?_
          refine lv_iload_n hx hb dX2_pressureOf_132 rfl (lv_at hl 2 rfl) ?_
          refine va_lald (D := D) (f := bo) hx hb hK hP 5 4 rfl rfl (ix_9 hn hi) dX2_pressureOf_133 ?_
          refine W.eq (g2 := F0 m 134 ls [.long (bo (i + 1))]) (by rw [wIx hn hi]) ?_
          refine lv_goto (tgt := 139) hx hb dX2_pressureOf_134 (by decide) ?_
          exact W.lret (v := (bo (i + 1))) hx hb hr (fun t ht hW => ⟨_, rfl, by first | (simp [mPr, mHold, mWant, c_1, c_31, c_33, c_34]; done) | (simp [mPr, mHold, mWant, c_1, c_31, c_33, c_34]; rfl), ht⟩) (fun q h => absurd h List.not_mem_nil) dX2_pressureOf_139
      · skip
        replace c_33 := mt (lg_cmp_ge _ _).mpr c_33
        refine lv_ldc2 hx hb hown (hts _ hm5) dX2_pressureOf_106 ?_
        refine lv_goto (tgt := 114) hx hb dX2_pressureOf_109 (by decide) ?_
        refine lv_lstore (lv' := [(4, .long 30), (0, .ref m0), (1, .int (nI (i + 1))), (2, .long ped)]) hx hb dX2_pressureOf_114 hl (by decide) rfl (fun ls hl => ?_)
        refine lv_lload hx hb dX2_pressureOf_116 (lv_at hl 0 rfl) ?_
        refine lv_aload_n hx hb dX2_pressureOf_118 rfl (lv_at hl 1 rfl) ?_
        refine va_get (D := D) (ci := 2) (v := .ref (a 5)) (C := RX2) (T := TX2) (N := 14) hx hb hts (by decide +kernel) hown hK hP 0 rfl rfl 6 (by decide) (hts _ hm4) (fun _ h9 => h9) rfl dX2_pressureOf_119 ?_
        refine lv_iload_n hx hb dX2_pressureOf_122 rfl (lv_at hl 2 rfl) ?_
        refine va_lald (D := D) (f := bo) hx hb hK hP 5 4 rfl rfl (ix_9 hn hi) dX2_pressureOf_123 ?_
        refine W.eq (g2 := F0 m 124 ls [.long (bo (i + 1)), .long 30]) (by rw [wIx hn hi]) ?_
        refine W.lcmp hx hb dX2_pressureOf_124 ?_
        refine lv_if_le (tgt := 137) hx hb dX2_pressureOf_125 (by decide) (fun c_35 => ?_) (fun c_35 => ?_)
        · skip
          replace c_35 := (lg_cmp_le _ _).mp c_35
          refine lv_lload hx hb dX2_pressureOf_137 (lv_at hl 0 rfl) ?_
          exact W.lret (v := 30) hx hb hr (fun t ht hW => ⟨_, rfl, by first | (simp [mPr, mHold, mWant, c_1, c_31, c_33, c_35]; done) | (simp [mPr, mHold, mWant, c_1, c_31, c_33, c_35]; rfl), ht⟩) (fun q h => absurd h List.not_mem_nil) dX2_pressureOf_139
        · skip
          replace c_35 := mt (lg_cmp_le _ _).mpr c_35
          refine lv_aload_n hx hb dX2_pressureOf_128 rfl (lv_at hl 1 rfl) ?_
          refine va_get (D := D) (ci := 2) (v := .ref (a 5)) (C := RX2) (T := TX2) (N := 14) hx hb hts (by decide +kernel) hown hK hP 0 rfl rfl 6 (by decide) (hts _ hm4) (fun _ h9 => h9) rfl dX2_pressureOf_129 ?_
          refine lv_iload_n hx hb dX2_pressureOf_132 rfl (lv_at hl 2 rfl) ?_
          refine va_lald (D := D) (f := bo) hx hb hK hP 5 4 rfl rfl (ix_9 hn hi) dX2_pressureOf_133 ?_
          refine W.eq (g2 := F0 m 134 ls [.long (bo (i + 1))]) (by rw [wIx hn hi]) ?_
          refine lv_goto (tgt := 139) hx hb dX2_pressureOf_134 (by decide) ?_
          exact W.lret (v := (bo (i + 1))) hx hb hr (fun t ht hW => ⟨_, rfl, by first | (simp [mPr, mHold, mWant, c_1, c_31, c_33, c_35]; done) | (simp [mPr, mHold, mWant, c_1, c_31, c_33, c_35]; rfl), ht⟩) (fun q h => absurd h List.not_mem_nil) dX2_pressureOf_139
