/-! ===== slip of the car, which may throw; the law's own slip, which catches it ===== -/
/-- what a throw needs of the start: the text, the castable and declared, the two statics -/
def xT (sa : Nat) (U : State) (H : Heap) : Prop := vk_R RX1 91 "no slip without a reference" sa U ∧ va_Nw (.castable "java/lang/ArithmeticException" "java/lang/ArithmeticException") U ∧ va_Nw (.declares (Bundle.initS "java/lang/RuntimeException")) U ∧ va_Nw (.declares (Bundle.initS "java/lang/Exception")) U ∧ va_Nw (.declares (Bundle.initS Bundle.tN)) U ∧ vx_Zq Bundle.tN "UNASSIGNED_STACK" Bundle.steD (fun _ => False) U H ∧ vx_Zq Bundle.tN "SUPPRESSED_SENTINEL" Bundle.listD (fun _ => False) U H
theorem xT_same {sa : Nat} {u U : State} {H : Heap} (hv : U.vm = u.vm) (h : xT sa u H) : xT sa U H := by
  obtain ⟨h1, h2, h3, h4, h5, h6, h7⟩ := h
  have ha : u.vm.Alike U.vm := by rw [hv]; exact Vm.Alike.refl _
  exact ⟨vk_R.same hv h1, va_Nw.same rfl hv.symm h2, va_Nw.same rfl hv.symm h3, va_Nw.same rfl hv.symm h4, va_Nw.same rfl hv.symm h5, vx_Zq.moved ha h6, vx_Zq.moved ha h7⟩
theorem xT_warm {sa : Nat} {s U : State} {H : Heap} (hW : s.WarmedH U.vm) (h : xT sa s H) : xT sa U H := by
  obtain ⟨h1, h2, h3, h4, h5, h6, h7⟩ := h
  exact ⟨vk_R.warm hW h1, va_Nw.warmC hW h2, va_Nw.warmD hW h3, va_Nw.warmD hW h4, va_Nw.warmD hW h5, vx_Zq.moved hW.alike h6, vx_Zq.moved hW.alike h7⟩
theorem xT_draw {sa : Nat} {s : State} {H : Heap} {d : Drawn} (h : xT sa s H) : xT sa (s.setDrawn d) H := xT_same (u := s) rfl h
def xS (sa : Nat) (D : va_G) (tys : List (ClassId × FieldType)) (ws : va_W) (U : State) : Prop := xP D tys ws U ∧ xT sa U U.heap
def xSW (sa : Nat) (D : va_G) (tys : List (ClassId × FieldType)) (ws : va_W) (sz : Nat) (U : State) : Prop := xW D tys ws sz U ∧ xT sa U U.heap
section XS
variable {D : va_G} {tys : List (ClassId × FieldType)} {ws ws' : va_W} {A : Nat → Prop} {s t : State} {H H0 : Heap} {locs : List Loc} {av : List Value} {sz sa : Nat}
theorem xS_blind : FrameBlind (va_Pc av (xS sa D tys ws)) := fun a U g mk h => ⟨h.1, xP_calling g mk a h.2.1, xT_same (u := U) (U := U.calling g mk a) rfl h.2.2⟩
theorem xSW_blind : FrameBlind (va_Pc av (xSW sa D tys ws sz)) := fun a U g mk h => ⟨h.1, ⟨h.2.1.1, xP_calling g mk a h.2.1.2.1, h.2.1.2.2⟩, xT_same (u := U) (U := U.calling g mk a) rfl h.2.2⟩
theorem xS_at (hP : va_P D vwCl ws H) (hK : va_K D vwCl tys s) (hN : cN s) (hT : xT sa s H) : ∀ U : State, U.heap = H → s.WarmedH U.vm → va_Pc av (xS sa D tys ws) av.toArray U := fun U hU hW => ⟨rfl, (xP_at (av := av) hP hK hN U hU hW).2, by rw [hU]; exact xT_warm hW hT⟩
theorem xSW_at (hP : va_P D vwCl ws H) (hK : va_K D vwCl tys s) (hN : cN s) (hD : va_D A ws) (hT : xT sa s H) : ∀ U : State, U.heap = H → s.WarmedH U.vm → va_Pc av (xSW sa D tys ws H.size) av.toArray U := fun U hU hW => ⟨rfl, (xW_at (av := av) hP hK hN hD U hU hW).2, by rw [hU]; exact xT_warm hW hT⟩
theorem w_kept {H1 : Heap} (hP : va_P D vwCl ws H) (hk : ∀ q : Nat, q < H.size → ¬ False → H1[q]? = H[q]?) : va_P D vwCl ws H1 := hP.kept (fun k q hq => hk q.1 (hP k q hq).lt (fun h => h))
end XS
theorem bd_abs_le {rf s : Int64} (hr : bd rf 1000) (hs : bd s 1000) : (rf.toInt - s.toInt).natAbs ≤ 1000 := by
  obtain ⟨-, h1, h2, h3, h4⟩ := bd_sub hr hs
  omega
set_option maxHeartbeats 4000000 in
set_option maxRecDepth 100000 in
/-- slip: an answer, or ArithmeticException -/
theorem c1_slip (l : Launch) (D : va_G) (cW : ClassId) (h0 hw n : Nat) (q : Nat → Nat) (g : Nat → Option Nat) (sp : Nat → Int64) (lo ph : Nat → Int32) (pr bo : Nat → Int64) (mo : Nat → UInt64) (rf : Int64) (hd gr st nx : Int32) (hn : n ≤ 8) (hg : ∀ i, i < n → g i = some (q i)) (hst : l.stackTraces = false) (sa : Nat) (w side : Int32) (hrf : bd rf 1000) (hsp : ∀ k, bd (sp k) 1000) : vx_Met l yX1_slip wsX1_slip ({ frames := 6, cells := 1, slots := 6, locals := 90 }) (va_Pc [.ref h0, .int w, .int side] (xS sa D [(cW, .object RX0)] (cw h0 hw cW n q g sp lo ph pr bo mo rf hd gr st nx))) (va_Ql (fun (r : Int64) (_ : Unit) => ¬ (¬ wOut n w ∧ rf = 0) ∧ r = if wOut n w then 0 else sSlip rf (sp w.toNatClampNeg) side) (fun _ _ => True) (fun _ => False)) (vx_X (fun _ : Unit => ¬ wOut n w ∧ rf = 0) (fun E _ _ => E = "java/lang/ArithmeticException") (fun _ => False)) 1 6 (fun _ => False) := by
  rcases w_io n w hn with hwo | ⟨i, hi, rfl⟩
  · skip
    refine vx_ofW (cc := cX1_slip) (maxL := 8) (ret := (some .long)) (by decide) rfl ?_
    intro p e s m args below meth c s₁ B hml hno hv
    obtain ⟨rfl, ⟨hP, hK, hN⟩, hT⟩ := hv
    have hx := B.exec
    have hb := B.bytes
    have hr := B.returns
    have hts := atoms_spec (ws := wsX1_slip) B.pre
    have hown : s.vm.findClass RX1 = some m.cls := findClass_of_methodNamed B.named
    have hlocks := B.notSynchronized
    have hat : ∀ w ∈ vx_atS RX1 93 "java/lang/ArithmeticException" ["java/lang/RuntimeException", "java/lang/Exception"], w.before _ s = true := vx_hat (B := [.castable "java/lang/ArithmeticException" "java/lang/ArithmeticException", .declares (Bundle.initS "java/lang/RuntimeException"), .declares (Bundle.initS "java/lang/Exception"), .declares (Bundle.initS Bundle.tN)]) (fun w h => hts w (List.mem_cons_of_mem _ (List.mem_append_right _ h))) (by decide +kernel) (vx_c (va_Nw.use rfl hT.2.1) (vx_c (va_Nw.use rfl hT.2.2.1) (vx_c (va_Nw.use rfl hT.2.2.2.1) (vx_c (va_Nw.use rfl hT.2.2.2.2.1) vx_n))))
    have hl := lv_entry ([.ref h0, .int w, .int side]) (n := 8) (Nat.le_of_ble_eq_true rfl)
    rw [lg_entry_eq]
    generalize (lg_sl ([.ref h0, .int w, .int side]) ++ List.replicate (8 - (lg_sl ([.ref h0, .int w, .int side])).length) Slot.unset).toArray = ls at hl ⊢
    replace hl : lv_has ls 8 [(0, .ref h0), (1, .int w), (2, .int side)] := hl
    refine lv_aload_n hx hb dX1_slip_0 rfl (lv_at hl 0 rfl) ?_
    refine lv_iload_n hx hb dX1_slip_1 rfl (lv_at hl 1 rfl) ?_
    refine va_csq (W.runV (As := [.int w]) (rest := []) ⟨hx, hb, hml, hown, hts⟩ (c1_find_out l D cW h0 hw n q g sp lo ph pr bo mo rf hd gr st nx hn hg w hwo) (cwV 1 hts gX1_slip_X1_find rfl rfl rfl (by decide +kernel) ⟨Nat.le_of_ble_eq_true rfl, Nat.le_of_ble_eq_true rfl⟩) ⟨xP_blind, va_recv hK hP (ci := 1) (q0 := 0) rfl rfl, xP_at hP hK hN⟩ rfl rfl hl.1 rfl (lv_room (Nat.le_of_ble_eq_true rfl)) dX1_slip_2 ⟨Nat.le_of_ble_eq_true rfl, Nat.le_of_ble_eq_true rfl⟩) (fun r_1 hr_2 => ?_)
    subst hr_2
    refine W.eq (g2 := F0 m 5 ls [.null]) rfl ?_
    refine lv_astore_nN (lv' := [(3, .null), (0, .ref h0), (1, .int w), (2, .int side)]) hx hb dX1_slip_5 rfl hl (by decide) rfl (fun ls hl => ?_)
    refine lv_aload_nN hx hb dX1_slip_6 rfl (lv_at hl 0 rfl) ?_
    refine lv_ifnonnullN hx hb dX1_slip_7 ?_
    refine lv_lconst (v := 0) hx hb dX1_slip_10 (by decide) ?_
    refine vx_ret ?_
    refine W.widen (k := 1) (n := 6) (by omega) (by omega) ?_
    exact W.lret (v := 0) hx hb hr (fun t ht hW => ⟨⟨_, (), rfl, ⟨fun h => h.1 hwo, by rw [if_pos hwo]⟩, trivial⟩, (va_S.rf (A := fun _ => False) (H0 := s.heap)).F ht⟩) (fun q h => absurd h List.not_mem_nil) dX1_slip_11
  · skip
    refine vx_ofW (cc := cX1_slip) (maxL := 8) (ret := (some .long)) (by decide) rfl ?_
    intro p e s m args below meth c s₁ B hml hno hv
    obtain ⟨rfl, ⟨hP, hK, hN⟩, hT⟩ := hv
    have hx := B.exec
    have hb := B.bytes
    have hr := B.returns
    have hts := atoms_spec (ws := wsX1_slip) B.pre
    have hown : s.vm.findClass RX1 = some m.cls := findClass_of_methodNamed B.named
    have hlocks := B.notSynchronized
    have hm1 : (.fieldLink RX1 47 "GearBrake" "reference" "J" : Cond) ∈ wsX1_slip := by decide +kernel
    have hm2 : (.methodLink RX1 77 Lib.MathLoose.abs_long.x : Cond) ∈ wsX1_slip := by decide +kernel
    have hm3 : (.static Lib.MathLoose.abs_long.x : Cond) ∈ wsX1_slip := by decide +kernel
    have hm4 : (.initialized "java/lang/Math" : Cond) ∈ wsX1_slip := by decide +kernel
    have hm5 : (.code Lib.MathLoose.abs_long.x Lib.MathLoose.abs_long.code 2 (some .long) : Cond) ∈ wsX1_slip := by decide +kernel
    have hm6 : (.classLink RX1 89 "java/lang/ArithmeticException" : Cond) ∈ wsX1_slip := by decide +kernel
    have hm7 : (.initialized "java/lang/ArithmeticException" : Cond) ∈ wsX1_slip := by decide +kernel
    have hat : ∀ w ∈ vx_atS RX1 93 "java/lang/ArithmeticException" ["java/lang/RuntimeException", "java/lang/Exception"], w.before _ s = true := vx_hat (B := [.castable "java/lang/ArithmeticException" "java/lang/ArithmeticException", .declares (Bundle.initS "java/lang/RuntimeException"), .declares (Bundle.initS "java/lang/Exception"), .declares (Bundle.initS Bundle.tN)]) (fun w h => hts w (List.mem_cons_of_mem _ (List.mem_append_right _ h))) (by decide +kernel) (vx_c (va_Nw.use rfl hT.2.1) (vx_c (va_Nw.use rfl hT.2.2.1) (vx_c (va_Nw.use rfl hT.2.2.2.1) (vx_c (va_Nw.use rfl hT.2.2.2.2.1) vx_n))))
    have hl := lv_entry ([.ref h0, .int (nI (i + 1)), .int side]) (n := 8) (Nat.le_of_ble_eq_true rfl)
    rw [lg_entry_eq]
    generalize (lg_sl ([.ref h0, .int (nI (i + 1)), .int side]) ++ List.replicate (8 - (lg_sl ([.ref h0, .int (nI (i + 1)), .int side])).length) Slot.unset).toArray = ls at hl ⊢
    replace hl : lv_has ls 8 [(0, .ref h0), (1, .int (nI (i + 1))), (2, .int side)] := hl
    refine lv_aload_n hx hb dX1_slip_0 rfl (lv_at hl 0 rfl) ?_
    refine lv_iload_n hx hb dX1_slip_1 rfl (lv_at hl 1 rfl) ?_
    refine va_csq (W.runV (As := [.int (nI (i + 1))]) (rest := []) ⟨hx, hb, hml, hown, hts⟩ (c1_find_in l D cW h0 hw n q g sp lo ph pr bo mo rf hd gr st nx hn hg i hi) (cwV 1 hts gX1_slip_X1_find rfl rfl rfl (by decide +kernel) ⟨Nat.le_of_ble_eq_true rfl, Nat.le_of_ble_eq_true rfl⟩) ⟨xP_blind, va_recv hK hP (ci := 1) (q0 := 0) rfl rfl, xP_at hP hK hN⟩ rfl rfl hl.1 rfl (lv_room (Nat.le_of_ble_eq_true rfl)) dX1_slip_2 ⟨Nat.le_of_ble_eq_true rfl, Nat.le_of_ble_eq_true rfl⟩) (fun r_1 hr_2 => ?_)
    subst hr_2
    refine W.eq (g2 := F0 m 5 ls [.ref (q i)]) rfl ?_
    refine lv_astore_n (lv' := [(3, .ref (q i)), (0, .ref h0), (1, .int (nI (i + 1))), (2, .int side)]) hx hb dX1_slip_5 rfl hl (by decide) rfl (fun ls hl => ?_)
    refine lv_aload_n hx hb dX1_slip_6 rfl (lv_at hl 0 rfl) ?_
    refine lv_ifnonnull (tgt := 12) hx hb dX1_slip_7 (by decide) ?_
    refine lv_aload_n hx hb dX1_slip_12 rfl (lv_at hl 1 rfl) ?_
    refine va_get (D := D) (ci := 1) (v := .long rf) (C := RX1) (T := TX1) (N := 6) hx hb hts (by decide +kernel) hown hK hP 0 rfl rfl 1 (by decide) (hts _ hm1) (fun _ h9 => h9) rfl dX1_slip_13 ?_
    refine lv_lconst (v := 0) hx hb dX1_slip_16 (by decide) ?_
    refine W.lcmp hx hb dX1_slip_17 ?_
    refine lv_if_ne (tgt := 31) hx hb dX1_slip_18 (by decide) (fun c_3 => ?_) (fun c_3 => ?_)
    · skip
      replace c_3 := mt (lg_cmp_eq _ _).mpr c_3
      refine lv_aload_n hx hb dX1_slip_31 rfl (lv_at hl 1 rfl) ?_
      refine va_get (D := D) (ci := 1) (v := .long rf) (C := RX1) (T := TX1) (N := 6) hx hb hts (by decide +kernel) hown hK hP 0 rfl rfl 1 (by decide) (hts _ hm1) (fun _ h9 => h9) rfl dX1_slip_32 ?_
      refine lv_aload_n hx hb dX1_slip_35 rfl (lv_at hl 0 rfl) ?_
      refine va_getN (D := D) (ci := 0) (v := .long (sp (i + 1))) (C := RX0) (T := TX0) (N := 6) hx hb hts (by decide +kernel) hown hK hP (i + 2) (cw_at hi) rfl 0 (by decide) (va_Nw.use rfl hN.1) (fun _ h9 => h9) rfl dX1_slip_36 ?_
      refine lv_lsub hx hb dX1_slip_39 ?_
      refine lv_lstore (lv' := [(4, .long (rf - (sp (i + 1)))), (3, .ref (q i)), (0, .ref h0), (1, .int (nI (i + 1))), (2, .int side)]) hx hb dX1_slip_40 hl (by decide) rfl (fun ls hl => ?_)
      refine lv_lload hx hb dX1_slip_42 (lv_at hl 0 rfl) ?_
      refine va_mabs_long hx hb (by rw [hml]; exact hl.1.symm) hown (hts _ hm2) (hts _ hm3) (hts _ hm4) (hts _ hm5) (Nat.le_of_ble_eq_true rfl) (Nat.le_of_ble_eq_true rfl) (Nat.le_of_ble_eq_true rfl) (Nat.le_of_ble_eq_true rfl) dX1_slip_44 ?_
      refine W.eq (g2 := F0 m 47 ls [.long (cAbs (rf - (sp (i + 1))))]) rfl ?_
      refine W.eq (g2 := F0 m 47 ls [.long (lN (rf.toInt - (sp (i + 1)).toInt).natAbs)]) (congrArg (fun z => F0 m 47 ls [.long z]) (bd_abs hrf (hsp (i + 1)))) ?_
      refine lv_aload_n hx hb dX1_slip_47 rfl (lv_at hl 2 rfl) ?_
      refine va_get (D := D) (ci := 1) (v := .long rf) (C := RX1) (T := TX1) (N := 6) hx hb hts (by decide +kernel) hown hK hP 0 rfl rfl 1 (by decide) (hts _ hm1) (fun _ h9 => h9) rfl dX1_slip_48 ?_
      refine W.eq (g2 := F0 m 51 ls [.long (lN rf.toInt.natAbs), .long (lN (rf.toInt - (sp (i + 1)).toInt).natAbs)]) (congrArg (fun z => F0 m 51 ls [.long z, .long (lN (rf.toInt - (sp (i + 1)).toInt).natAbs)]) (bd_rf hrf).1) ?_
      refine vp_callSl (W.runS (As := [.long (lN (rf.toInt - (sp (i + 1)).toInt).natAbs), .long (lN rf.toInt.natAbs)]) (rest := []) ⟨hx, hb, hml, hown, hts⟩ (c1_gcd l (rf.toInt - (sp (i + 1)).toInt).natAbs rf.toInt.natAbs (bd_abs_le hrf (hsp (i + 1))) (bd_rf hrf).2 (sG_pos (s := sp (i + 1)) hrf c_3).1) (va_cwS 2 hts gX1_slip_X1_commonDivisor rfl rfl rfl (by decide +kernel) ⟨Nat.le_of_ble_eq_true rfl, Nat.le_of_ble_eq_true rfl⟩) ⟨fun _ _ _ _ h => h, fun _ _ _ => ⟨rfl, trivial⟩⟩ rfl rfl hl.1 rfl (lv_room (Nat.le_of_ble_eq_true rfl)) dX1_slip_51 ⟨Nat.le_of_ble_eq_true rfl, Nat.le_of_ble_eq_true rfl⟩) (fun r_4 hr_5 => ?_)
      subst hr_5
      refine lv_lstore (lv' := [(6, .long (lN (Nat.gcd (rf.toInt - (sp (i + 1)).toInt).natAbs rf.toInt.natAbs))), (4, .long (rf - (sp (i + 1)))), (3, .ref (q i)), (0, .ref h0), (1, .int (nI (i + 1))), (2, .int side)]) hx hb dX1_slip_54 hl (by decide) rfl (fun ls hl => ?_)
      refine lv_iload_n hx hb dX1_slip_56 rfl (lv_at hl 5 rfl) ?_
      refine lv_if_ne (tgt := 65) hx hb dX1_slip_57 (by decide) (fun c_6 => ?_) (fun c_6 => ?_)
      · skip
        refine lv_aload_n hx hb dX1_slip_65 rfl (lv_at hl 3 rfl) ?_
        refine va_get (D := D) (ci := 1) (v := .long rf) (C := RX1) (T := TX1) (N := 6) hx hb hts (by decide +kernel) hown hK hP 0 rfl rfl 1 (by decide) (hts _ hm1) (fun _ h9 => h9) rfl dX1_slip_66 ?_
        refine lv_lload hx hb dX1_slip_69 (lv_at hl 0 rfl) ?_
        refine lv_ldiv hx hb dX1_slip_71 (lN_ne0 (sG_pos (s := sp (i + 1)) hrf c_3).2.1 (Nat.lt_of_le_of_lt (sG_pos (s := sp (i + 1)) hrf c_3).2.2 (by omega))) ?_
        refine vx_ret ?_
        refine W.widen (k := 1) (n := 6) (by omega) (by omega) ?_
        exact W.lret (v := (rf / (lN (Nat.gcd (rf.toInt - (sp (i + 1)).toInt).natAbs rf.toInt.natAbs)))) hx hb hr (fun t ht hW => ⟨⟨_, (), rfl, ⟨fun h => absurd h.2 c_3, by rw [if_neg (wOut_in hn hi), wIx hn hi]; first | (simp [sSlip, sG, c_6]; done) | (simp [sSlip, sG, c_6]; rfl)⟩, trivial⟩, (va_S.rf (A := fun _ => False) (H0 := s.heap)).F ht⟩) (fun q h => absurd h List.not_mem_nil) dX1_slip_72
      · skip
        refine lv_lload hx hb dX1_slip_60 (lv_at hl 1 rfl) ?_
        refine lv_goto (tgt := 69) hx hb dX1_slip_62 (by decide) ?_
        refine lv_lload hx hb dX1_slip_69 (lv_at hl 0 rfl) ?_
        refine lv_ldiv hx hb dX1_slip_71 (lN_ne0 (sG_pos (s := sp (i + 1)) hrf c_3).2.1 (Nat.lt_of_le_of_lt (sG_pos (s := sp (i + 1)) hrf c_3).2.2 (by omega))) ?_
        refine vx_ret ?_
        refine W.widen (k := 1) (n := 6) (by omega) (by omega) ?_
        exact W.lret (v := ((rf - (sp (i + 1))) / (lN (Nat.gcd (rf.toInt - (sp (i + 1)).toInt).natAbs rf.toInt.natAbs)))) hx hb hr (fun t ht hW => ⟨⟨_, (), rfl, ⟨fun h => absurd h.2 c_3, by rw [if_neg (wOut_in hn hi), wIx hn hi]; first | (simp [sSlip, sG, c_6]; done) | (simp [sSlip, sG, c_6]; rfl)⟩, trivial⟩, (va_S.rf (A := fun _ => False) (H0 := s.heap)).F ht⟩) (fun q h => absurd h List.not_mem_nil) dX1_slip_72
    · skip
      replace c_3 := (lg_cmp_eq _ _).mp c_3
      exact vx_throwS (names := ["java/lang/RuntimeException", "java/lang/Exception"]) (A := fun _ => False) hx hb hst hown (by decide) (by decide) (hts _ hm6) (hts _ hm7) hT.1 hat (by decide +kernel) hT.2.2.2.2.2.1 hT.2.2.2.2.2.2 va_S.rf (by rw [hml]; exact hl.1) dX1_slip_21 dX1_slip_24 dX1_slip_25 dX1_slip_27 dX1_slip_30 (fun x h => (hno x h).elim) (Nat.le_of_ble_eq_true rfl) (Nat.le_of_ble_eq_true rfl) (Nat.le_of_ble_eq_true rfl) (Nat.le_of_ble_eq_true rfl) hlocks (fun t _ h1 h2 => ⟨(), ⟨wOut_in hn hi, c_3⟩, rfl, ⟨h1, fun q hq _ => h2 q hq⟩⟩) (fun z h => absurd h List.not_mem_nil) (Nat.le_of_ble_eq_true rfl) (Nat.le_of_ble_eq_true rfl)
