/-! ===== the law's slip ===== -/
theorem ow_at {ws : va_W} {o : Nat} {e : va_E} : (ws ++ [(o, e)])[ws.length]? = some (o, e) := by rw [List.getElem?_append_right (Nat.le_refl _), Nat.sub_self]; rfl
theorem ow_set {ws : va_W} {o : Nat} {e e2 : va_E} : (ws ++ [(o, e)]).set ws.length (o, e2) = ws ++ [(o, e2)] := by
  rw [List.set_append_right _ _ (Nat.le_refl _), Nat.sub_self]; rfl
set_option maxHeartbeats 4000000 in
set_option maxRecDepth 100000 in
/-- slip(x, p0, p1, out): 0 with the answer in out, or 1 -/
theorem l_slip (l : Launch) (D : va_G) (cW : ClassId) (h0 hw n : Nat) (q : Nat → Nat) (g : Nat → Option Nat) (sp : Nat → Int64) (lo ph : Nat → Int32) (pr bo : Nat → Int64) (mo : Nat → UInt64) (rf : Int64) (hd gr st nx : Int32) (hn : n ≤ 8) (hg : ∀ i, i < n → g i = some (q i)) (hst : l.stackTraces = false) (sa o : Nat) (cO : ClassId) (row : Nat → Int64) (w side : Int32) (hrf : bd rf 1000) (hsp : ∀ k, bd (sp k) 1000) (sz : Nat) : vx_Met l yL_slip wsL_slip ({ frames := 7, cells := 1, slots := 6, locals := 120 }) (va_Pc [.ref h0, .int w, .int side, .ref o] (xSW sa D [(cW, .object RX0), (cO, .long)] (cw h0 hw cW n q g sp lo ph pr bo mo rf hd gr st nx ++ [(o, .inl (cO, 1, .inr (.inl row)))]) sz)) (va_Qi (fun (r : Int32) (u : Nat → Int64) => ((¬ wOut n w ∧ rf = 0) ∧ r = 1 ∧ u = row) ∨ (¬ (¬ wOut n w ∧ rf = 0) ∧ r = 0 ∧ u = va_up row 0 (if wOut n w then 0 else sSlip rf (sp w.toNatClampNeg) side))) (fun u => xB D [(cW, .object RX0), (cO, .long)] (va_A (cw h0 hw cW n q g sp lo ph pr bo mo rf hd gr st nx ++ [(o, .inl (cO, 1, .inr (.inl row)))]) sz) (cw h0 hw cW n q g sp lo ph pr bo mo rf hd gr st nx ++ [(o, .inl (cO, 1, .inr (.inl u)))])) (va_A (cw h0 hw cW n q g sp lo ph pr bo mo rf hd gr st nx ++ [(o, .inl (cO, 1, .inr (.inl row)))]) sz)) (vx_X (fun _ : Unit => False) (fun _ _ _ => True) (va_A (cw h0 hw cW n q g sp lo ph pr bo mo rf hd gr st nx ++ [(o, .inl (cO, 1, .inr (.inl row)))]) sz)) 1 6 (va_A (cw h0 hw cW n q g sp lo ph pr bo mo rf hd gr st nx ++ [(o, .inl (cO, 1, .inr (.inl row)))]) sz) := by
  refine vx_ofWH (cc := cL_slip) (maxL := 5) (ret := (some .int)) (hh := [(0, 9, 12, 13)]) (by decide) rfl ?_
  intro p e s m args below meth c s₁ B hml hv
  obtain ⟨rfl, ⟨hsz, ⟨hP, hK, hN⟩, hDt⟩, hT⟩ := hv
  have hx := B.exec
  have hb := B.bytes
  have hr := B.returns
  have hts := atoms_spec (ws := wsL_slip) B.pre
  have hown : s.vm.findClass RL = some m.cls := findClass_of_methodNamed B.named
  have hlocks := B.notSynchronized
  have hm1 : (.classLink RL 13 "java/lang/ArithmeticException" : Cond) ∈ wsL_slip := by decide +kernel
  have htab := vx_table (x := yL_slip) B (hts _ List.mem_cons_self)
  subst hsz
  have hD := hDt.self (sz := s.heap.size)
  generalize hAe : va_A (cw h0 hw cW n q g sp lo ph pr bo mo rf hd gr st nx ++ [(o, .inl (cO, 1, .inr (.inl row)))]) s.heap.size = A at hD ⊢
  have hS : va_S A s.heap s.heap [] := va_S.rf
  have hl := lv_entry ([.ref h0, .int w, .int side, .ref o]) (n := 5) (Nat.le_of_ble_eq_true rfl)
  rw [lg_entry_eq]
  generalize (lg_sl ([.ref h0, .int w, .int side, .ref o]) ++ List.replicate (5 - (lg_sl ([.ref h0, .int w, .int side, .ref o])).length) Slot.unset).toArray = ls at hl ⊢
  replace hl : lv_has ls 5 [(0, .ref h0), (1, .int w), (2, .int side), (3, .ref o)] := hl
  refine lv_aload_n hx hb dL_slip_0 rfl (lv_at hl 3 rfl) ?_
  refine lv_iconst (v := 0) hx hb dL_slip_1 (by decide) ?_
  refine lv_aload_n hx hb dL_slip_2 rfl (lv_at hl 0 rfl) ?_
  refine lv_iload_n hx hb dL_slip_3 rfl (lv_at hl 1 rfl) ?_
  refine lv_iload_n hx hb dL_slip_4 rfl (lv_at hl 2 rfl) ?_
  have hKc : va_K D vwCl [(cW, .object RX0)] s := hK.sub [0] rfl
  have hPc := w_PL hP
  refine vx_calll (vx_runV (As := [.int w, .int side]) (rest := [.int 0, .ref o]) ⟨hx, hb, hml, hown, hts⟩ (c1_slip l D cW h0 hw n q g sp lo ph pr bo mo rf hd gr st nx hn hg hst sa w side hrf hsp) (cwV 2 hts gL_slip_X1_slip rfl rfl rfl (by decide +kernel) ⟨Nat.le_of_ble_eq_true rfl, Nat.le_of_ble_eq_true rfl⟩) ⟨xS_blind, va_recv hKc hPc (ci := 1) (q0 := 0) rfl rfl, xS_at hPc hKc hN hT⟩ rfl rfl hl.1 rfl (lv_room (Nat.le_of_ble_eq_true rfl)) dL_slip_5 ⟨Nat.le_of_ble_eq_true rfl, Nat.le_of_ble_eq_true rfl⟩) hS (fun _ _ h => h.elim) (fun _ h => h.elim) (fun _ _ h => h.elim) (fun E ce q9 u t H locs ht hvm hpx hE hz1 hk1 hS hce hcv hcl => ?_) (fun r u t H locs ht hvm hpo hB hz1 hk1 hS => ?_)
  · skip
    subst hE
    replace hP := w_kept hP hk1
    refine vx_catch (own := RL) (name := "java/lang/ArithmeticException") hown [] ⟨0, 9, 12, 13⟩ [] (htab.trans rfl) (fun z hz => absurd hz List.not_mem_nil) (by decide) (by decide) (hts _ hm1) (va_Nw.use rfl hT.2.1) hce hcv hcl ?_
    refine lv_astore (lv' := [(4, .ref q9), (0, .ref h0), (1, .int w), (2, .int side), (3, .ref o)]) hx hb dL_slip_12 hl (by decide) rfl (fun ls hl => ?_)
    refine lv_iconst (v := 1) hx hb dL_slip_14 (by decide) ?_
    refine vx_ret ?_
    exact W.iret (v := 1) hx hb hr (fun t ht hW => ⟨⟨_, row, rfl, Or.inl ⟨hpx, rfl, rfl⟩, xB_end hP hK hN hD ht hW⟩, hS.F ht⟩) hS.2.2 dL_slip_15
  · skip
    replace hP := w_kept hP hk1
    clear hB hz1 hk1 ht hvm
    obtain ⟨hp1, rfl⟩ := hpo
    refine va_last (D := D) (f := row) hx hb hK hP hD hS (cw h0 hw cW n q g sp lo ph pr bo mo rf hd gr st nx).length 1 ow_at rfl (by unfold vp_in; decide) dL_slip_8 (fun H locs hP hD hS => ?_)
    replace hP := w_P ow_set hP
    replace hD := w_D ow_set hD
    refine lv_goto (tgt := 16) hx hb dL_slip_9 (by decide) ?_
    refine lv_iconst (v := 0) hx hb dL_slip_16 (by decide) ?_
    refine vx_ret ?_
    exact W.iret (v := 0) hx hb hr (fun t ht hW => ⟨⟨_, va_up row 0 (if wOut n w then 0 else sSlip rf (sp w.toNatClampNeg) side), rfl, Or.inr ⟨hp1, rfl, rfl⟩, xB_end hP hK hN hD ht hW⟩, hS.F ht⟩) hS.2.2 dL_slip_17
