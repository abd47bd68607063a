/-! ===== the law from its entry ===== -/
theorem xO_blind {av : List Value} {D : va_G} {ws : va_W} {sz : Nat} : FrameBlind (va_Pc av (fun U => xW D [] ws sz U ∧ va_AO RX0 U)) := fun a U g mk h => ⟨h.1, ⟨h.2.1.1, xP_calling g mk a h.2.1.2.1, h.2.1.2.2⟩, va_AO.moved (u := U) (U := U.calling g mk a) (Vm.Alike.refl U.vm) h.2.2⟩
theorem xO_at {av : List Value} {D : va_G} {ws : va_W} {A : Nat → Prop} {s : State} {H : Heap} (hP : va_P D vwCl ws H) (hK : va_K D vwCl [] s) (hN : cN s) (hD : va_D A ws) (hO : va_AO RX0 s) : ∀ U : State, U.heap = H → s.WarmedH U.vm → va_Pc av (fun U => xW D [] ws H.size U ∧ va_AO RX0 U) av.toArray U := fun U hU hW => ⟨rfl, (xW_at (av := av) hP hK hN hD U hU hW).2, va_AO.moved hW.alike hO⟩
theorem bj_bd (k : Nat) : bd (bj 9 k) 200 := by
  unfold bj
  by_cases h : k < 9
  · rw [if_pos h]; exact ⟨100, by omega, rfl⟩
  · rw [if_neg h]; exact ⟨0, by omega, rfl⟩
set_option maxHeartbeats 4000000 in
set_option maxRecDepth 100000 in
/-- from the entry, for every script of at most 2561 ints, the law comes to its end with true -/
theorem whole_start {p : Program} {e : Env} {s : State} {m : MethodId} {below : List Frame} {meth : Method} {c : Code} (l : Launch) (hflags : l.flags = flags0) {b L : Nat} {xs : Nat → Int32} (hL : L ≤ 2561) (C0 : lw_At p s m meth c b L xs) : W p l e room_1 s m #[Value.ref b] below meth c s.heap [] 0 0 (lw_Z below #[Value.ref b] s) (entryFrame m ([Value.ref b] : List Value).toArray 9) := by
  obtain ⟨hx, hb, hr, hml, hown, htb, hX0, hbl, hlocks, hgv⟩ := id C0
  have hts0 : ∀ w ∈ wsL_law, w.before #[Value.ref b] s = true := fun w h => htb w (wsL_law_in w h)
  replace hb : c.code = cL_law := hb
  replace hown : s.vm.findClass RL = some m.cls := hown
  have hfl := flat_of_before _ hgv
  obtain ⟨c0, iS0, hKn0⟩ := u_known (C := RX0) (T := TX0) (N := 6) (n := 6) htb inX0 (htb (.instantiable RX0 6) (by decide +kernel))
  obtain ⟨c1, iS1, hKn1⟩ := u_known (C := RX1) (T := TX1) (N := 6) (n := 6) htb inX1 (htb (.instantiable RX1 6) (by decide +kernel))
  obtain ⟨c2, iS2, hKn2⟩ := u_known (C := RX2) (T := TX2) (N := 14) (n := 14) htb inX2 (htb (.instantiable RX2 14) (by decide +kernel))
  obtain ⟨D, hKc⟩ : ∃ D : va_G, ∀ (k : Nat) (q : vw_C), vwCl[k]? = some q → u_Kn s q.1 q.2.1 q.2.2 (D.1 k) (D.2 k) := by
    refine ⟨(fun k => if k = 0 then c0 else if k = 1 then c1 else c2, fun k => if k = 0 then iS0 else if k = 1 then iS1 else iS2), ?_⟩
    intro k q hq
    match k, hq with
    | 0, hq => cases hq; exact hKn0
    | 1, hq => cases hq; exact hKn1
    | 2, hq => cases hq; exact hKn2
    | k + 3, hq => simp [vwCl] at hq
  have hK0 : va_K D vwCl [] s := ⟨hKc, fun k q h => by simp at h⟩
  have hN0 : cN s := ⟨va_Nw.of rfl (htb (.fieldLinkNest "GearBrake" 30 "GearBrake$Wheel" "speed" "J" "GearBrake") (by decide +kernel)), va_Nw.of rfl (htb (.fieldLinkNest "GearBrake" 100 "GearBrake$Wheel" "lost" "Z" "GearBrake") (by decide +kernel)), va_Nw.of rfl (htb (.fieldLinkNest "GearBrake" 67 "GearBrake$Wheel" "phase" "I" "GearBrake") (by decide +kernel)), va_Nw.of rfl (htb (.fieldLinkNest "GearBrake" 72 "GearBrake$Wheel" "pressure" "J" "GearBrake") (by decide +kernel)), va_Nw.of rfl (htb (.fieldLinkNest "GearBrake" 117 "GearBrake$Wheel" "bound" "J" "GearBrake") (by decide +kernel)), va_Nw.of rfl (htb (.fieldLinkNest "GearBrake" 111 "GearBrake$Wheel" "model" "D" "GearBrake") (by decide +kernel)), va_Nw.of rfl (htb (.methodLinkNest "GearBrake" 15 yX0_init "GearBrake") (by decide +kernel)), va_Nw.of rfl (htb (.methodLinkNest "GearBrake" 54 yX0_brake "GearBrake") (by decide +kernel)), va_Nw.of rfl (htb (.methodLinkNest "GearBrake" 58 yX0_followModel "GearBrake") (by decide +kernel)), va_Nw.of rfl (htb (.methodLinkNest "GearBrake" 86 yX0_press "GearBrake") (by decide +kernel))⟩
  have hO : va_AO RX0 s := va_AO.of (htb (.arrayOver (.object RX0)) (by decide +kernel))
  have hst : l.stackTraces = false := by
    unfold Launch.stackTraces
    rw [hflags]
    decide
  obtain ⟨sa, hTA⟩ : ∃ sa : Nat, xTA sa s := by
    have h1 : (Cond.stringRef RX1 91 "no slip without a reference").before #[Value.ref b] s = true := htb (.stringRef RX1 91 "no slip without a reference") (by decide +kernel)
    have h2 : (Cond.stringRef RX1 91 "no slip without a reference").before #[] s = true := h1
    obtain ⟨k, cf, i, sa, -, -, -, -, -, he⟩ := Cond.stringRef_spec hKn1.2.1 h2
    exact ⟨sa, ⟨h2, he⟩, va_Nw.of rfl (htb (.castable "java/lang/ArithmeticException" "java/lang/ArithmeticException") (by decide +kernel)), va_Nw.of rfl (htb (.declares (Bundle.initS "java/lang/RuntimeException")) (by decide +kernel)), va_Nw.of rfl (htb (.declares (Bundle.initS "java/lang/Exception")) (by decide +kernel)), va_Nw.of rfl (htb (.declares (Bundle.initS Bundle.tN)) (by decide +kernel)), vx_Zqof (htb (.laysStatic Bundle.tN "UNASSIGNED_STACK" Bundle.steD) (by decide +kernel)) (htb (.initialized Bundle.tN) (by decide +kernel)) (hfl (.isRef (.static Bundle.tN "UNASSIGNED_STACK" Bundle.steD)) (by decide +kernel)) (fun a ha hz => absurd ha (Nat.not_lt.mpr hz)), vx_Zqof (htb (.laysStatic Bundle.tN "SUPPRESSED_SENTINEL" Bundle.listD) (by decide +kernel)) (htb (.initialized Bundle.tN) (by decide +kernel)) (hfl (.isRef (.static Bundle.tN "SUPPRESSED_SENTINEL" Bundle.listD)) (by decide +kernel)) (fun a ha hz => absurd ha (Nat.not_lt.mpr hz))⟩
  have hA : ∀ z : Nat, s.heap.size ≤ z → (fun z : Nat => s.heap.size ≤ z) z := fun _ h => h
  have hbA : ¬ (fun z : Nat => s.heap.size ≤ z) b := Nat.not_le.mpr hbl
  have hS : va_S (fun z : Nat => s.heap.size ≤ z) s.heap s.heap [] := va_S.rf
  have hP : va_P D vwCl [] s.heap := fun k q h => by simp at h
  have hD : va_D (fun z : Nat => s.heap.size ≤ z) [] := ⟨fun i j p q h => by simp at h, fun k q h => by simp at h⟩
  have hl := lv_entry ([.ref b]) (n := 9) (Nat.le_of_ble_eq_true rfl)
  rw [lg_entry_eq]
  generalize (lg_sl ([.ref b]) ++ List.replicate (9 - (lg_sl ([.ref b])).length) Slot.unset).toArray = ls at hl ⊢
  replace hl : lv_has ls 9 [(0, .ref b)] := hl
  refine va_new (ci := 1) (fs := [.null, .long 0, .int 0, .int 0, .int 0, .int 0]) (C := RX1) (T := TX1) (N := 6) hx hb hts0 inlX1 tyX1 tyX1_ok hown (hts0 (.classLink RL 8 RX1) (by decide +kernel)) (hts0 (.instantiable RX1 6) (by decide +kernel)) (hts0 (.initialized RX1) (by decide +kernel)) hK0 hP hD hS hA rfl (fun j hj => by rcases (show j = 0 ∨ j = 1 ∨ j = 2 ∨ j = 3 ∨ j = 4 ∨ j = 5 by omega) with rfl | rfl | rfl | rfl | rfl | rfl <;> rfl) (Nat.le_of_ble_eq_true rfl) (Nat.le_of_ble_eq_true rfl) dL_law_0 (fun h0 H hP hD hS => ?_)
  replace hP : va_P D vwCl ([(h0, .inr (1, [.null, .long 0, .int 0, .int 0, .int 0, .int 0]))]) H := hP
  replace hD : va_D (fun z : Nat => s.heap.size ≤ z) ([(h0, .inr (1, [.null, .long 0, .int 0, .int 0, .int 0, .int 0]))]) := hD
  refine lv_dup hx hb dL_law_3 rfl ?_
  refine lv_aload_n hx hb dL_law_4 rfl (lv_at hl 0 rfl) ?_
  refine lv_iconst (v := 0) hx hb dL_law_5 (by decide) ?_
  refine vp_callSi (W.runS (As := [.ref b, .int 0]) (rest := [.ref h0, .ref h0]) ⟨hx, hb, hml, hown, hts0⟩ (l_cell l b L xs hL) (va_cwS 2 hts0 gL_law_L_cell rfl rfl rfl (by decide +kernel) ⟨(Nat.le_of_ble_eq_true rfl), (Nat.le_of_ble_eq_true rfl)⟩) ⟨xX_blind, xX_at (hX0.kept (hS.2.1 b hbl hbA))⟩ rfl rfl hl.1 rfl (lv_room (Nat.le_of_ble_eq_true rfl)) dL_law_6 ⟨(Nat.le_of_ble_eq_true rfl), (Nat.le_of_ble_eq_true rfl)⟩) (fun w hrw => ?_)
  obtain ⟨hn2, hn8⟩ := nW_in w
  have hFc := xF hD hS hA
  refine va_callv (va_runI (As := [.int w]) (rest := [.ref h0]) ⟨hx, hb, hml, hown, hts0⟩ (c1_init l D h0 _ w) (cwI 1 hts0 gL_law_X1_init rfl rfl rfl (hts0 (.initialized RX1) (by decide +kernel)) (hts0 (.methodLink RL 21 yX1_init) (by decide +kernel)) (hts0 (.instanceMethod yX1_init) (by decide +kernel)) rfl (by decide +kernel) ⟨(Nat.le_of_ble_eq_true rfl), (Nat.le_of_ble_eq_true rfl)⟩) ⟨xO_blind, xO_at hP hK0 hN0 hD hO⟩ rfl rfl hl.1 rfl (lv_room (Nat.le_of_ble_eq_true rfl)) dL_law_9 ⟨(Nat.le_of_ble_eq_true rfl), (Nat.le_of_ble_eq_true rfl)⟩) hS (fun z _ h => hFc z h) hFc (fun u t H locs ht hvm hpo hB hz1 hk1 hS => ?_)
  obtain ⟨hw, cW, q, g⟩ := u
  dsimp only at hpo hB
  replace hP := xB_P hB ht
  replace hD := hB.2.weaken (fun _ z _ h => hFc z.1 h)
  have hKC0 : va_K D vwCl [(cW, .object RX0)] s := va_K.moved hvm.symm hB.1.2.1
  clear hB hk1 hz1 ht hvm hFc
  refine lv_astore_n (lv' := [(1, .ref h0), (0, .ref b)]) hx hb dL_law_12 rfl hl (by decide) rfl (fun ls hl => ?_)
  refine va_new (ci := 2) (fs := [.int 0, .int 0, .null, .null, .null, .null, .null, .null, .long 0, .int 0, .int 0, .int 0, .int 0, .int 0]) (C := RX2) (T := TX2) (N := 14) hx hb hts0 inlX2 tyX2 tyX2_ok hown (hts0 (.classLink RL 24 RX2) (by decide +kernel)) (hts0 (.instantiable RX2 14) (by decide +kernel)) (hts0 (.initialized RX2) (by decide +kernel)) hK0 hP hD hS hA rfl (fun j hj => by rcases (show j = 0 ∨ j = 1 ∨ j = 2 ∨ j = 3 ∨ j = 4 ∨ j = 5 ∨ j = 6 ∨ j = 7 ∨ j = 8 ∨ j = 9 ∨ j = 10 ∨ j = 11 ∨ j = 12 ∨ j = 13 by omega) with rfl | rfl | rfl | rfl | rfl | rfl | rfl | rfl | rfl | rfl | rfl | rfl | rfl | rfl <;> rfl) (Nat.le_of_ble_eq_true rfl) (Nat.le_of_ble_eq_true rfl) dL_law_13 (fun m0 H hP hD hS => ?_)
  replace hP : va_P D vwCl (cwj h0 hw cW (nW w) (nW w) q g 1 ++ [(m0, .inr (2, [.int 0, .int 0, .null, .null, .null, .null, .null, .null, .long 0, .int 0, .int 0, .int 0, .int 0, .int 0]))]) H := hP
  replace hD : va_D (fun z : Nat => s.heap.size ≤ z) (cwj h0 hw cW (nW w) (nW w) q g 1 ++ [(m0, .inr (2, [.int 0, .int 0, .null, .null, .null, .null, .null, .null, .long 0, .int 0, .int 0, .int 0, .int 0, .int 0]))]) := hD
  refine lv_dup hx hb dL_law_16 rfl ?_
  refine lv_aload_n hx hb dL_law_17 rfl (lv_at hl 1 rfl) ?_
  refine lv_iconst (v := 0) hx hb dL_law_18 (by decide) ?_
  refine vp_callSi (W.runS (As := [.ref b, .int 0]) (rest := [.ref m0, .ref m0]) ⟨hx, hb, hml, hown, hts0⟩ (l_cell l b L xs hL) (va_cwS 2 hts0 gL_law_L_cell rfl rfl rfl (by decide +kernel) ⟨(Nat.le_of_ble_eq_true rfl), (Nat.le_of_ble_eq_true rfl)⟩) ⟨xX_blind, xX_at (hX0.kept (hS.2.1 b hbl hbA))⟩ rfl rfl hl.1 rfl (lv_room (Nat.le_of_ble_eq_true rfl)) dL_law_19 ⟨(Nat.le_of_ble_eq_true rfl), (Nat.le_of_ble_eq_true rfl)⟩) (fun w2 hrw2 => ?_)
  obtain rfl : w2 = w := hrw2.trans hrw.symm
  have hPm := w_PR hP
  have hDm := w_DR hD
  have hFm := xF hDm hS hA
  refine va_callv (va_runI (As := [.int w2]) (rest := [.ref m0]) ⟨hx, hb, hml, hown, hts0⟩ (m2_init l D m0 _ w2) (cwI 1 hts0 gL_law_X2_init rfl rfl rfl (hts0 (.initialized RX2) (by decide +kernel)) (hts0 (.methodLink RL 26 yX2_init) (by decide +kernel)) (hts0 (.instanceMethod yX2_init) (by decide +kernel)) rfl (by decide +kernel) ⟨(Nat.le_of_ble_eq_true rfl), (Nat.le_of_ble_eq_true rfl)⟩) ⟨xW_blind, xW_at hPm hK0 hN0 hDm⟩ rfl rfl hl.1 rfl (lv_room (Nat.le_of_ble_eq_true rfl)) dL_law_22 ⟨(Nat.le_of_ble_eq_true rfl), (Nat.le_of_ble_eq_true rfl)⟩) hS (fun z _ h => hFm z h) hFm (fun u t H1 locs ht hvm hpo2 hB hz1 hk1 hS => ?_)
  obtain ⟨a, C⟩ := u
  dsimp only at hB
  have hKM0 : va_K D vwCl [(C 1, .long), (C 2, .boolean), (C 3, .int), (C 4, .long), (C 5, .long), (C 6, .double)] s := va_K.moved hvm.symm hB.1.2.1
  obtain ⟨hP, hD⟩ := w_joinR hP hD hk1 hFm (xB_P hB ht) hB.2
  clear hB hk1 hz1 ht hvm hFm hPm hDm
  refine lv_astore_n (lv' := [(2, .ref m0), (1, .ref h0), (0, .ref b)]) hx hb dL_law_25 rfl hl (by decide) rfl (fun ls hl => ?_)
  refine lv_iconst (v := 1) hx hb dL_law_26 (by decide) ?_
  refine va_newa (D := D) (atype := .long) (ty := .long) (N' := 1) (a0 := (1, .inr (.inl (fun _ => 0)))) hx hb (hts0 (.arrayClass .long) (by decide +kernel)) rfl hK0 hP hD hS hA (fun _ => rfl) (by decide) rfl (by decide) (Nat.le_of_ble_eq_true rfl) (Nat.le_of_ble_eq_true rfl) dL_law_27 (fun o cO H hKO0 hP hD hS => ?_)
  replace hKO0 : va_K D vwCl [(cO, .long)] s := hKO0
  replace hP := va_P.swap hP
  replace hD := va_D.swap hD
  rw [cwj_cw h0 hw cW (nW w2) q g (bj 9) (fun k h1 h2 => by unfold bj; rw [if_pos (by omega)])] at hP hD
  refine lv_astore_n (lv' := [(3, .ref o), (2, .ref m0), (1, .ref h0), (0, .ref b)]) hx hb dL_law_29 rfl hl (by decide) rfl (fun ls hl => ?_)
  refine lv_iconst (v := 1) hx hb dL_law_30 (by decide) ?_
  refine lv_istore (lv' := [(4, .int 1), (3, .ref o), (2, .ref m0), (1, .ref h0), (0, .ref b)]) hx hb dL_law_31 hl (by decide) rfl (fun ls hl => ?_)
  refine W.widen (k := 100 + 0) (n := 1000 + 6 * 0) (Nat.le_of_ble_eq_true rfl) (Nat.le_of_ble_eq_true rfl) ?_
  refine W.base ?_
  have hE : LE p l s m meth c b L xs D cW (nW w2) q g C cO sa := ⟨hx, hb, hr, hml, hown, hts0, hX0, hbl, hlocks, hKC0, hKM0, hKO0, hN0, hL, hn8, hn2, hpo, hst, hTA⟩
  have hI : INV (nW w2) 0 (fun _ => 0) (fun _ => 0) (bj 9) (fun _ => 0) (fun _ => 0) 0 0 0 0 0 0 := ⟨⟨0, by omega, rfl⟩, fun _ => ⟨0, by omega, rfl⟩, fun _ => ⟨0, by omega, rfl⟩, bj_bd, Or.inl rfl, fun _ _ _ => rfl, 0, 0, 0, by omega, by omega, by omega, rfl, rfl, rfl, rfl⟩
  exact law_loop hE 513 0 (by omega) (Drawn.sameBut.refl s.drawn lw_cs) hP hD hS hI (lv_sub hl [0, 4, 3, 2, 1] rfl)
