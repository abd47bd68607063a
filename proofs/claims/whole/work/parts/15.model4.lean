/-! ===== the reference's constructor; the law's own methods ===== -/
def f6 {α : Type} (d x1 x2 x3 x4 x5 x6 : α) : Nat → α := fun k => match k with
  | 1 => x1
  | 2 => x2
  | 3 => x3
  | 4 => x4
  | 5 => x5
  | 6 => x6
  | _ => d
def bj (j : Nat) : Nat → Int64 := fun k => if k < j then 100 else 0
theorem bj_0 : bj 0 = fun _ => 0 := by funext k; unfold bj; rw [if_neg (by omega)]
theorem bj_up (j : Nat) : vp_updL (bj j) j 100 = bj (j + 1) := by
  funext k
  unfold vp_updL bj
  by_cases h : k = j
  · rw [if_pos h, if_pos (by omega)]
  · rw [if_neg h]
    by_cases h2 : k < j
    · rw [if_pos h2, if_pos (by omega)]
    · rw [if_neg h2, if_neg (by omega)]
set_option maxHeartbeats 4000000 in
set_option maxRecDepth 100000 in
/-- GearBrakeModel(int) -/
theorem m2_init (l : Launch) (D : va_G) (m0 sz : Nat) (w : Int32) : Met l yX2_init wsX2_init ({ frames := 1, cells := 6, slots := 54, locals := 12 }) (va_Pc [.ref m0, .int w] (xW D [] [(m0, .inr (2, [.int 0, .int 0, .null, .null, .null, .null, .null, .null, .long 0, .int 0, .int 0, .int 0, .int 0, .int 0]))] sz)) (va_Qv (fun _ : (Nat → Nat) × (Nat → ClassId) => True) (fun u => xB D [(u.2 1, .long), (u.2 2, .boolean), (u.2 3, .int), (u.2 4, .long), (u.2 5, .long), (u.2 6, .double)] (va_A [(m0, .inr (2, [.int 0, .int 0, .null, .null, .null, .null, .null, .null, .long 0, .int 0, .int 0, .int 0, .int 0, .int 0]))] sz) (mw m0 u.1 u.2 0 (nI (nW w)) (fun _ => 0) (fun _ => 0) (fun _ => 0) (fun _ => 0) (bj 9) (fun _ => 0) 0 1 0 0 0 0)) (va_A [(m0, .inr (2, [.int 0, .int 0, .null, .null, .null, .null, .null, .null, .long 0, .int 0, .int 0, .int 0, .int 0, .int 0]))] sz)) 6 54 (va_A [(m0, .inr (2, [.int 0, .int 0, .null, .null, .null, .null, .null, .null, .long 0, .int 0, .int 0, .int 0, .int 0, .int 0]))] sz) := by
  obtain ⟨hn2, hn8⟩ := nW_in w
  refine Met.ofW (cc := cX2_init) (maxL := 3) (ret := none) (by decide) rfl ?_
  intro p e s m args below meth c s₁ B hml hv
  obtain ⟨rfl, hsz, ⟨hP, hK, hN⟩, hDt⟩ := hv
  have hx := B.exec
  have hb := B.bytes
  have hr := B.returns
  have hts := atoms_spec (ws := wsX2_init) B.pre
  have hown : s.vm.findClass RX2 = some m.cls := findClass_of_methodNamed B.named
  have hlocks := B.notSynchronized
  have hin : meth.name = "<init>" := (name_of_methodNamed B.named B.method).1
  have hm1 : (.methodLink RX2 1 objectInit : Cond) ∈ wsX2_init := by decide +kernel
  have hm2 : (.instanceMethod objectInit : Cond) ∈ wsX2_init := by decide +kernel
  have hm3 : (.code objectInit ⟨#[0xb1]⟩ 1 none : Cond) ∈ wsX2_init := by decide +kernel
  have hm4 : (.arrayClass .long : Cond) ∈ wsX2_init := by decide +kernel
  have hm5 : (.fieldLink RX2 7 "GearBrakeModel" "speeds" "[J" : Cond) ∈ wsX2_init := by decide +kernel
  have hm6 : (.arrayClass .boolean : Cond) ∈ wsX2_init := by decide +kernel
  have hm7 : (.fieldLink RX2 13 "GearBrakeModel" "losts" "[Z" : Cond) ∈ wsX2_init := by decide +kernel
  have hm8 : (.arrayClass .int : Cond) ∈ wsX2_init := by decide +kernel
  have hm9 : (.fieldLink RX2 17 "GearBrakeModel" "phases" "[I" : Cond) ∈ wsX2_init := by decide +kernel
  have hm10 : (.fieldLink RX2 21 "GearBrakeModel" "pressures" "[J" : Cond) ∈ wsX2_init := by decide +kernel
  have hm11 : (.fieldLink RX2 24 "GearBrakeModel" "bounds" "[J" : Cond) ∈ wsX2_init := by decide +kernel
  have hm12 : (.arrayClass .double : Cond) ∈ wsX2_init := by decide +kernel
  have hm13 : (.fieldLink RX2 27 "GearBrakeModel" "models" "[D" : Cond) ∈ wsX2_init := by decide +kernel
  have hm14 : (.fieldLink RX2 31 "GearBrakeModel" "gear" "I" : Cond) ∈ wsX2_init := by decide +kernel
  have hm15 : (.fieldLink RX2 35 "GearBrakeModel" "wheels" "I" : Cond) ∈ wsX2_init := by decide +kernel
  have hm16 : (.constantLong RX2 38 (100) : Cond) ∈ wsX2_init := by decide +kernel
  subst hsz
  have hD := hDt.self (sz := s.heap.size)
  generalize hAe : va_A [(m0, .inr (2, [.int 0, .int 0, .null, .null, .null, .null, .null, .null, .long 0, .int 0, .int 0, .int 0, .int 0, .int 0]))] s.heap.size = A at hD ⊢
  have hA : ∀ q : Nat, s.heap.size ≤ q → A q := fun q h => by rw [← hAe]; exact Or.inr h
  have hS : va_S A s.heap s.heap [] := va_S.rf
  have hl := lv_entry ([.ref m0, .int w]) (n := 3) (Nat.le_of_ble_eq_true rfl)
  rw [lg_entry_eq]
  generalize (lg_sl ([.ref m0, .int w]) ++ List.replicate (3 - (lg_sl ([.ref m0, .int w])).length) Slot.unset).toArray = ls at hl ⊢
  replace hl : lv_has ls 3 [(0, .ref m0), (1, .int w)] := hl
  refine lv_aload_n hx hb dX2_init_0 rfl (lv_at hl 0 rfl) ?_
  refine W.objInit hx hb hown (hts _ hm1) (hts _ hm2) (hts _ hm3) rfl (by rw [hml]; exact hl.1) rfl dX2_init_1 (Nat.le_of_ble_eq_true rfl) (Nat.le_of_ble_eq_true rfl) ?_
  refine W.eq (g2 := F0 m 4 ls []) rfl ?_
  refine lv_aload_n hx hb dX2_init_4 rfl (lv_at hl 0 rfl) ?_
  refine lv_bipush (v := 9) hx hb dX2_init_5 (by decide) ?_
  refine va_newa (D := D) (atype := .long) (ty := .long) (N' := 9) (a0 := (9, .inr (.inl (fun _ => 0)))) hx hb (hts _ hm4) rfl hK hP hD hS hA (fun _ => rfl) (by decide) rfl (by decide) (Nat.le_of_ble_eq_true rfl) (Nat.le_of_ble_eq_true rfl) dX2_init_7 (fun a1 c1 H hK hP hD hS => ?_)
  replace hP : va_P D vwCl [(m0, .inr (2, [.int 0, .int 0, .null, .null, .null, .null, .null, .null, .long 0, .int 0, .int 0, .int 0, .int 0, .int 0])), (a1, .inl (c1, 9, .inr (.inl (fun _ => 0))))] H := hP
  replace hD : va_D A [(m0, .inr (2, [.int 0, .int 0, .null, .null, .null, .null, .null, .null, .long 0, .int 0, .int 0, .int 0, .int 0, .int 0])), (a1, .inl (c1, 9, .inr (.inl (fun _ => 0))))] := hD
  replace hK : va_K D vwCl [(c1, .long)] s := hK
  refine va_putF (D := D) (ci := 2) (v := .ref a1) (ty := .array .long) (C := RX2) (T := TX2) (N := 14) hx hb hts (by decide +kernel) tyX2 tyX2_ok nmX2 hown hK hP hD hS 0 rfl rfl 2 (by decide) (hts _ hm5) (fun _ h9 => h9) rfl hin rfl (by decide +kernel) rfl rfl (Nat.le_of_ble_eq_true rfl) dX2_init_9 (fun H locs hP hD hS => ?_)
  replace hP : va_P D vwCl [(m0, .inr (2, [.int 0, .int 0, .ref a1, .null, .null, .null, .null, .null, .long 0, .int 0, .int 0, .int 0, .int 0, .int 0])), (a1, .inl (c1, 9, .inr (.inl (fun _ => 0))))] H := hP
  replace hD : va_D A [(m0, .inr (2, [.int 0, .int 0, .ref a1, .null, .null, .null, .null, .null, .long 0, .int 0, .int 0, .int 0, .int 0, .int 0])), (a1, .inl (c1, 9, .inr (.inl (fun _ => 0))))] := hD
  refine lv_aload_n hx hb dX2_init_12 rfl (lv_at hl 0 rfl) ?_
  refine lv_bipush (v := 9) hx hb dX2_init_13 (by decide) ?_
  refine va_newa (D := D) (atype := .boolean) (ty := .boolean) (N' := 9) (a0 := (9, .inl (fun _ => 0))) hx hb (hts _ hm6) rfl hK hP hD hS hA (fun _ => rfl) (by decide) rfl (by decide) (Nat.le_of_ble_eq_true rfl) (Nat.le_of_ble_eq_true rfl) dX2_init_15 (fun a2 c2 H hK hP hD hS => ?_)
  replace hP : va_P D vwCl [(m0, .inr (2, [.int 0, .int 0, .ref a1, .null, .null, .null, .null, .null, .long 0, .int 0, .int 0, .int 0, .int 0, .int 0])), (a1, .inl (c1, 9, .inr (.inl (fun _ => 0)))), (a2, .inl (c2, 9, .inl (fun _ => 0)))] H := hP
  replace hD : va_D A [(m0, .inr (2, [.int 0, .int 0, .ref a1, .null, .null, .null, .null, .null, .long 0, .int 0, .int 0, .int 0, .int 0, .int 0])), (a1, .inl (c1, 9, .inr (.inl (fun _ => 0)))), (a2, .inl (c2, 9, .inl (fun _ => 0)))] := hD
  replace hK : va_K D vwCl [(c1, .long), (c2, .boolean)] s := hK
  refine va_putF (D := D) (ci := 2) (v := .ref a2) (ty := .array .boolean) (C := RX2) (T := TX2) (N := 14) hx hb hts (by decide +kernel) tyX2 tyX2_ok nmX2 hown hK hP hD hS 0 rfl rfl 3 (by decide) (hts _ hm7) (fun _ h9 => h9) rfl hin rfl (by decide +kernel) rfl rfl (Nat.le_of_ble_eq_true rfl) dX2_init_17 (fun H locs hP hD hS => ?_)
  replace hP : va_P D vwCl [(m0, .inr (2, [.int 0, .int 0, .ref a1, .ref a2, .null, .null, .null, .null, .long 0, .int 0, .int 0, .int 0, .int 0, .int 0])), (a1, .inl (c1, 9, .inr (.inl (fun _ => 0)))), (a2, .inl (c2, 9, .inl (fun _ => 0)))] H := hP
  replace hD : va_D A [(m0, .inr (2, [.int 0, .int 0, .ref a1, .ref a2, .null, .null, .null, .null, .long 0, .int 0, .int 0, .int 0, .int 0, .int 0])), (a1, .inl (c1, 9, .inr (.inl (fun _ => 0)))), (a2, .inl (c2, 9, .inl (fun _ => 0)))] := hD
  refine lv_aload_n hx hb dX2_init_20 rfl (lv_at hl 0 rfl) ?_
  refine lv_bipush (v := 9) hx hb dX2_init_21 (by decide) ?_
  refine va_newa (D := D) (atype := .int) (ty := .int) (N' := 9) (a0 := (9, .inl (fun _ => 0))) hx hb (hts _ hm8) rfl hK hP hD hS hA (fun _ => rfl) (by decide) rfl (by decide) (Nat.le_of_ble_eq_true rfl) (Nat.le_of_ble_eq_true rfl) dX2_init_23 (fun a3 c3 H hK hP hD hS => ?_)
  replace hP : va_P D vwCl [(m0, .inr (2, [.int 0, .int 0, .ref a1, .ref a2, .null, .null, .null, .null, .long 0, .int 0, .int 0, .int 0, .int 0, .int 0])), (a1, .inl (c1, 9, .inr (.inl (fun _ => 0)))), (a2, .inl (c2, 9, .inl (fun _ => 0))), (a3, .inl (c3, 9, .inl (fun _ => 0)))] H := hP
  replace hD : va_D A [(m0, .inr (2, [.int 0, .int 0, .ref a1, .ref a2, .null, .null, .null, .null, .long 0, .int 0, .int 0, .int 0, .int 0, .int 0])), (a1, .inl (c1, 9, .inr (.inl (fun _ => 0)))), (a2, .inl (c2, 9, .inl (fun _ => 0))), (a3, .inl (c3, 9, .inl (fun _ => 0)))] := hD
  replace hK : va_K D vwCl [(c1, .long), (c2, .boolean), (c3, .int)] s := hK
  refine va_putF (D := D) (ci := 2) (v := .ref a3) (ty := .array .int) (C := RX2) (T := TX2) (N := 14) hx hb hts (by decide +kernel) tyX2 tyX2_ok nmX2 hown hK hP hD hS 0 rfl rfl 4 (by decide) (hts _ hm9) (fun _ h9 => h9) rfl hin rfl (by decide +kernel) rfl rfl (Nat.le_of_ble_eq_true rfl) dX2_init_25 (fun H locs hP hD hS => ?_)
  replace hP : va_P D vwCl [(m0, .inr (2, [.int 0, .int 0, .ref a1, .ref a2, .ref a3, .null, .null, .null, .long 0, .int 0, .int 0, .int 0, .int 0, .int 0])), (a1, .inl (c1, 9, .inr (.inl (fun _ => 0)))), (a2, .inl (c2, 9, .inl (fun _ => 0))), (a3, .inl (c3, 9, .inl (fun _ => 0)))] H := hP
  replace hD : va_D A [(m0, .inr (2, [.int 0, .int 0, .ref a1, .ref a2, .ref a3, .null, .null, .null, .long 0, .int 0, .int 0, .int 0, .int 0, .int 0])), (a1, .inl (c1, 9, .inr (.inl (fun _ => 0)))), (a2, .inl (c2, 9, .inl (fun _ => 0))), (a3, .inl (c3, 9, .inl (fun _ => 0)))] := hD
  refine lv_aload_n hx hb dX2_init_28 rfl (lv_at hl 0 rfl) ?_
  refine lv_bipush (v := 9) hx hb dX2_init_29 (by decide) ?_
  refine va_newa (D := D) (atype := .long) (ty := .long) (N' := 9) (a0 := (9, .inr (.inl (fun _ => 0)))) hx hb (hts _ hm4) rfl hK hP hD hS hA (fun _ => rfl) (by decide) rfl (by decide) (Nat.le_of_ble_eq_true rfl) (Nat.le_of_ble_eq_true rfl) dX2_init_31 (fun a4 c4 H hK hP hD hS => ?_)
  replace hP : va_P D vwCl [(m0, .inr (2, [.int 0, .int 0, .ref a1, .ref a2, .ref a3, .null, .null, .null, .long 0, .int 0, .int 0, .int 0, .int 0, .int 0])), (a1, .inl (c1, 9, .inr (.inl (fun _ => 0)))), (a2, .inl (c2, 9, .inl (fun _ => 0))), (a3, .inl (c3, 9, .inl (fun _ => 0))), (a4, .inl (c4, 9, .inr (.inl (fun _ => 0))))] H := hP
  replace hD : va_D A [(m0, .inr (2, [.int 0, .int 0, .ref a1, .ref a2, .ref a3, .null, .null, .null, .long 0, .int 0, .int 0, .int 0, .int 0, .int 0])), (a1, .inl (c1, 9, .inr (.inl (fun _ => 0)))), (a2, .inl (c2, 9, .inl (fun _ => 0))), (a3, .inl (c3, 9, .inl (fun _ => 0))), (a4, .inl (c4, 9, .inr (.inl (fun _ => 0))))] := hD
  replace hK : va_K D vwCl [(c1, .long), (c2, .boolean), (c3, .int), (c4, .long)] s := hK
  refine va_putF (D := D) (ci := 2) (v := .ref a4) (ty := .array .long) (C := RX2) (T := TX2) (N := 14) hx hb hts (by decide +kernel) tyX2 tyX2_ok nmX2 hown hK hP hD hS 0 rfl rfl 5 (by decide) (hts _ hm10) (fun _ h9 => h9) rfl hin rfl (by decide +kernel) rfl rfl (Nat.le_of_ble_eq_true rfl) dX2_init_33 (fun H locs hP hD hS => ?_)
  replace hP : va_P D vwCl [(m0, .inr (2, [.int 0, .int 0, .ref a1, .ref a2, .ref a3, .ref a4, .null, .null, .long 0, .int 0, .int 0, .int 0, .int 0, .int 0])), (a1, .inl (c1, 9, .inr (.inl (fun _ => 0)))), (a2, .inl (c2, 9, .inl (fun _ => 0))), (a3, .inl (c3, 9, .inl (fun _ => 0))), (a4, .inl (c4, 9, .inr (.inl (fun _ => 0))))] H := hP
  replace hD : va_D A [(m0, .inr (2, [.int 0, .int 0, .ref a1, .ref a2, .ref a3, .ref a4, .null, .null, .long 0, .int 0, .int 0, .int 0, .int 0, .int 0])), (a1, .inl (c1, 9, .inr (.inl (fun _ => 0)))), (a2, .inl (c2, 9, .inl (fun _ => 0))), (a3, .inl (c3, 9, .inl (fun _ => 0))), (a4, .inl (c4, 9, .inr (.inl (fun _ => 0))))] := hD
  refine lv_aload_n hx hb dX2_init_36 rfl (lv_at hl 0 rfl) ?_
  refine lv_bipush (v := 9) hx hb dX2_init_37 (by decide) ?_
  refine va_newa (D := D) (atype := .long) (ty := .long) (N' := 9) (a0 := (9, .inr (.inl (fun _ => 0)))) hx hb (hts _ hm4) rfl hK hP hD hS hA (fun _ => rfl) (by decide) rfl (by decide) (Nat.le_of_ble_eq_true rfl) (Nat.le_of_ble_eq_true rfl) dX2_init_39 (fun a5 c5 H hK hP hD hS => ?_)
  replace hP : va_P D vwCl [(m0, .inr (2, [.int 0, .int 0, .ref a1, .ref a2, .ref a3, .ref a4, .null, .null, .long 0, .int 0, .int 0, .int 0, .int 0, .int 0])), (a1, .inl (c1, 9, .inr (.inl (fun _ => 0)))), (a2, .inl (c2, 9, .inl (fun _ => 0))), (a3, .inl (c3, 9, .inl (fun _ => 0))), (a4, .inl (c4, 9, .inr (.inl (fun _ => 0)))), (a5, .inl (c5, 9, .inr (.inl (fun _ => 0))))] H := hP
  replace hD : va_D A [(m0, .inr (2, [.int 0, .int 0, .ref a1, .ref a2, .ref a3, .ref a4, .null, .null, .long 0, .int 0, .int 0, .int 0, .int 0, .int 0])), (a1, .inl (c1, 9, .inr (.inl (fun _ => 0)))), (a2, .inl (c2, 9, .inl (fun _ => 0))), (a3, .inl (c3, 9, .inl (fun _ => 0))), (a4, .inl (c4, 9, .inr (.inl (fun _ => 0)))), (a5, .inl (c5, 9, .inr (.inl (fun _ => 0))))] := hD
  replace hK : va_K D vwCl [(c1, .long), (c2, .boolean), (c3, .int), (c4, .long), (c5, .long)] s := hK
  refine va_putF (D := D) (ci := 2) (v := .ref a5) (ty := .array .long) (C := RX2) (T := TX2) (N := 14) hx hb hts (by decide +kernel) tyX2 tyX2_ok nmX2 hown hK hP hD hS 0 rfl rfl 6 (by decide) (hts _ hm11) (fun _ h9 => h9) rfl hin rfl (by decide +kernel) rfl rfl (Nat.le_of_ble_eq_true rfl) dX2_init_41 (fun H locs hP hD hS => ?_)
  replace hP : va_P D vwCl [(m0, .inr (2, [.int 0, .int 0, .ref a1, .ref a2, .ref a3, .ref a4, .ref a5, .null, .long 0, .int 0, .int 0, .int 0, .int 0, .int 0])), (a1, .inl (c1, 9, .inr (.inl (fun _ => 0)))), (a2, .inl (c2, 9, .inl (fun _ => 0))), (a3, .inl (c3, 9, .inl (fun _ => 0))), (a4, .inl (c4, 9, .inr (.inl (fun _ => 0)))), (a5, .inl (c5, 9, .inr (.inl (fun _ => 0))))] H := hP
  replace hD : va_D A [(m0, .inr (2, [.int 0, .int 0, .ref a1, .ref a2, .ref a3, .ref a4, .ref a5, .null, .long 0, .int 0, .int 0, .int 0, .int 0, .int 0])), (a1, .inl (c1, 9, .inr (.inl (fun _ => 0)))), (a2, .inl (c2, 9, .inl (fun _ => 0))), (a3, .inl (c3, 9, .inl (fun _ => 0))), (a4, .inl (c4, 9, .inr (.inl (fun _ => 0)))), (a5, .inl (c5, 9, .inr (.inl (fun _ => 0))))] := hD
  refine lv_aload_n hx hb dX2_init_44 rfl (lv_at hl 0 rfl) ?_
  refine lv_bipush (v := 9) hx hb dX2_init_45 (by decide) ?_
  refine va_newa (D := D) (atype := .double) (ty := .double) (N' := 9) (a0 := (9, .inr (.inr (.inr (.inl (fun _ => 0)))))) hx hb (hts _ hm12) rfl hK hP hD hS hA (fun _ => rfl) (by decide) rfl (by decide) (Nat.le_of_ble_eq_true rfl) (Nat.le_of_ble_eq_true rfl) dX2_init_47 (fun a6 c6 H hK hP hD hS => ?_)
  replace hP : va_P D vwCl [(m0, .inr (2, [.int 0, .int 0, .ref a1, .ref a2, .ref a3, .ref a4, .ref a5, .null, .long 0, .int 0, .int 0, .int 0, .int 0, .int 0])), (a1, .inl (c1, 9, .inr (.inl (fun _ => 0)))), (a2, .inl (c2, 9, .inl (fun _ => 0))), (a3, .inl (c3, 9, .inl (fun _ => 0))), (a4, .inl (c4, 9, .inr (.inl (fun _ => 0)))), (a5, .inl (c5, 9, .inr (.inl (fun _ => 0)))), (a6, .inl (c6, 9, .inr (.inr (.inr (.inl (fun _ => 0))))))] H := hP
  replace hD : va_D A [(m0, .inr (2, [.int 0, .int 0, .ref a1, .ref a2, .ref a3, .ref a4, .ref a5, .null, .long 0, .int 0, .int 0, .int 0, .int 0, .int 0])), (a1, .inl (c1, 9, .inr (.inl (fun _ => 0)))), (a2, .inl (c2, 9, .inl (fun _ => 0))), (a3, .inl (c3, 9, .inl (fun _ => 0))), (a4, .inl (c4, 9, .inr (.inl (fun _ => 0)))), (a5, .inl (c5, 9, .inr (.inl (fun _ => 0)))), (a6, .inl (c6, 9, .inr (.inr (.inr (.inl (fun _ => 0))))))] := hD
  replace hK : va_K D vwCl [(c1, .long), (c2, .boolean), (c3, .int), (c4, .long), (c5, .long), (c6, .double)] s := hK
  refine va_putF (D := D) (ci := 2) (v := .ref a6) (ty := .array .double) (C := RX2) (T := TX2) (N := 14) hx hb hts (by decide +kernel) tyX2 tyX2_ok nmX2 hown hK hP hD hS 0 rfl rfl 7 (by decide) (hts _ hm13) (fun _ h9 => h9) rfl hin rfl (by decide +kernel) rfl rfl (Nat.le_of_ble_eq_true rfl) dX2_init_49 (fun H locs hP hD hS => ?_)
  replace hP : va_P D vwCl [(m0, .inr (2, [.int 0, .int 0, .ref a1, .ref a2, .ref a3, .ref a4, .ref a5, .ref a6, .long 0, .int 0, .int 0, .int 0, .int 0, .int 0])), (a1, .inl (c1, 9, .inr (.inl (fun _ => 0)))), (a2, .inl (c2, 9, .inl (fun _ => 0))), (a3, .inl (c3, 9, .inl (fun _ => 0))), (a4, .inl (c4, 9, .inr (.inl (fun _ => 0)))), (a5, .inl (c5, 9, .inr (.inl (fun _ => 0)))), (a6, .inl (c6, 9, .inr (.inr (.inr (.inl (fun _ => 0))))))] H := hP
  replace hD : va_D A [(m0, .inr (2, [.int 0, .int 0, .ref a1, .ref a2, .ref a3, .ref a4, .ref a5, .ref a6, .long 0, .int 0, .int 0, .int 0, .int 0, .int 0])), (a1, .inl (c1, 9, .inr (.inl (fun _ => 0)))), (a2, .inl (c2, 9, .inl (fun _ => 0))), (a3, .inl (c3, 9, .inl (fun _ => 0))), (a4, .inl (c4, 9, .inr (.inl (fun _ => 0)))), (a5, .inl (c5, 9, .inr (.inl (fun _ => 0)))), (a6, .inl (c6, 9, .inr (.inr (.inr (.inl (fun _ => 0))))))] := hD
  replace hP : va_P D vwCl (mw m0 (f6 m0 a1 a2 a3 a4 a5 a6) (f6 c1 c1 c2 c3 c4 c5 c6) 0 (0) (fun _ => 0) (fun _ => 0) (fun _ => 0) (fun _ => 0) (fun _ => 0) (fun _ => 0) 0 0 0 0 0 0) H := hP
  replace hD : va_D A (mw m0 (f6 m0 a1 a2 a3 a4 a5 a6) (f6 c1 c1 c2 c3 c4 c5 c6) 0 (0) (fun _ => 0) (fun _ => 0) (fun _ => 0) (fun _ => 0) (fun _ => 0) (fun _ => 0) 0 0 0 0 0 0) := hD
  replace hK : va_K D vwCl [((f6 c1 c1 c2 c3 c4 c5 c6) 1, .long), ((f6 c1 c1 c2 c3 c4 c5 c6) 2, .boolean), ((f6 c1 c1 c2 c3 c4 c5 c6) 3, .int), ((f6 c1 c1 c2 c3 c4 c5 c6) 4, .long), ((f6 c1 c1 c2 c3 c4 c5 c6) 5, .long), ((f6 c1 c1 c2 c3 c4 c5 c6) 6, .double)] s := hK
  refine lv_aload_n hx hb dX2_init_52 rfl (lv_at hl 0 rfl) ?_
  refine lv_iconst (v := 1) hx hb dX2_init_53 (by decide) ?_
  refine va_put (D := D) (ci := 2) (v := .int 1) (ty := .int) (C := RX2) (T := TX2) (N := 14) hx hb hts (by decide +kernel) tyX2 tyX2_ok nmX2 hown hK hP hD hS 0 rfl rfl 9 (by decide) (hts _ hm14) (fun _ h9 => h9) rfl (by decide +kernel) rfl rfl (Nat.le_of_ble_eq_true rfl) dX2_init_54 (fun H locs hP hD hS => ?_)
  replace hP : va_P D vwCl (mw m0 (f6 m0 a1 a2 a3 a4 a5 a6) (f6 c1 c1 c2 c3 c4 c5 c6) 0 (0) (fun _ => 0) (fun _ => 0) (fun _ => 0) (fun _ => 0) (fun _ => 0) (fun _ => 0) 0 1 0 0 0 0) H := hP
  replace hD : va_D A (mw m0 (f6 m0 a1 a2 a3 a4 a5 a6) (f6 c1 c1 c2 c3 c4 c5 c6) 0 (0) (fun _ => 0) (fun _ => 0) (fun _ => 0) (fun _ => 0) (fun _ => 0) (fun _ => 0) 0 1 0 0 0 0) := hD
  refine lv_aload_n hx hb dX2_init_57 rfl (lv_at hl 0 rfl) ?_
  refine lv_iload_n hx hb dX2_init_58 rfl (lv_at hl 1 rfl) ?_
  refine lv_iconst (v := 2) hx hb dX2_init_59 (by decide) ?_
  refine lv_icmp_lt (tgt := 73) hx hb dX2_init_60 (by decide) (fun c_1 => ?_) (fun c_1 => ?_)
  · skip
    refine lv_iconst (v := 4) hx hb dX2_init_73 (by decide) ?_
    refine W.eq (g2 := F0 m 74 ls [.int (nI (nW w)), .ref m0]) (by rw [show nW w = 4 by unfold nW; simp [c_1]]; rfl) ?_
    refine va_put (D := D) (ci := 2) (v := .int (nI (nW w))) (ty := .int) (C := RX2) (T := TX2) (N := 14) hx hb hts (by decide +kernel) tyX2 tyX2_ok nmX2 hown hK hP hD hS 0 rfl rfl 1 (by decide) (hts _ hm15) (fun _ h9 => h9) rfl (by decide +kernel) rfl rfl (Nat.le_of_ble_eq_true rfl) dX2_init_74 (fun H locs hP hD hS => ?_)
    replace hP : va_P D vwCl (mw m0 (f6 m0 a1 a2 a3 a4 a5 a6) (f6 c1 c1 c2 c3 c4 c5 c6) 0 (nI (nW w)) (fun _ => 0) (fun _ => 0) (fun _ => 0) (fun _ => 0) (fun _ => 0) (fun _ => 0) 0 1 0 0 0 0) H := hP
    replace hD : va_D A (mw m0 (f6 m0 a1 a2 a3 a4 a5 a6) (f6 c1 c1 c2 c3 c4 c5 c6) 0 (nI (nW w)) (fun _ => 0) (fun _ => 0) (fun _ => 0) (fun _ => 0) (fun _ => 0) (fun _ => 0) 0 1 0 0 0 0) := hD
    refine lv_iconst (v := 0) hx hb dX2_init_77 (by decide) ?_
    refine lv_istore_n (lv' := [(2, .int 0), (0, .ref m0), (1, .int w)]) hx hb dX2_init_78 rfl hl (by decide) rfl (fun ls hl => ?_)
    obtain ⟨j, hI⟩ : ∃ j : Nat, j ≤ 9 ∧ lv_has ls 3 [(2, .int (nI j)), (0, .ref m0)] ∧ va_P D vwCl (mw m0 (f6 m0 a1 a2 a3 a4 a5 a6) (f6 c1 c1 c2 c3 c4 c5 c6) 0 (nI (nW w)) (fun _ => 0) (fun _ => 0) (fun _ => 0) (fun _ => 0) (bj j) (fun _ => 0) 0 1 0 0 0 0) H ∧ va_D A (mw m0 (f6 m0 a1 a2 a3 a4 a5 a6) (f6 c1 c1 c2 c3 c4 c5 c6) 0 (nI (nW w)) (fun _ => 0) (fun _ => 0) (fun _ => 0) (fun _ => 0) (bj j) (fun _ => 0) 0 1 0 0 0 0) ∧ va_S A s.heap H locs := ⟨0, by omega, lv_sub hl [0, 1] rfl, by rw [bj_0]; exact hP, by rw [bj_0]; exact hD, hS⟩
    obtain ⟨d, hjd⟩ : ∃ d, j + d = 9 := ⟨9 - j, by omega⟩
    clear hl hP hD hS
    induction d generalizing H locs ls j with
    | zero =>
      obtain ⟨hjn, hl, hP, hD, hS⟩ := hI
      have hjn : j = 9 := by omega
      rw [hjn] at hl hP hD
      refine lv_iload_n hx hb dX2_init_79 rfl (lv_at hl 0 rfl) ?_
      refine lv_bipush (v := 9) hx hb dX2_init_80 (by decide) ?_
      refine lv_icmp_ge (tgt := 100) hx hb dX2_init_82 (by decide) (fun c_2 => ?_) (fun c_2 => absurd (nI_le (a := 9) (b := 9) (by omega) (by omega)) c_2)
      refine W.widen (k := 6) (n := 54) (Nat.le_of_ble_eq_true rfl) (Nat.le_of_ble_eq_true rfl) ?_
      exact W.vret hx hb hr (fun t ht hW => ⟨⟨(f6 m0 a1 a2 a3 a4 a5 a6, f6 c1 c1 c2 c3 c4 c5 c6), rfl, trivial, xB_end hP hK hN hD ht hW⟩, hS.F ht⟩) hS.2.2 dX2_init_100
    | succ d ih =>
      obtain ⟨hjn, hl, hP, hD, hS⟩ := hI
      have hlt : j < 9 := by omega
      refine lv_iload_n hx hb dX2_init_79 rfl (lv_at hl 0 rfl) ?_
      refine lv_bipush (v := 9) hx hb dX2_init_80 (by decide) ?_
      refine lv_icmp_ge (tgt := 100) hx hb dX2_init_82 (by decide) (fun c_3 => absurd c_3 (nI_ge (a := j) (b := 9) hlt (by omega))) (fun c_3 => ?_)
      refine lv_aload_n hx hb dX2_init_85 rfl (lv_at hl 1 rfl) ?_
      refine va_get (D := D) (ci := 2) (v := .ref a5) (C := RX2) (T := TX2) (N := 14) hx hb hts (by decide +kernel) hown hK hP 0 rfl rfl 6 (by decide) (hts _ hm11) (fun _ h9 => h9) rfl dX2_init_86 ?_
      refine lv_iload_n hx hb dX2_init_89 rfl (lv_at hl 0 rfl) ?_
      refine lv_ldc2 hx hb hown (hts _ hm16) dX2_init_90 ?_
      refine va_last (D := D) (f := bj j) hx hb hK hP hD hS 5 4 rfl rfl (nI_in hlt (by omega)) dX2_init_93 (fun H locs hP hD hS => ?_)
      rw [nI_clamp (by omega), bj_up] at hP hD
      replace hP : va_P D vwCl (mw m0 (f6 m0 a1 a2 a3 a4 a5 a6) (f6 c1 c1 c2 c3 c4 c5 c6) 0 (nI (nW w)) (fun _ => 0) (fun _ => 0) (fun _ => 0) (fun _ => 0) (bj (j + 1)) (fun _ => 0) 0 1 0 0 0 0) H := hP
      replace hD : va_D A (mw m0 (f6 m0 a1 a2 a3 a4 a5 a6) (f6 c1 c1 c2 c3 c4 c5 c6) 0 (nI (nW w)) (fun _ => 0) (fun _ => 0) (fun _ => 0) (fun _ => 0) (bj (j + 1)) (fun _ => 0) 0 1 0 0 0 0) := hD
      refine lv_iinc (v := nI (j + 1)) (lv' := [(2, .int (nI (j + 1))), (0, .ref m0)]) hx hb dX2_init_94 hl (k := 0) rfl (nI_1 j) (by decide) rfl (fun ls hl => ?_)
      refine lv_goto (tgt := 79) hx hb dX2_init_97 (by decide) ?_
      exact ih _ _ _ (j := j + 1) ⟨by omega, lv_sub hl [0, 1] rfl, hP, hD, hS⟩ (by omega)
  · skip
    refine lv_iload_n hx hb dX2_init_63 rfl (lv_at hl 1 rfl) ?_
    refine lv_bipush (v := 8) hx hb dX2_init_64 (by decide) ?_
    refine lv_icmp_gt (tgt := 73) hx hb dX2_init_66 (by decide) (fun c_4 => ?_) (fun c_4 => ?_)
    · skip
      refine lv_iconst (v := 4) hx hb dX2_init_73 (by decide) ?_
      refine W.eq (g2 := F0 m 74 ls [.int (nI (nW w)), .ref m0]) (by rw [show nW w = 4 by unfold nW; simp [c_1, c_4]]; rfl) ?_
      refine va_put (D := D) (ci := 2) (v := .int (nI (nW w))) (ty := .int) (C := RX2) (T := TX2) (N := 14) hx hb hts (by decide +kernel) tyX2 tyX2_ok nmX2 hown hK hP hD hS 0 rfl rfl 1 (by decide) (hts _ hm15) (fun _ h9 => h9) rfl (by decide +kernel) rfl rfl (Nat.le_of_ble_eq_true rfl) dX2_init_74 (fun H locs hP hD hS => ?_)
      replace hP : va_P D vwCl (mw m0 (f6 m0 a1 a2 a3 a4 a5 a6) (f6 c1 c1 c2 c3 c4 c5 c6) 0 (nI (nW w)) (fun _ => 0) (fun _ => 0) (fun _ => 0) (fun _ => 0) (fun _ => 0) (fun _ => 0) 0 1 0 0 0 0) H := hP
      replace hD : va_D A (mw m0 (f6 m0 a1 a2 a3 a4 a5 a6) (f6 c1 c1 c2 c3 c4 c5 c6) 0 (nI (nW w)) (fun _ => 0) (fun _ => 0) (fun _ => 0) (fun _ => 0) (fun _ => 0) (fun _ => 0) 0 1 0 0 0 0) := hD
      refine lv_iconst (v := 0) hx hb dX2_init_77 (by decide) ?_
      refine lv_istore_n (lv' := [(2, .int 0), (0, .ref m0), (1, .int w)]) hx hb dX2_init_78 rfl hl (by decide) rfl (fun ls hl => ?_)
      obtain ⟨j, hI⟩ : ∃ j : Nat, j ≤ 9 ∧ lv_has ls 3 [(2, .int (nI j)), (0, .ref m0)] ∧ va_P D vwCl (mw m0 (f6 m0 a1 a2 a3 a4 a5 a6) (f6 c1 c1 c2 c3 c4 c5 c6) 0 (nI (nW w)) (fun _ => 0) (fun _ => 0) (fun _ => 0) (fun _ => 0) (bj j) (fun _ => 0) 0 1 0 0 0 0) H ∧ va_D A (mw m0 (f6 m0 a1 a2 a3 a4 a5 a6) (f6 c1 c1 c2 c3 c4 c5 c6) 0 (nI (nW w)) (fun _ => 0) (fun _ => 0) (fun _ => 0) (fun _ => 0) (bj j) (fun _ => 0) 0 1 0 0 0 0) ∧ va_S A s.heap H locs := ⟨0, by omega, lv_sub hl [0, 1] rfl, by rw [bj_0]; exact hP, by rw [bj_0]; exact hD, hS⟩
      obtain ⟨d, hjd⟩ : ∃ d, j + d = 9 := ⟨9 - j, by omega⟩
      clear hl hP hD hS
      induction d generalizing H locs ls j with
      | zero =>
        obtain ⟨hjn, hl, hP, hD, hS⟩ := hI
        have hjn : j = 9 := by omega
        rw [hjn] at hl hP hD
        refine lv_iload_n hx hb dX2_init_79 rfl (lv_at hl 0 rfl) ?_
        refine lv_bipush (v := 9) hx hb dX2_init_80 (by decide) ?_
        refine lv_icmp_ge (tgt := 100) hx hb dX2_init_82 (by decide) (fun c_5 => ?_) (fun c_5 => absurd (nI_le (a := 9) (b := 9) (by omega) (by omega)) c_5)
        refine W.widen (k := 6) (n := 54) (Nat.le_of_ble_eq_true rfl) (Nat.le_of_ble_eq_true rfl) ?_
        exact W.vret hx hb hr (fun t ht hW => ⟨⟨(f6 m0 a1 a2 a3 a4 a5 a6, f6 c1 c1 c2 c3 c4 c5 c6), rfl, trivial, xB_end hP hK hN hD ht hW⟩, hS.F ht⟩) hS.2.2 dX2_init_100
      | succ d ih =>
        obtain ⟨hjn, hl, hP, hD, hS⟩ := hI
        have hlt : j < 9 := by omega
        refine lv_iload_n hx hb dX2_init_79 rfl (lv_at hl 0 rfl) ?_
        refine lv_bipush (v := 9) hx hb dX2_init_80 (by decide) ?_
        refine lv_icmp_ge (tgt := 100) hx hb dX2_init_82 (by decide) (fun c_6 => absurd c_6 (nI_ge (a := j) (b := 9) hlt (by omega))) (fun c_6 => ?_)
        refine lv_aload_n hx hb dX2_init_85 rfl (lv_at hl 1 rfl) ?_
        refine va_get (D := D) (ci := 2) (v := .ref a5) (C := RX2) (T := TX2) (N := 14) hx hb hts (by decide +kernel) hown hK hP 0 rfl rfl 6 (by decide) (hts _ hm11) (fun _ h9 => h9) rfl dX2_init_86 ?_
        refine lv_iload_n hx hb dX2_init_89 rfl (lv_at hl 0 rfl) ?_
        refine lv_ldc2 hx hb hown (hts _ hm16) dX2_init_90 ?_
        refine va_last (D := D) (f := bj j) hx hb hK hP hD hS 5 4 rfl rfl (nI_in hlt (by omega)) dX2_init_93 (fun H locs hP hD hS => ?_)
        rw [nI_clamp (by omega), bj_up] at hP hD
        replace hP : va_P D vwCl (mw m0 (f6 m0 a1 a2 a3 a4 a5 a6) (f6 c1 c1 c2 c3 c4 c5 c6) 0 (nI (nW w)) (fun _ => 0) (fun _ => 0) (fun _ => 0) (fun _ => 0) (bj (j + 1)) (fun _ => 0) 0 1 0 0 0 0) H := hP
        replace hD : va_D A (mw m0 (f6 m0 a1 a2 a3 a4 a5 a6) (f6 c1 c1 c2 c3 c4 c5 c6) 0 (nI (nW w)) (fun _ => 0) (fun _ => 0) (fun _ => 0) (fun _ => 0) (bj (j + 1)) (fun _ => 0) 0 1 0 0 0 0) := hD
        refine lv_iinc (v := nI (j + 1)) (lv' := [(2, .int (nI (j + 1))), (0, .ref m0)]) hx hb dX2_init_94 hl (k := 0) rfl (nI_1 j) (by decide) rfl (fun ls hl => ?_)
        refine lv_goto (tgt := 79) hx hb dX2_init_97 (by decide) ?_
        exact ih _ _ _ (j := j + 1) ⟨by omega, lv_sub hl [0, 1] rfl, hP, hD, hS⟩ (by omega)
    · skip
      refine lv_iload_n hx hb dX2_init_69 rfl (lv_at hl 1 rfl) ?_
      refine lv_goto (tgt := 74) hx hb dX2_init_70 (by decide) ?_
      refine W.eq (g2 := F0 m 74 ls [.int (nI (nW w)), .ref m0]) (by rw [← nW_w c_1 c_4]) ?_
      refine va_put (D := D) (ci := 2) (v := .int (nI (nW w))) (ty := .int) (C := RX2) (T := TX2) (N := 14) hx hb hts (by decide +kernel) tyX2 tyX2_ok nmX2 hown hK hP hD hS 0 rfl rfl 1 (by decide) (hts _ hm15) (fun _ h9 => h9) rfl (by decide +kernel) rfl rfl (Nat.le_of_ble_eq_true rfl) dX2_init_74 (fun H locs hP hD hS => ?_)
      replace hP : va_P D vwCl (mw m0 (f6 m0 a1 a2 a3 a4 a5 a6) (f6 c1 c1 c2 c3 c4 c5 c6) 0 (nI (nW w)) (fun _ => 0) (fun _ => 0) (fun _ => 0) (fun _ => 0) (fun _ => 0) (fun _ => 0) 0 1 0 0 0 0) H := hP
      replace hD : va_D A (mw m0 (f6 m0 a1 a2 a3 a4 a5 a6) (f6 c1 c1 c2 c3 c4 c5 c6) 0 (nI (nW w)) (fun _ => 0) (fun _ => 0) (fun _ => 0) (fun _ => 0) (fun _ => 0) (fun _ => 0) 0 1 0 0 0 0) := hD
      refine lv_iconst (v := 0) hx hb dX2_init_77 (by decide) ?_
      refine lv_istore_n (lv' := [(2, .int 0), (0, .ref m0), (1, .int w)]) hx hb dX2_init_78 rfl hl (by decide) rfl (fun ls hl => ?_)
      obtain ⟨j, hI⟩ : ∃ j : Nat, j ≤ 9 ∧ lv_has ls 3 [(2, .int (nI j)), (0, .ref m0)] ∧ va_P D vwCl (mw m0 (f6 m0 a1 a2 a3 a4 a5 a6) (f6 c1 c1 c2 c3 c4 c5 c6) 0 (nI (nW w)) (fun _ => 0) (fun _ => 0) (fun _ => 0) (fun _ => 0) (bj j) (fun _ => 0) 0 1 0 0 0 0) H ∧ va_D A (mw m0 (f6 m0 a1 a2 a3 a4 a5 a6) (f6 c1 c1 c2 c3 c4 c5 c6) 0 (nI (nW w)) (fun _ => 0) (fun _ => 0) (fun _ => 0) (fun _ => 0) (bj j) (fun _ => 0) 0 1 0 0 0 0) ∧ va_S A s.heap H locs := ⟨0, by omega, lv_sub hl [0, 1] rfl, by rw [bj_0]; exact hP, by rw [bj_0]; exact hD, hS⟩
      obtain ⟨d, hjd⟩ : ∃ d, j + d = 9 := ⟨9 - j, by omega⟩
      clear hl hP hD hS
      induction d generalizing H locs ls j with
      | zero =>
        obtain ⟨hjn, hl, hP, hD, hS⟩ := hI
        have hjn : j = 9 := by omega
        rw [hjn] at hl hP hD
        refine lv_iload_n hx hb dX2_init_79 rfl (lv_at hl 0 rfl) ?_
        refine lv_bipush (v := 9) hx hb dX2_init_80 (by decide) ?_
        refine lv_icmp_ge (tgt := 100) hx hb dX2_init_82 (by decide) (fun c_7 => ?_) (fun c_7 => absurd (nI_le (a := 9) (b := 9) (by omega) (by omega)) c_7)
        refine W.widen (k := 6) (n := 54) (Nat.le_of_ble_eq_true rfl) (Nat.le_of_ble_eq_true rfl) ?_
        exact W.vret hx hb hr (fun t ht hW => ⟨⟨(f6 m0 a1 a2 a3 a4 a5 a6, f6 c1 c1 c2 c3 c4 c5 c6), rfl, trivial, xB_end hP hK hN hD ht hW⟩, hS.F ht⟩) hS.2.2 dX2_init_100
      | succ d ih =>
        obtain ⟨hjn, hl, hP, hD, hS⟩ := hI
        have hlt : j < 9 := by omega
        refine lv_iload_n hx hb dX2_init_79 rfl (lv_at hl 0 rfl) ?_
        refine lv_bipush (v := 9) hx hb dX2_init_80 (by decide) ?_
        refine lv_icmp_ge (tgt := 100) hx hb dX2_init_82 (by decide) (fun c_8 => absurd c_8 (nI_ge (a := j) (b := 9) hlt (by omega))) (fun c_8 => ?_)
        refine lv_aload_n hx hb dX2_init_85 rfl (lv_at hl 1 rfl) ?_
        refine va_get (D := D) (ci := 2) (v := .ref a5) (C := RX2) (T := TX2) (N := 14) hx hb hts (by decide +kernel) hown hK hP 0 rfl rfl 6 (by decide) (hts _ hm11) (fun _ h9 => h9) rfl dX2_init_86 ?_
        refine lv_iload_n hx hb dX2_init_89 rfl (lv_at hl 0 rfl) ?_
        refine lv_ldc2 hx hb hown (hts _ hm16) dX2_init_90 ?_
        refine va_last (D := D) (f := bj j) hx hb hK hP hD hS 5 4 rfl rfl (nI_in hlt (by omega)) dX2_init_93 (fun H locs hP hD hS => ?_)
        rw [nI_clamp (by omega), bj_up] at hP hD
        replace hP : va_P D vwCl (mw m0 (f6 m0 a1 a2 a3 a4 a5 a6) (f6 c1 c1 c2 c3 c4 c5 c6) 0 (nI (nW w)) (fun _ => 0) (fun _ => 0) (fun _ => 0) (fun _ => 0) (bj (j + 1)) (fun _ => 0) 0 1 0 0 0 0) H := hP
        replace hD : va_D A (mw m0 (f6 m0 a1 a2 a3 a4 a5 a6) (f6 c1 c1 c2 c3 c4 c5 c6) 0 (nI (nW w)) (fun _ => 0) (fun _ => 0) (fun _ => 0) (fun _ => 0) (bj (j + 1)) (fun _ => 0) 0 1 0 0 0 0) := hD
        refine lv_iinc (v := nI (j + 1)) (lv' := [(2, .int (nI (j + 1))), (0, .ref m0)]) hx hb dX2_init_94 hl (k := 0) rfl (nI_1 j) (by decide) rfl (fun ls hl => ?_)
        refine lv_goto (tgt := 79) hx hb dX2_init_97 (by decide) ?_
        exact ih _ _ _ (j := j + 1) ⟨by omega, lv_sub hl [0, 1] rfl, hP, hD, hS⟩ (by omega)
theorem xX_blind {av : List Value} {b L : Nat} {xs : Nat → Int32} : FrameBlind (va_Pc av (fun U => va_X b L xs U U.heap)) := fun a U g mk h => ⟨h.1, va_X.moved (u := U) (U := U.calling g mk a) (Vm.Alike.refl U.vm) h.2⟩
theorem xX_at {av : List Value} {b L : Nat} {xs : Nat → Int32} {s : State} {H : Heap} (h : va_X b L xs s H) : ∀ U : State, U.heap = H → s.WarmedH U.vm → va_Pc av (fun U => va_X b L xs U U.heap) av.toArray U := fun U hU hW => ⟨rfl, by show va_X b L xs U U.heap; rw [hU]; exact h.moved hW.alike⟩
set_option maxHeartbeats 4000000 in
set_option maxRecDepth 100000 in
/-- cell(script, 0) -/
theorem l_cell (l : Launch) (b L : Nat) (xs : Nat → Int32) (hL : L ≤ 2561) : Met l yL_cell wsL_cell ({ frames := 0, cells := 0, slots := 0, locals := 0 }) (va_Pc [.ref b, .int 0] (fun U => va_X b L xs U U.heap)) (vp_Si (fun r => r = if L = 0 then 0 else xs 0)) 0 0 (fun _ => False) := by
  refine Met.ofW (cc := cL_cell) (maxL := 2) (ret := (some .int)) (by decide) rfl ?_
  intro p e s m args below meth c s₁ B hml hv
  obtain ⟨rfl, hX⟩ := hv
  have hx := B.exec
  have hb := B.bytes
  have hr := B.returns
  have hlocks := B.notSynchronized
  have hbl : b < s.heap.size := by obtain ⟨scr, h1, -⟩ := hX; exact (Array.getElem?_eq_some_iff.mp h1).1
  have hS : va_S (fun _ : Nat => False) s.heap s.heap [] := va_S.rf
  have hl := lv_entry ([.ref b, .int 0]) (n := 2) (Nat.le_of_ble_eq_true rfl)
  rw [lg_entry_eq]
  generalize (lg_sl ([.ref b, .int 0]) ++ List.replicate (2 - (lg_sl ([.ref b, .int 0])).length) Slot.unset).toArray = ls at hl ⊢
  replace hl : lv_has ls 2 [(0, .ref b), (1, .int 0)] := hl
  refine lv_iload_n hx hb dL_cell_0 rfl (lv_at hl 1 rfl) ?_
  refine lv_aload_n hx hb dL_cell_1 rfl (lv_at hl 0 rfl) ?_
  refine va_slen hx hb hX hbl (fun h => h) hS dL_cell_2 ?_
  refine lv_icmp_ge (tgt := 12) hx hb dL_cell_3 (by decide) (fun c_1 => ?_) (fun c_1 => ?_)
  · skip
    refine lv_iconst (v := 0) hx hb dL_cell_12 (by decide) ?_
    exact W.iret hx hb hr (fun t ht hW => ⟨_, rfl, by rw [if_pos (by rcases Nat.eq_zero_or_pos L with z | z; exact z; exact absurd c_1 (nI_ge (a := 0) (b := L) z (by omega)))], ht⟩) (fun q h => absurd h List.not_mem_nil) dL_cell_13
  · skip
    refine lv_aload_n hx hb dL_cell_6 rfl (lv_at hl 0 rfl) ?_
    refine lv_iload_n hx hb dL_cell_7 rfl (lv_at hl 1 rfl) ?_
    have hL0 : 0 < L := by rcases Nat.eq_zero_or_pos L with z | z; exact absurd (nI_le (a := L) (b := 0) (by omega) (by omega)) c_1; exact z
    refine va_sld hx hb hX hbl (fun h => h) hS (nI_in (c := 0) hL0 (by omega)) dL_cell_8 ?_
    refine lv_goto (tgt := 13) hx hb dL_cell_9 (by decide) ?_
    exact W.iret hx hb hr (fun t ht hW => ⟨_, rfl, by rw [if_neg (by omega)]; rfl, ht⟩) (fun q h => absurd h List.not_mem_nil) dL_cell_13
