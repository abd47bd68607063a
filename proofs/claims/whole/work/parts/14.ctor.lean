/-! ===== constructors ===== -/
section WJ
variable {D : va_G} {cl : List vw_C} {a a' b b' m : va_W} {H H1 : Heap} {A : Nat → Prop}
theorem w_PL (h : va_P D cl (a ++ b) H) : va_P D cl a H := fun k q hk => h k q (by rw [List.getElem?_append_left (List.getElem?_eq_some_iff.mp hk).1]; exact hk)
theorem w_PR (h : va_P D cl (a ++ b) H) : va_P D cl b H := fun k q hk => h (a.length + k) q (by rw [List.getElem?_append_right (Nat.le_add_right _ _), Nat.add_sub_cancel_left]; exact hk)
theorem w_DL (h : va_D A (a ++ b)) : va_D A a := h.by id (fun k q hk => by show (a ++ b)[k]? = some q; rw [List.getElem?_append_left (List.getElem?_eq_some_iff.mp hk).1]; exact hk) (fun _ _ _ _ e => e)
theorem w_DR (h : va_D A (a ++ b)) : va_D A b := h.by (fun k => a.length + k) (fun k q hk => by show (a ++ b)[a.length + k]? = some q; rw [List.getElem?_append_right (Nat.le_add_right _ _), Nat.add_sub_cancel_left]; exact hk) (fun i j _ _ e => by have e9 : a.length + i = a.length + j := e; omega)
theorem w_apL (hP : va_P D cl (a ++ b) H) (hD : va_D A (a ++ b)) (k : Nat) (q : Nat × va_E) (hk : a[k]? = some q) : q.1 < H.size ∧ ¬ va_A b H.size q.1 := by
  have hl := (w_PL hP k q hk).lt
  refine ⟨hl, fun h => ?_⟩
  rcases h with ⟨k2, e, h⟩ | h
  · have hka := (List.getElem?_eq_some_iff.mp hk).1
    have := hD.1 k (a.length + k2) q (q.1, e) (by rw [List.getElem?_append_left hka]; exact hk) (by rw [List.getElem?_append_right (Nat.le_add_right _ _), Nat.add_sub_cancel_left]; exact h) rfl
    omega
  · omega
theorem w_apR (hP : va_P D cl (a ++ b) H) (hD : va_D A (a ++ b)) (k : Nat) (q : Nat × va_E) (hk : b[k]? = some q) : q.1 < H.size ∧ ¬ va_A a H.size q.1 := by
  have hl := (w_PR hP k q hk).lt
  refine ⟨hl, fun h => ?_⟩
  rcases h with ⟨k2, e, h⟩ | h
  · have hka := (List.getElem?_eq_some_iff.mp h).1
    have := hD.1 (a.length + k) k2 q (q.1, e) (by rw [List.getElem?_append_right (Nat.le_add_right _ _), Nat.add_sub_cancel_left]; exact hk) (by rw [List.getElem?_append_left hka]; exact h) rfl
    omega
  · omega
/-- behind a call that had the world's right part -/
theorem w_joinR (hP : va_P D cl (a ++ b) H) (hD : va_D A (a ++ b)) (hk : ∀ q : Nat, q < H.size → ¬ va_A b H.size q → H1[q]? = H[q]?) (hF : ∀ q, va_A b H.size q → A q) (hP1 : va_P D cl b' H1) (hD1 : va_D (va_A b H.size) b') : va_P D cl (a ++ b') H1 ∧ va_D A (a ++ b') := by
  refine ⟨va_P.app (fun k q hq => ?_) hP1, va_D.app (w_DL hD) (hD1.weaken (fun k q _ h => hF q.1 h)) (fun i j x y hx hy hxy => ?_)⟩
  · obtain ⟨g1, g2⟩ := w_apL hP hD k q hq
    exact (w_PL hP k q hq).kept (hk q.1 g1 g2)
  · exact (w_apL hP hD i x hx).2 (by rw [hxy]; exact hD1.2 j y hy)
/-- behind a call that had its left part -/
theorem w_joinL (hP : va_P D cl (a ++ b) H) (hD : va_D A (a ++ b)) (hk : ∀ q : Nat, q < H.size → ¬ va_A a H.size q → H1[q]? = H[q]?) (hF : ∀ q, va_A a H.size q → A q) (hP1 : va_P D cl a' H1) (hD1 : va_D (va_A a H.size) a') : va_P D cl (a' ++ b) H1 ∧ va_D A (a' ++ b) := by
  refine ⟨va_P.app hP1 (fun k q hq => ?_), va_D.app (hD1.weaken (fun k q _ h => hF q.1 h)) (w_DR hD) (fun i j x y hx hy hxy => ?_)⟩
  · obtain ⟨g1, g2⟩ := w_apR hP hD k q hq
    exact (w_PR hP k q hq).kept (hk q.1 g1 g2)
  · exact (w_apR hP hD j y hy).2 (by rw [← hxy]; exact hD1.2 i x hx)
theorem w_joinLL (hP : va_P D cl ((a ++ b) ++ m) H) (hD : va_D A ((a ++ b) ++ m)) (hk : ∀ q : Nat, q < H.size → ¬ va_A a H.size q → H1[q]? = H[q]?) (hF : ∀ q, va_A a H.size q → A q) (hP1 : va_P D cl a' H1) (hD1 : va_D (va_A a H.size) a') : va_P D cl ((a' ++ b) ++ m) H1 ∧ va_D A ((a' ++ b) ++ m) := by
  rw [List.append_assoc] at hP hD ⊢
  exact w_joinL hP hD hk hF hP1 hD1
end WJ
/-- how many wheels -/
def nW (w : Int32) : Nat := if w < 2 then 4 else if 8 < w then 4 else w.toNatClampNeg
theorem nW_in (w : Int32) : 2 ≤ nW w ∧ nW w ≤ 8 := by
  unfold nW
  by_cases h1 : w < 2
  · rw [if_pos h1]; omega
  · by_cases h2 : 8 < w
    · rw [if_neg h1, if_pos h2]; omega
    · rw [if_neg h1, if_neg h2]
      rw [Int32.lt_iff_toInt_lt] at h1 h2
      have e2 : (2 : Int32).toInt = 2 := rfl
      have e8 : (8 : Int32).toInt = 8 := rfl
      have e : w.toNatClampNeg = w.toInt.toNat := rfl
      rw [e]; omega
theorem nW_w {w : Int32} (h1 : ¬ w < 2) (h2 : ¬ 8 < w) : w = nI (nW w) := by
  have h := nW_in w
  have e0 : nW w = w.toNatClampNeg := by unfold nW; rw [if_neg h1, if_neg h2]
  apply Int32.toInt_inj.mp
  rw [nI_toInt (by omega), e0]
  have e : w.toNatClampNeg = w.toInt.toNat := rfl
  rw [Int32.lt_iff_toInt_lt] at h1
  have e2 : (2 : Int32).toInt = 2 := rfl
  rw [e]; omega
/-- the car while its wheels are being made: j of them -/
def cwj (h0 hw : Nat) (cW : ClassId) (n j : Nat) (q : Nat → Nat) (g : Nat → Option Nat) (gr : Int32) : va_W :=
  (h0, .inr (1, [.ref hw, .long 0, .int 0, .int gr, .int 0, .int 0])) :: (hw, .inl (cW, n, .inr (.inr (.inr (.inr g))))) :: cL j q (cE (fun _ => 0) (fun _ => 0) (fun _ => 0) (fun _ => 0) (fun _ => 100) (fun _ => 0))
theorem cwj_push (h0 hw : Nat) (cW : ClassId) (n j : Nat) (q : Nat → Nat) (g : Nat → Option Nat) (gr : Int32) (a : Nat) : cwj h0 hw cW n j q g gr ++ [(a, .inr (0, [.long 0, .int 0, .int 0, .long 0, .long 100, .double 0]))] = cwj h0 hw cW n (j + 1) (va_up q j a) g gr := by
  unfold cwj
  rw [List.cons_append, List.cons_append]
  exact congrArg (fun z => _ :: _ :: z) cL_push
theorem cwj_last (h0 hw : Nat) (cW : ClassId) (n j : Nat) (q : Nat → Nat) (g : Nat → Option Nat) (gr : Int32) (a : Nat) : (cwj h0 hw cW n (j + 1) (va_up q j a) g gr)[j + 2]? = some (a, .inr (0, [.long 0, .int 0, .int 0, .long 0, .long 100, .double 0])) := by
  unfold cwj
  rw [List.getElem?_cons_succ, List.getElem?_cons_succ, cL_at (Nat.lt_succ_self j), va_up_self]
theorem cwj_cw (h0 hw : Nat) (cW : ClassId) (n : Nat) (q : Nat → Nat) (g : Nat → Option Nat) (bo : Nat → Int64) (hb : ∀ k, 1 ≤ k → k ≤ n → bo k = 100) : cwj h0 hw cW n n q g 1 = cw h0 hw cW n q g (fun _ => 0) (fun _ => 0) (fun _ => 0) (fun _ => 0) bo (fun _ => 0) 0 0 1 0 0 := by
  unfold cwj cw cL
  congr 2
  apply List.map_congr_left
  intro i hi
  have h9 := hb (i + 1) (by omega) (by have := List.mem_range.mp hi; omega)
  simp only [cE, h9]
theorem g_up {q : Nat → Nat} {g : Nat → Option Nat} {j a : Nat} (h : ∀ i, i < j → g i = some (q i)) : ∀ i, i < j + 1 → va_up g j (some a) i = some (va_up q j a i) := by
  intro i hi
  by_cases e : i = j
  · subst e; rw [va_up_self, va_up_self]
  · rw [va_up_ne _ _ e, va_up_ne _ _ e]; exact h i (by omega)
theorem va_AO_same {C : String} {u U : State} (h : u.vm = U.vm) (hO : va_AO C u) : va_AO C U := va_AO.moved (by rw [h]; exact Vm.Alike.refl _) hO
set_option maxHeartbeats 4000000 in
set_option maxRecDepth 100000 in
/-- Wheel() -/
theorem c0_init (l : Launch) (D : va_G) (qq sz : Nat) : Met l yX0_init wsX0_init ({ frames := 1, cells := 0, slots := 0, locals := 12 }) (va_Pc [.ref qq] (xW D [] [(qq, .inr (0, [.long 0, .int 0, .int 0, .long 0, .long 0, .double 0]))] sz)) (va_Qv (fun _ : Unit => True) (fun _ => xB D [] (va_A [(qq, .inr (0, [.long 0, .int 0, .int 0, .long 0, .long 0, .double 0]))] sz) [(qq, .inr (0, [.long 0, .int 0, .int 0, .long 0, .long 100, .double 0]))]) (va_A [(qq, .inr (0, [.long 0, .int 0, .int 0, .long 0, .long 0, .double 0]))] sz)) 0 0 (va_A [(qq, .inr (0, [.long 0, .int 0, .int 0, .long 0, .long 0, .double 0]))] sz) := by
  refine Met.ofW (cc := cX0_init) (maxL := 1) (ret := none) (by decide) rfl ?_
  intro p e s m args below meth c s₁ B hml hv
  obtain ⟨rfl, hsz, ⟨hP, hK, hN⟩, hDt⟩ := hv
  have hx := B.exec
  have hb := B.bytes
  have hr := B.returns
  have hts := atoms_spec (ws := wsX0_init) B.pre
  have hown : s.vm.findClass RX0 = some m.cls := findClass_of_methodNamed B.named
  have hlocks := B.notSynchronized
  have hin : meth.name = "<init>" := (name_of_methodNamed B.named B.method).1
  have hm1 : (.methodLink RX0 3 objectInit : Cond) ∈ wsX0_init := by decide +kernel
  have hm2 : (.instanceMethod objectInit : Cond) ∈ wsX0_init := by decide +kernel
  have hm3 : (.code objectInit ⟨#[0xb1]⟩ 1 none : Cond) ∈ wsX0_init := by decide +kernel
  have hm4 : (.fieldLink RX0 9 "GearBrake$Wheel" "phase" "I" : Cond) ∈ wsX0_init := by decide +kernel
  have hm5 : (.constantLong RX0 15 (100) : Cond) ∈ wsX0_init := by decide +kernel
  have hm6 : (.fieldLink RX0 17 "GearBrake$Wheel" "bound" "J" : Cond) ∈ wsX0_init := by decide +kernel
  subst hsz
  have hD := hDt.self (sz := s.heap.size)
  generalize hAe : va_A [(qq, .inr (0, [.long 0, .int 0, .int 0, .long 0, .long 0, .double 0]))] s.heap.size = A at hD ⊢
  have hS : va_S A s.heap s.heap [] := va_S.rf
  have hl := lv_entry ([.ref qq]) (n := 1) (Nat.le_of_ble_eq_true rfl)
  rw [lg_entry_eq]
  generalize (lg_sl ([.ref qq]) ++ List.replicate (1 - (lg_sl ([.ref qq])).length) Slot.unset).toArray = ls at hl ⊢
  replace hl : lv_has ls 1 [(0, .ref qq)] := hl
  refine lv_aload_n hx hb dX0_init_0 rfl (lv_at hl 0 rfl) ?_
  refine W.objInit hx hb hown (hts _ hm1) (hts _ hm2) (hts _ hm3) rfl (by rw [hml]; exact hl.1) rfl dX0_init_1 (Nat.le_of_ble_eq_true rfl) (Nat.le_of_ble_eq_true rfl) ?_
  refine W.eq (g2 := F0 m 4 ls []) rfl ?_
  refine lv_aload_n hx hb dX0_init_4 rfl (lv_at hl 0 rfl) ?_
  refine lv_iconst (v := 0) hx hb dX0_init_5 (by decide) ?_
  refine va_put (D := D) (ci := 0) (v := .int 0) (ty := .int) (C := RX0) (T := TX0) (N := 6) hx hb hts (by decide +kernel) tyX0 tyX0_ok nmX0 hown hK hP hD hS 0 rfl rfl 2 (by decide) (hts _ hm4) (fun _ h9 => h9) rfl (by decide +kernel) rfl rfl (Nat.le_of_ble_eq_true rfl) dX0_init_6 (fun H locs hP hD hS => ?_)
  replace hP : va_P D vwCl [(qq, .inr (0, [.long 0, .int 0, .int 0, .long 0, .long 0, .double 0]))] H := hP
  replace hD : va_D A [(qq, .inr (0, [.long 0, .int 0, .int 0, .long 0, .long 0, .double 0]))] := hD
  refine lv_aload_n hx hb dX0_init_9 rfl (lv_at hl 0 rfl) ?_
  refine lv_ldc2 hx hb hown (hts _ hm5) dX0_init_10 ?_
  refine va_put (D := D) (ci := 0) (v := .long 100) (ty := .long) (C := RX0) (T := TX0) (N := 6) hx hb hts (by decide +kernel) tyX0 tyX0_ok nmX0 hown hK hP hD hS 0 rfl rfl 4 (by decide) (hts _ hm6) (fun _ h9 => h9) rfl (by decide +kernel) rfl rfl (Nat.le_of_ble_eq_true rfl) dX0_init_13 (fun H locs hP hD hS => ?_)
  replace hP : va_P D vwCl [(qq, .inr (0, [.long 0, .int 0, .int 0, .long 0, .long 100, .double 0]))] H := hP
  replace hD : va_D A [(qq, .inr (0, [.long 0, .int 0, .int 0, .long 0, .long 100, .double 0]))] := hD
  exact W.vret hx hb hr (fun t ht hW => ⟨⟨(), rfl, trivial, xB_end hP hK hN hD ht hW⟩, hS.F ht⟩) hS.2.2 dX0_init_16
set_option maxHeartbeats 4000000 in
set_option maxRecDepth 100000 in
/-- GearBrake(int): so many wheels -/
theorem c1_init (l : Launch) (D : va_G) (h0 sz : Nat) (w : Int32) : Met l yX1_init wsX1_init ({ frames := 2, cells := 9, slots := 56, locals := 40 }) (va_Pc [.ref h0, .int w] (fun U => xW D [] [(h0, .inr (1, [.null, .long 0, .int 0, .int 0, .int 0, .int 0]))] sz U ∧ va_AO RX0 U)) (va_Qv (fun u : Nat × ClassId × (Nat → Nat) × (Nat → Option Nat) => ∀ i, i < nW w → u.2.2.2 i = some (u.2.2.1 i)) (fun u => xB D [(u.2.1, .object RX0)] (va_A [(h0, .inr (1, [.null, .long 0, .int 0, .int 0, .int 0, .int 0]))] sz) (cwj h0 u.1 u.2.1 (nW w) (nW w) u.2.2.1 u.2.2.2 1)) (va_A [(h0, .inr (1, [.null, .long 0, .int 0, .int 0, .int 0, .int 0]))] sz)) 9 56 (va_A [(h0, .inr (1, [.null, .long 0, .int 0, .int 0, .int 0, .int 0]))] sz) := by
  obtain ⟨hn2, hn8⟩ := nW_in w
  refine Met.ofW (cc := cX1_init) (maxL := 4) (ret := none) (by decide) rfl ?_
  intro p e s m args below meth c s₁ B hml hv
  obtain ⟨rfl, ⟨hsz, ⟨hP, hK, hN⟩, hDt⟩, hO⟩ := hv
  have hx := B.exec
  have hb := B.bytes
  have hr := B.returns
  have hts := atoms_spec (ws := wsX1_init) B.pre
  have hown : s.vm.findClass RX1 = some m.cls := findClass_of_methodNamed B.named
  have hlocks := B.notSynchronized
  have hin : meth.name = "<init>" := (name_of_methodNamed B.named B.method).1
  have hm1 : (.methodLink RX1 1 objectInit : Cond) ∈ wsX1_init := by decide +kernel
  have hm2 : (.instanceMethod objectInit : Cond) ∈ wsX1_init := by decide +kernel
  have hm3 : (.code objectInit ⟨#[0xb1]⟩ 1 none : Cond) ∈ wsX1_init := by decide +kernel
  have hm4 : (.classLink RX1 9 RX0 : Cond) ∈ wsX1_init := by decide +kernel
  have hm5 : (.fieldLink RX1 11 "GearBrake" "wheels" "[LGearBrake$Wheel;" : Cond) ∈ wsX1_init := by decide +kernel
  have hm6 : (.fieldLink RX1 16 "GearBrake" "gear" "I" : Cond) ∈ wsX1_init := by decide +kernel
  have hm7 : (.instantiable RX0 6 : Cond) ∈ wsX1_init := by decide +kernel
  have hm8 : (.initialized RX0 : Cond) ∈ wsX1_init := by decide +kernel
  have hm9 : (.instanceMethod yX0_init : Cond) ∈ wsX1_init := by decide +kernel
  subst hsz
  have hD := hDt.self (sz := s.heap.size)
  generalize hAe : va_A [(h0, .inr (1, [.null, .long 0, .int 0, .int 0, .int 0, .int 0]))] s.heap.size = A at hD ⊢
  have hA : ∀ q : Nat, s.heap.size ≤ q → A q := fun q h => by rw [← hAe]; exact Or.inr h
  have hS : va_S A s.heap s.heap [] := va_S.rf
  have hl := lv_entry ([.ref h0, .int w]) (n := 4) (Nat.le_of_ble_eq_true rfl)
  rw [lg_entry_eq]
  generalize (lg_sl ([.ref h0, .int w]) ++ List.replicate (4 - (lg_sl ([.ref h0, .int w])).length) Slot.unset).toArray = ls at hl ⊢
  replace hl : lv_has ls 4 [(0, .ref h0), (1, .int w)] := hl
  refine lv_aload_n hx hb dX1_init_0 rfl (lv_at hl 0 rfl) ?_
  refine W.objInit hx hb hown (hts _ hm1) (hts _ hm2) (hts _ hm3) rfl (by rw [hml]; exact hl.1) rfl dX1_init_1 (Nat.le_of_ble_eq_true rfl) (Nat.le_of_ble_eq_true rfl) ?_
  refine W.eq (g2 := F0 m 4 ls []) rfl ?_
  refine lv_iload_n hx hb dX1_init_4 rfl (lv_at hl 1 rfl) ?_
  refine lv_iconst (v := 2) hx hb dX1_init_5 (by decide) ?_
  refine lv_icmp_lt (tgt := 19) hx hb dX1_init_6 (by decide) (fun c_1 => ?_) (fun c_1 => ?_)
  · skip
    refine lv_iconst (v := 0) hx hb dX1_init_19 (by decide) ?_
    refine lv_istore_n (lv' := [(2, .int 0), (0, .ref h0), (1, .int w)]) hx hb dX1_init_20 rfl hl (by decide) rfl (fun ls hl => ?_)
    refine lv_aload_n hx hb dX1_init_21 rfl (lv_at hl 1 rfl) ?_
    refine lv_iload_n hx hb dX1_init_22 rfl (lv_at hl 0 rfl) ?_
    refine lv_if_eq (tgt := 30) hx hb dX1_init_23 (by decide) (fun c_2 => ?_) (fun c_2 => absurd (by decide) c_2)
    refine lv_iconst (v := 4) hx hb dX1_init_30 (by decide) ?_
    refine W.eq (g2 := F0 m 31 ls [.int (nI (nW w)), .ref h0]) (by rw [show nW w = 4 by unfold nW; simp [c_1]]; rfl) ?_
    refine va_newq (N' := nW w) hx hb hown (hts _ hm4) hO hK hP hD hS hA (nI_pos (by omega)) (nI_clamp (by omega)) (by omega) (Nat.le_of_ble_eq_true rfl) (show 0 + nW w ≤ 56 by omega) dX1_init_31 (fun hw cW H hK hP hD hS => ?_)
    replace hP : va_P D vwCl [(h0, .inr (1, [.null, .long 0, .int 0, .int 0, .int 0, .int 0])), (hw, .inl (cW, nW w, .inr (.inr (.inr (.inr (fun _ => none))))))] H := hP
    replace hD : va_D A [(h0, .inr (1, [.null, .long 0, .int 0, .int 0, .int 0, .int 0])), (hw, .inl (cW, nW w, .inr (.inr (.inr (.inr (fun _ => none))))))] := hD
    replace hK : va_K D vwCl [(cW, .object RX0)] s := hK
    refine va_putF (D := D) (ci := 1) (v := .ref hw) (ty := .array (.object "GearBrake$Wheel")) (C := RX1) (T := TX1) (N := 6) hx hb hts (by decide +kernel) tyX1 tyX1_ok nmX1 hown hK hP hD hS 0 rfl rfl 0 (by decide) (hts _ hm5) (fun _ h9 => h9) rfl hin rfl (by decide +kernel) rfl rfl (Nat.le_of_ble_eq_true rfl) dX1_init_34 (fun H locs hP hD hS => ?_)
    replace hP : va_P D vwCl (cwj h0 hw cW (nW w) 0 (fun _ => 0) (fun _ => none) 0) H := hP
    replace hD : va_D A (cwj h0 hw cW (nW w) 0 (fun _ => 0) (fun _ => none) 0) := hD
    refine lv_iconst (v := 0) hx hb dX1_init_37 (by decide) ?_
    refine lv_istore_n (lv' := [(3, .int 0), (2, .int 0), (0, .ref h0), (1, .int w)]) hx hb dX1_init_38 rfl hl (by decide) rfl (fun ls hl => ?_)
    obtain ⟨j, q, g, hI⟩ : ∃ (j : Nat) (q : Nat → Nat) (g : Nat → Option Nat), j ≤ nW w ∧ lv_has ls 4 [(3, .int (nI j)), (0, .ref h0)] ∧ va_P D vwCl (cwj h0 hw cW (nW w) j q g 0) H ∧ va_D A (cwj h0 hw cW (nW w) j q g 0) ∧ va_S A s.heap H locs ∧ ∀ i, i < j → g i = some (q i) := ⟨0, fun _ => 0, fun _ => none, Nat.zero_le _, lv_sub hl [0, 2] rfl, hP, hD, hS, fun i hi => absurd hi (Nat.not_lt_zero i)⟩
    obtain ⟨d, hjd⟩ : ∃ d, j + d = nW w := ⟨nW w - j, by omega⟩
    obtain ⟨cc0, ss0, hcc, hss, hcs⟩ : ∃ cc0 ss0 : Nat, cc0 = 1 + j ∧ ss0 = nW w + 6 * j ∧ True := ⟨1 + j, nW w + 6 * j, rfl, rfl, trivial⟩
    refine W.widen (k := cc0) (n := ss0) (by omega) (by omega) ?_
    clear hl hP hD hS
    induction d generalizing H locs ls j q g cc0 ss0 with
    | zero =>
      obtain ⟨hjn, hl, hP, hD, hS, hg⟩ := hI
      have hjn : j = nW w := by omega
      subst hcc
      subst hss
      rw [hjn] at hl hP hD hg
      refine lv_iload_n hx hb dX1_init_39 rfl (lv_at hl 0 rfl) ?_
      refine lv_aload_n hx hb dX1_init_40 rfl (lv_at hl 1 rfl) ?_
      refine va_get (D := D) (ci := 1) (v := .ref hw) (C := RX1) (T := TX1) (N := 6) hx hb hts (by decide +kernel) hown hK hP 0 rfl rfl 0 (by decide) (hts _ hm5) (fun _ h9 => h9) rfl dX1_init_41 ?_
      refine va_alen (D := D) (x := (nW w, .inr (.inr (.inr (.inr g))))) (v := nI (nW w)) hx hb hK hP 1 0 rfl rfl rfl dX1_init_44 ?_
      refine lv_icmp_ge (tgt := 67) hx hb dX1_init_45 (by decide) (fun c_3 => ?_) (fun c_3 => absurd (nI_le (Nat.le_refl _) (by omega)) c_3)
      refine lv_aload_n hx hb dX1_init_67 rfl (lv_at hl 1 rfl) ?_
      refine lv_iconst (v := 1) hx hb dX1_init_68 (by decide) ?_
      refine va_put (D := D) (ci := 1) (v := .int 1) (ty := .int) (C := RX1) (T := TX1) (N := 6) hx hb hts (by decide +kernel) tyX1 tyX1_ok nmX1 hown hK hP hD hS 0 rfl rfl 3 (by decide) (hts _ hm6) (fun _ h9 => h9) rfl (by decide +kernel) rfl rfl (Nat.le_of_ble_eq_true rfl) dX1_init_69 (fun H locs hP hD hS => ?_)
      replace hP : va_P D vwCl (cwj h0 hw cW (nW w) (nW w) q g 1) H := hP
      replace hD : va_D A (cwj h0 hw cW (nW w) (nW w) q g 1) := hD
      refine W.widen (k := 9) (n := 56) (by omega) (by omega) ?_
      exact W.vret hx hb hr (fun t ht hW => ⟨⟨(hw, cW, q, g), rfl, hg, xB_end hP hK hN hD ht hW⟩, hS.F ht⟩) hS.2.2 dX1_init_72
    | succ d ih =>
      obtain ⟨hjn, hl, hP, hD, hS, hg⟩ := hI
      have hlt : j < nW w := by omega
      refine lv_iload_n hx hb dX1_init_39 rfl (lv_at hl 0 rfl) ?_
      refine lv_aload_n hx hb dX1_init_40 rfl (lv_at hl 1 rfl) ?_
      refine va_get (D := D) (ci := 1) (v := .ref hw) (C := RX1) (T := TX1) (N := 6) hx hb hts (by decide +kernel) hown hK hP 0 rfl rfl 0 (by decide) (hts _ hm5) (fun _ h9 => h9) rfl dX1_init_41 ?_
      refine va_alen (D := D) (x := (nW w, .inr (.inr (.inr (.inr g))))) (v := nI (nW w)) hx hb hK hP 1 0 rfl rfl rfl dX1_init_44 ?_
      refine lv_icmp_ge (tgt := 67) hx hb dX1_init_45 (by decide) (fun c_4 => absurd c_4 (nI_ge hlt (by omega))) (fun c_4 => ?_)
      refine lv_aload_n hx hb dX1_init_48 rfl (lv_at hl 1 rfl) ?_
      refine va_get (D := D) (ci := 1) (v := .ref hw) (C := RX1) (T := TX1) (N := 6) hx hb hts (by decide +kernel) hown hK hP 0 rfl rfl 0 (by decide) (hts _ hm5) (fun _ h9 => h9) rfl dX1_init_49 ?_
      refine lv_iload_n hx hb dX1_init_52 rfl (lv_at hl 0 rfl) ?_
      refine va_new (ci := 0) (fs := [.long 0, .int 0, .int 0, .long 0, .long 0, .double 0]) (C := RX0) (T := TX0) (N := 6) hx hb hts (by decide +kernel) tyX0 tyX0_ok hown (hts _ hm4) (hts _ hm7) (hts _ hm8) hK hP hD hS hA rfl (fun j hj => by rcases (show j = 0 ∨ j = 1 ∨ j = 2 ∨ j = 3 ∨ j = 4 ∨ j = 5 by omega) with rfl | rfl | rfl | rfl | rfl | rfl <;> rfl) (show cc0 + 1 ≤ 9 by omega) (show ss0 + 6 ≤ 56 by omega) dX1_init_53 (fun qn H hP hD hS => ?_)
      refine lv_dup hx hb dX1_init_56 rfl ?_
      have hFc : ∀ z, va_A [(qn, .inr (0, [.long 0, .int 0, .int 0, .long 0, .long 0, .double 0]))] H.size z → A z := xF (w_DR hD) hS hA
      refine va_callv (va_runIN (As := []) (rest := [.ref qn, .int (nI j), .ref hw]) ⟨hx, hb, hml, hown, hts⟩ (c0_init l D qn _) ⟨va_cnB 0 hts gX1_init_X0_init_n15 rfl rfl rfl hN.2.2.2.2.2.2.1 (hts _ hm8) (by decide +kernel) ⟨Nat.le_of_ble_eq_true rfl, Nat.le_of_ble_eq_true rfl⟩, rfl, (hts _ hm9)⟩ ⟨xW_blind, xW_at (w_PR hP) (hK.sub [] rfl) hN (w_DR hD)⟩ rfl rfl hl.1 rfl (lv_room (Nat.le_of_ble_eq_true rfl)) dX1_init_57 ⟨show cc0 + 1 + 0 ≤ 9 by omega, show ss0 + 6 + 0 ≤ 56 by omega⟩) hS (fun z _ h => hFc z h) hFc (fun u t H1 locs ht hvm hpo hB hz1 hk1 hS => ?_)
      have hP1 : va_P D vwCl [(qn, .inr (0, [.long 0, .int 0, .int 0, .long 0, .long 100, .double 0]))] H1 := by rw [← ht]; exact hB.1.1
      obtain ⟨hP2, hD2⟩ := w_joinR hP hD hk1 hFc hP1 hB.2
      clear hP hD
      have hP := w_P (cwj_push _ _ _ _ _ _ _ _ _) hP2
      have hD := w_D (cwj_push _ _ _ _ _ _ _ _ _) hD2
      clear hP2 hD2 hP1 hB hz1 hk1 ht hvm hFc
      clear hpo
      refine va_astq (D := D) (r := (RX0, TX0, 6)) hx hb hK hP hD hS 1 0 (j + 2) 0 rfl rfl (cwj_last _ _ _ _ _ _ _ _ _) rfl (nI_in hlt (by omega)) dX1_init_60 (fun H locs hP hD hS => ?_)
      rw [nI_clamp (by omega)] at hP hD
      replace hP : va_P D vwCl (cwj h0 hw cW (nW w) (j + 1) (va_up q j qn) (va_up g j (some qn)) 0) H := hP
      replace hD : va_D A (cwj h0 hw cW (nW w) (j + 1) (va_up q j qn) (va_up g j (some qn)) 0) := hD
      refine lv_iinc (v := nI (j + 1)) (lv' := [(3, .int (nI (j + 1))), (0, .ref h0)]) hx hb dX1_init_61 hl (k := 0) rfl (nI_1 j) (by decide) rfl (fun ls hl => ?_)
      refine lv_goto (tgt := 39) hx hb dX1_init_64 (by decide) ?_
      exact ih _ _ _ (j := j + 1) (q := va_up q j qn) (g := va_up g j (some qn)) (cc0 := cc0 + 1) (ss0 := ss0 + 6) ⟨by omega, lv_sub hl [0, 1] rfl, hP, hD, hS, g_up hg⟩ (by omega) (by omega) (by omega)
  · skip
    refine lv_iload_n hx hb dX1_init_9 rfl (lv_at hl 1 rfl) ?_
    refine lv_bipush (v := 8) hx hb dX1_init_10 (by decide) ?_
    refine lv_icmp_gt (tgt := 19) hx hb dX1_init_12 (by decide) (fun c_5 => ?_) (fun c_5 => ?_)
    · skip
      refine lv_iconst (v := 0) hx hb dX1_init_19 (by decide) ?_
      refine lv_istore_n (lv' := [(2, .int 0), (0, .ref h0), (1, .int w)]) hx hb dX1_init_20 rfl hl (by decide) rfl (fun ls hl => ?_)
      refine lv_aload_n hx hb dX1_init_21 rfl (lv_at hl 1 rfl) ?_
      refine lv_iload_n hx hb dX1_init_22 rfl (lv_at hl 0 rfl) ?_
      refine lv_if_eq (tgt := 30) hx hb dX1_init_23 (by decide) (fun c_6 => ?_) (fun c_6 => absurd (by decide) c_6)
      refine lv_iconst (v := 4) hx hb dX1_init_30 (by decide) ?_
      refine W.eq (g2 := F0 m 31 ls [.int (nI (nW w)), .ref h0]) (by rw [show nW w = 4 by unfold nW; simp [c_1, c_5]]; rfl) ?_
      refine va_newq (N' := nW w) hx hb hown (hts _ hm4) hO hK hP hD hS hA (nI_pos (by omega)) (nI_clamp (by omega)) (by omega) (Nat.le_of_ble_eq_true rfl) (show 0 + nW w ≤ 56 by omega) dX1_init_31 (fun hw cW H hK hP hD hS => ?_)
      replace hP : va_P D vwCl [(h0, .inr (1, [.null, .long 0, .int 0, .int 0, .int 0, .int 0])), (hw, .inl (cW, nW w, .inr (.inr (.inr (.inr (fun _ => none))))))] H := hP
      replace hD : va_D A [(h0, .inr (1, [.null, .long 0, .int 0, .int 0, .int 0, .int 0])), (hw, .inl (cW, nW w, .inr (.inr (.inr (.inr (fun _ => none))))))] := hD
      replace hK : va_K D vwCl [(cW, .object RX0)] s := hK
      refine va_putF (D := D) (ci := 1) (v := .ref hw) (ty := .array (.object "GearBrake$Wheel")) (C := RX1) (T := TX1) (N := 6) hx hb hts (by decide +kernel) tyX1 tyX1_ok nmX1 hown hK hP hD hS 0 rfl rfl 0 (by decide) (hts _ hm5) (fun _ h9 => h9) rfl hin rfl (by decide +kernel) rfl rfl (Nat.le_of_ble_eq_true rfl) dX1_init_34 (fun H locs hP hD hS => ?_)
      replace hP : va_P D vwCl (cwj h0 hw cW (nW w) 0 (fun _ => 0) (fun _ => none) 0) H := hP
      replace hD : va_D A (cwj h0 hw cW (nW w) 0 (fun _ => 0) (fun _ => none) 0) := hD
      refine lv_iconst (v := 0) hx hb dX1_init_37 (by decide) ?_
      refine lv_istore_n (lv' := [(3, .int 0), (2, .int 0), (0, .ref h0), (1, .int w)]) hx hb dX1_init_38 rfl hl (by decide) rfl (fun ls hl => ?_)
      obtain ⟨j, q, g, hI⟩ : ∃ (j : Nat) (q : Nat → Nat) (g : Nat → Option Nat), j ≤ nW w ∧ lv_has ls 4 [(3, .int (nI j)), (0, .ref h0)] ∧ va_P D vwCl (cwj h0 hw cW (nW w) j q g 0) H ∧ va_D A (cwj h0 hw cW (nW w) j q g 0) ∧ va_S A s.heap H locs ∧ ∀ i, i < j → g i = some (q i) := ⟨0, fun _ => 0, fun _ => none, Nat.zero_le _, lv_sub hl [0, 2] rfl, hP, hD, hS, fun i hi => absurd hi (Nat.not_lt_zero i)⟩
      obtain ⟨d, hjd⟩ : ∃ d, j + d = nW w := ⟨nW w - j, by omega⟩
      obtain ⟨cc0, ss0, hcc, hss, hcs⟩ : ∃ cc0 ss0 : Nat, cc0 = 1 + j ∧ ss0 = nW w + 6 * j ∧ True := ⟨1 + j, nW w + 6 * j, rfl, rfl, trivial⟩
      refine W.widen (k := cc0) (n := ss0) (by omega) (by omega) ?_
      clear hl hP hD hS
      induction d generalizing H locs ls j q g cc0 ss0 with
      | zero =>
        obtain ⟨hjn, hl, hP, hD, hS, hg⟩ := hI
        have hjn : j = nW w := by omega
        subst hcc
        subst hss
        rw [hjn] at hl hP hD hg
        refine lv_iload_n hx hb dX1_init_39 rfl (lv_at hl 0 rfl) ?_
        refine lv_aload_n hx hb dX1_init_40 rfl (lv_at hl 1 rfl) ?_
        refine va_get (D := D) (ci := 1) (v := .ref hw) (C := RX1) (T := TX1) (N := 6) hx hb hts (by decide +kernel) hown hK hP 0 rfl rfl 0 (by decide) (hts _ hm5) (fun _ h9 => h9) rfl dX1_init_41 ?_
        refine va_alen (D := D) (x := (nW w, .inr (.inr (.inr (.inr g))))) (v := nI (nW w)) hx hb hK hP 1 0 rfl rfl rfl dX1_init_44 ?_
        refine lv_icmp_ge (tgt := 67) hx hb dX1_init_45 (by decide) (fun c_7 => ?_) (fun c_7 => absurd (nI_le (Nat.le_refl _) (by omega)) c_7)
        refine lv_aload_n hx hb dX1_init_67 rfl (lv_at hl 1 rfl) ?_
        refine lv_iconst (v := 1) hx hb dX1_init_68 (by decide) ?_
        refine va_put (D := D) (ci := 1) (v := .int 1) (ty := .int) (C := RX1) (T := TX1) (N := 6) hx hb hts (by decide +kernel) tyX1 tyX1_ok nmX1 hown hK hP hD hS 0 rfl rfl 3 (by decide) (hts _ hm6) (fun _ h9 => h9) rfl (by decide +kernel) rfl rfl (Nat.le_of_ble_eq_true rfl) dX1_init_69 (fun H locs hP hD hS => ?_)
        replace hP : va_P D vwCl (cwj h0 hw cW (nW w) (nW w) q g 1) H := hP
        replace hD : va_D A (cwj h0 hw cW (nW w) (nW w) q g 1) := hD
        refine W.widen (k := 9) (n := 56) (by omega) (by omega) ?_
        exact W.vret hx hb hr (fun t ht hW => ⟨⟨(hw, cW, q, g), rfl, hg, xB_end hP hK hN hD ht hW⟩, hS.F ht⟩) hS.2.2 dX1_init_72
      | succ d ih =>
        obtain ⟨hjn, hl, hP, hD, hS, hg⟩ := hI
        have hlt : j < nW w := by omega
        refine lv_iload_n hx hb dX1_init_39 rfl (lv_at hl 0 rfl) ?_
        refine lv_aload_n hx hb dX1_init_40 rfl (lv_at hl 1 rfl) ?_
        refine va_get (D := D) (ci := 1) (v := .ref hw) (C := RX1) (T := TX1) (N := 6) hx hb hts (by decide +kernel) hown hK hP 0 rfl rfl 0 (by decide) (hts _ hm5) (fun _ h9 => h9) rfl dX1_init_41 ?_
        refine va_alen (D := D) (x := (nW w, .inr (.inr (.inr (.inr g))))) (v := nI (nW w)) hx hb hK hP 1 0 rfl rfl rfl dX1_init_44 ?_
        refine lv_icmp_ge (tgt := 67) hx hb dX1_init_45 (by decide) (fun c_8 => absurd c_8 (nI_ge hlt (by omega))) (fun c_8 => ?_)
        refine lv_aload_n hx hb dX1_init_48 rfl (lv_at hl 1 rfl) ?_
        refine va_get (D := D) (ci := 1) (v := .ref hw) (C := RX1) (T := TX1) (N := 6) hx hb hts (by decide +kernel) hown hK hP 0 rfl rfl 0 (by decide) (hts _ hm5) (fun _ h9 => h9) rfl dX1_init_49 ?_
        refine lv_iload_n hx hb dX1_init_52 rfl (lv_at hl 0 rfl) ?_
        refine va_new (ci := 0) (fs := [.long 0, .int 0, .int 0, .long 0, .long 0, .double 0]) (C := RX0) (T := TX0) (N := 6) hx hb hts (by decide +kernel) tyX0 tyX0_ok hown (hts _ hm4) (hts _ hm7) (hts _ hm8) hK hP hD hS hA rfl (fun j hj => by rcases (show j = 0 ∨ j = 1 ∨ j = 2 ∨ j = 3 ∨ j = 4 ∨ j = 5 by omega) with rfl | rfl | rfl | rfl | rfl | rfl <;> rfl) (show cc0 + 1 ≤ 9 by omega) (show ss0 + 6 ≤ 56 by omega) dX1_init_53 (fun qn H hP hD hS => ?_)
        refine lv_dup hx hb dX1_init_56 rfl ?_
        have hFc : ∀ z, va_A [(qn, .inr (0, [.long 0, .int 0, .int 0, .long 0, .long 0, .double 0]))] H.size z → A z := xF (w_DR hD) hS hA
        refine va_callv (va_runIN (As := []) (rest := [.ref qn, .int (nI j), .ref hw]) ⟨hx, hb, hml, hown, hts⟩ (c0_init l D qn _) ⟨va_cnB 0 hts gX1_init_X0_init_n15 rfl rfl rfl hN.2.2.2.2.2.2.1 (hts _ hm8) (by decide +kernel) ⟨Nat.le_of_ble_eq_true rfl, Nat.le_of_ble_eq_true rfl⟩, rfl, (hts _ hm9)⟩ ⟨xW_blind, xW_at (w_PR hP) (hK.sub [] rfl) hN (w_DR hD)⟩ rfl rfl hl.1 rfl (lv_room (Nat.le_of_ble_eq_true rfl)) dX1_init_57 ⟨show cc0 + 1 + 0 ≤ 9 by omega, show ss0 + 6 + 0 ≤ 56 by omega⟩) hS (fun z _ h => hFc z h) hFc (fun u t H1 locs ht hvm hpo hB hz1 hk1 hS => ?_)
        have hP1 : va_P D vwCl [(qn, .inr (0, [.long 0, .int 0, .int 0, .long 0, .long 100, .double 0]))] H1 := by rw [← ht]; exact hB.1.1
        obtain ⟨hP2, hD2⟩ := w_joinR hP hD hk1 hFc hP1 hB.2
        clear hP hD
        have hP := w_P (cwj_push _ _ _ _ _ _ _ _ _) hP2
        have hD := w_D (cwj_push _ _ _ _ _ _ _ _ _) hD2
        clear hP2 hD2 hP1 hB hz1 hk1 ht hvm hFc
        clear hpo
        refine va_astq (D := D) (r := (RX0, TX0, 6)) hx hb hK hP hD hS 1 0 (j + 2) 0 rfl rfl (cwj_last _ _ _ _ _ _ _ _ _) rfl (nI_in hlt (by omega)) dX1_init_60 (fun H locs hP hD hS => ?_)
        rw [nI_clamp (by omega)] at hP hD
        replace hP : va_P D vwCl (cwj h0 hw cW (nW w) (j + 1) (va_up q j qn) (va_up g j (some qn)) 0) H := hP
        replace hD : va_D A (cwj h0 hw cW (nW w) (j + 1) (va_up q j qn) (va_up g j (some qn)) 0) := hD
        refine lv_iinc (v := nI (j + 1)) (lv' := [(3, .int (nI (j + 1))), (0, .ref h0)]) hx hb dX1_init_61 hl (k := 0) rfl (nI_1 j) (by decide) rfl (fun ls hl => ?_)
        refine lv_goto (tgt := 39) hx hb dX1_init_64 (by decide) ?_
        exact ih _ _ _ (j := j + 1) (q := va_up q j qn) (g := va_up g j (some qn)) (cc0 := cc0 + 1) (ss0 := ss0 + 6) ⟨by omega, lv_sub hl [0, 1] rfl, hP, hD, hS, g_up hg⟩ (by omega) (by omega) (by omega)
    · skip
      refine lv_iconst (v := 1) hx hb dX1_init_15 (by decide) ?_
      refine lv_goto (tgt := 20) hx hb dX1_init_16 (by decide) ?_
      refine lv_istore_n (lv' := [(2, .int 1), (0, .ref h0), (1, .int w)]) hx hb dX1_init_20 rfl hl (by decide) rfl (fun ls hl => ?_)
      refine lv_aload_n hx hb dX1_init_21 rfl (lv_at hl 1 rfl) ?_
      refine lv_iload_n hx hb dX1_init_22 rfl (lv_at hl 0 rfl) ?_
      refine lv_if_eq (tgt := 30) hx hb dX1_init_23 (by decide) (fun c_9 => absurd c_9 (by decide)) (fun c_9 => ?_)
      refine lv_iload_n hx hb dX1_init_26 rfl (lv_at hl 2 rfl) ?_
      refine lv_goto (tgt := 31) hx hb dX1_init_27 (by decide) ?_
      refine W.eq (g2 := F0 m 31 ls [.int (nI (nW w)), .ref h0]) (by rw [← nW_w c_1 c_5]) ?_
      refine va_newq (N' := nW w) hx hb hown (hts _ hm4) hO hK hP hD hS hA (nI_pos (by omega)) (nI_clamp (by omega)) (by omega) (Nat.le_of_ble_eq_true rfl) (show 0 + nW w ≤ 56 by omega) dX1_init_31 (fun hw cW H hK hP hD hS => ?_)
      replace hP : va_P D vwCl [(h0, .inr (1, [.null, .long 0, .int 0, .int 0, .int 0, .int 0])), (hw, .inl (cW, nW w, .inr (.inr (.inr (.inr (fun _ => none))))))] H := hP
      replace hD : va_D A [(h0, .inr (1, [.null, .long 0, .int 0, .int 0, .int 0, .int 0])), (hw, .inl (cW, nW w, .inr (.inr (.inr (.inr (fun _ => none))))))] := hD
      replace hK : va_K D vwCl [(cW, .object RX0)] s := hK
      refine va_putF (D := D) (ci := 1) (v := .ref hw) (ty := .array (.object "GearBrake$Wheel")) (C := RX1) (T := TX1) (N := 6) hx hb hts (by decide +kernel) tyX1 tyX1_ok nmX1 hown hK hP hD hS 0 rfl rfl 0 (by decide) (hts _ hm5) (fun _ h9 => h9) rfl hin rfl (by decide +kernel) rfl rfl (Nat.le_of_ble_eq_true rfl) dX1_init_34 (fun H locs hP hD hS => ?_)
      replace hP : va_P D vwCl (cwj h0 hw cW (nW w) 0 (fun _ => 0) (fun _ => none) 0) H := hP
      replace hD : va_D A (cwj h0 hw cW (nW w) 0 (fun _ => 0) (fun _ => none) 0) := hD
      refine lv_iconst (v := 0) hx hb dX1_init_37 (by decide) ?_
      refine lv_istore_n (lv' := [(3, .int 0), (2, .int 1), (0, .ref h0), (1, .int w)]) hx hb dX1_init_38 rfl hl (by decide) rfl (fun ls hl => ?_)
      obtain ⟨j, q, g, hI⟩ : ∃ (j : Nat) (q : Nat → Nat) (g : Nat → Option Nat), j ≤ nW w ∧ lv_has ls 4 [(3, .int (nI j)), (0, .ref h0)] ∧ va_P D vwCl (cwj h0 hw cW (nW w) j q g 0) H ∧ va_D A (cwj h0 hw cW (nW w) j q g 0) ∧ va_S A s.heap H locs ∧ ∀ i, i < j → g i = some (q i) := ⟨0, fun _ => 0, fun _ => none, Nat.zero_le _, lv_sub hl [0, 2] rfl, hP, hD, hS, fun i hi => absurd hi (Nat.not_lt_zero i)⟩
      obtain ⟨d, hjd⟩ : ∃ d, j + d = nW w := ⟨nW w - j, by omega⟩
      obtain ⟨cc0, ss0, hcc, hss, hcs⟩ : ∃ cc0 ss0 : Nat, cc0 = 1 + j ∧ ss0 = nW w + 6 * j ∧ True := ⟨1 + j, nW w + 6 * j, rfl, rfl, trivial⟩
      refine W.widen (k := cc0) (n := ss0) (by omega) (by omega) ?_
      clear hl hP hD hS
      induction d generalizing H locs ls j q g cc0 ss0 with
      | zero =>
        obtain ⟨hjn, hl, hP, hD, hS, hg⟩ := hI
        have hjn : j = nW w := by omega
        subst hcc
        subst hss
        rw [hjn] at hl hP hD hg
        refine lv_iload_n hx hb dX1_init_39 rfl (lv_at hl 0 rfl) ?_
        refine lv_aload_n hx hb dX1_init_40 rfl (lv_at hl 1 rfl) ?_
        refine va_get (D := D) (ci := 1) (v := .ref hw) (C := RX1) (T := TX1) (N := 6) hx hb hts (by decide +kernel) hown hK hP 0 rfl rfl 0 (by decide) (hts _ hm5) (fun _ h9 => h9) rfl dX1_init_41 ?_
        refine va_alen (D := D) (x := (nW w, .inr (.inr (.inr (.inr g))))) (v := nI (nW w)) hx hb hK hP 1 0 rfl rfl rfl dX1_init_44 ?_
        refine lv_icmp_ge (tgt := 67) hx hb dX1_init_45 (by decide) (fun c_10 => ?_) (fun c_10 => absurd (nI_le (Nat.le_refl _) (by omega)) c_10)
        refine lv_aload_n hx hb dX1_init_67 rfl (lv_at hl 1 rfl) ?_
        refine lv_iconst (v := 1) hx hb dX1_init_68 (by decide) ?_
        refine va_put (D := D) (ci := 1) (v := .int 1) (ty := .int) (C := RX1) (T := TX1) (N := 6) hx hb hts (by decide +kernel) tyX1 tyX1_ok nmX1 hown hK hP hD hS 0 rfl rfl 3 (by decide) (hts _ hm6) (fun _ h9 => h9) rfl (by decide +kernel) rfl rfl (Nat.le_of_ble_eq_true rfl) dX1_init_69 (fun H locs hP hD hS => ?_)
        replace hP : va_P D vwCl (cwj h0 hw cW (nW w) (nW w) q g 1) H := hP
        replace hD : va_D A (cwj h0 hw cW (nW w) (nW w) q g 1) := hD
        refine W.widen (k := 9) (n := 56) (by omega) (by omega) ?_
        exact W.vret hx hb hr (fun t ht hW => ⟨⟨(hw, cW, q, g), rfl, hg, xB_end hP hK hN hD ht hW⟩, hS.F ht⟩) hS.2.2 dX1_init_72
      | succ d ih =>
        obtain ⟨hjn, hl, hP, hD, hS, hg⟩ := hI
        have hlt : j < nW w := by omega
        refine lv_iload_n hx hb dX1_init_39 rfl (lv_at hl 0 rfl) ?_
        refine lv_aload_n hx hb dX1_init_40 rfl (lv_at hl 1 rfl) ?_
        refine va_get (D := D) (ci := 1) (v := .ref hw) (C := RX1) (T := TX1) (N := 6) hx hb hts (by decide +kernel) hown hK hP 0 rfl rfl 0 (by decide) (hts _ hm5) (fun _ h9 => h9) rfl dX1_init_41 ?_
        refine va_alen (D := D) (x := (nW w, .inr (.inr (.inr (.inr g))))) (v := nI (nW w)) hx hb hK hP 1 0 rfl rfl rfl dX1_init_44 ?_
        refine lv_icmp_ge (tgt := 67) hx hb dX1_init_45 (by decide) (fun c_11 => absurd c_11 (nI_ge hlt (by omega))) (fun c_11 => ?_)
        refine lv_aload_n hx hb dX1_init_48 rfl (lv_at hl 1 rfl) ?_
        refine va_get (D := D) (ci := 1) (v := .ref hw) (C := RX1) (T := TX1) (N := 6) hx hb hts (by decide +kernel) hown hK hP 0 rfl rfl 0 (by decide) (hts _ hm5) (fun _ h9 => h9) rfl dX1_init_49 ?_
        refine lv_iload_n hx hb dX1_init_52 rfl (lv_at hl 0 rfl) ?_
        refine va_new (ci := 0) (fs := [.long 0, .int 0, .int 0, .long 0, .long 0, .double 0]) (C := RX0) (T := TX0) (N := 6) hx hb hts (by decide +kernel) tyX0 tyX0_ok hown (hts _ hm4) (hts _ hm7) (hts _ hm8) hK hP hD hS hA rfl (fun j hj => by rcases (show j = 0 ∨ j = 1 ∨ j = 2 ∨ j = 3 ∨ j = 4 ∨ j = 5 by omega) with rfl | rfl | rfl | rfl | rfl | rfl <;> rfl) (show cc0 + 1 ≤ 9 by omega) (show ss0 + 6 ≤ 56 by omega) dX1_init_53 (fun qn H hP hD hS => ?_)
        refine lv_dup hx hb dX1_init_56 rfl ?_
        have hFc : ∀ z, va_A [(qn, .inr (0, [.long 0, .int 0, .int 0, .long 0, .long 0, .double 0]))] H.size z → A z := xF (w_DR hD) hS hA
        refine va_callv (va_runIN (As := []) (rest := [.ref qn, .int (nI j), .ref hw]) ⟨hx, hb, hml, hown, hts⟩ (c0_init l D qn _) ⟨va_cnB 0 hts gX1_init_X0_init_n15 rfl rfl rfl hN.2.2.2.2.2.2.1 (hts _ hm8) (by decide +kernel) ⟨Nat.le_of_ble_eq_true rfl, Nat.le_of_ble_eq_true rfl⟩, rfl, (hts _ hm9)⟩ ⟨xW_blind, xW_at (w_PR hP) (hK.sub [] rfl) hN (w_DR hD)⟩ rfl rfl hl.1 rfl (lv_room (Nat.le_of_ble_eq_true rfl)) dX1_init_57 ⟨show cc0 + 1 + 0 ≤ 9 by omega, show ss0 + 6 + 0 ≤ 56 by omega⟩) hS (fun z _ h => hFc z h) hFc (fun u t H1 locs ht hvm hpo hB hz1 hk1 hS => ?_)
        have hP1 : va_P D vwCl [(qn, .inr (0, [.long 0, .int 0, .int 0, .long 0, .long 100, .double 0]))] H1 := by rw [← ht]; exact hB.1.1
        obtain ⟨hP2, hD2⟩ := w_joinR hP hD hk1 hFc hP1 hB.2
        clear hP hD
        have hP := w_P (cwj_push _ _ _ _ _ _ _ _ _) hP2
        have hD := w_D (cwj_push _ _ _ _ _ _ _ _ _) hD2
        clear hP2 hD2 hP1 hB hz1 hk1 ht hvm hFc
        clear hpo
        refine va_astq (D := D) (r := (RX0, TX0, 6)) hx hb hK hP hD hS 1 0 (j + 2) 0 rfl rfl (cwj_last _ _ _ _ _ _ _ _ _) rfl (nI_in hlt (by omega)) dX1_init_60 (fun H locs hP hD hS => ?_)
        rw [nI_clamp (by omega)] at hP hD
        replace hP : va_P D vwCl (cwj h0 hw cW (nW w) (j + 1) (va_up q j qn) (va_up g j (some qn)) 0) H := hP
        replace hD : va_D A (cwj h0 hw cW (nW w) (j + 1) (va_up q j qn) (va_up g j (some qn)) 0) := hD
        refine lv_iinc (v := nI (j + 1)) (lv' := [(3, .int (nI (j + 1))), (0, .ref h0)]) hx hb dX1_init_61 hl (k := 0) rfl (nI_1 j) (by decide) rfl (fun ls hl => ?_)
        refine lv_goto (tgt := 39) hx hb dX1_init_64 (by decide) ?_
        exact ih _ _ _ (j := j + 1) (q := va_up q j qn) (g := va_up g j (some qn)) (cc0 := cc0 + 1) (ss0 := ss0 + 6) ⟨by omega, lv_sub hl [0, 1] rfl, hP, hD, hS, g_up hg⟩ (by omega) (by omega) (by omega)
