/-! ===== the state of the car and of its reference, as cells ===== -/
/-- wheel k's cell -/
abbrev cE (sp : Nat → Int64) (lo ph : Nat → Int32) (pr bo : Nat → Int64) (mo : Nat → UInt64) (k : Nat) : va_E := .inr (0, [.long (sp k), .int (lo k), .int (ph k), .long (pr k), .long (bo k), .double (mo k)])
/-- the wheels: wheel i + 1 at q i -/
def cL (n : Nat) (q : Nat → Nat) (f : Nat → va_E) : va_W := (List.range n).map (fun i => (q i, f (i + 1)))
/-- the car: the object, its row of wheels, the wheels -/
def cw (h0 hw : Nat) (cW : ClassId) (n : Nat) (q : Nat → Nat) (g : Nat → Option Nat) (sp : Nat → Int64) (lo ph : Nat → Int32) (pr bo : Nat → Int64) (mo : Nat → UInt64) (rf : Int64) (hd gr st nx : Int32) : va_W :=
  (h0, .inr (1, [.ref hw, .long rf, .int hd, .int gr, .int st, .int nx])) :: (hw, .inl (cW, n, .inr (.inr (.inr (.inr g))))) :: cL n q (cE sp lo ph pr bo mo)
/-- the reference: the object, its six rows -/
def mw (m0 : Nat) (a : Nat → Nat) (C : Nat → ClassId) (th wh : Int32) (sp : Nat → Int64) (lo ph : Nat → Int32) (pr bo : Nat → Int64) (mo : Nat → UInt64) (rf : Int64) (gr hd st ch rs : Int32) : va_W :=
  [(m0, .inr (2, [.int th, .int wh, .ref (a 1), .ref (a 2), .ref (a 3), .ref (a 4), .ref (a 5), .ref (a 6), .long rf, .int gr, .int hd, .int st, .int ch, .int rs])), (a 1, .inl (C 1, 9, .inr (.inl sp))), (a 2, .inl (C 2, 9, .inl lo)), (a 3, .inl (C 3, 9, .inl ph)), (a 4, .inl (C 4, 9, .inr (.inl pr))), (a 5, .inl (C 5, 9, .inr (.inl bo))), (a 6, .inl (C 6, 9, .inr (.inr (.inr (.inl mo)))))]
theorem cL_at {n : Nat} {q : Nat → Nat} {f : Nat → va_E} {i : Nat} (hi : i < n) : (cL n q f)[i]? = some (q i, f (i + 1)) := by
  simp [cL, hi]
theorem cL_set {n : Nat} {q : Nat → Nat} {f f' : Nat → va_E} {i : Nat} {e : va_E} (h : ∀ j, f' j = va_up f (i + 1) e j) : (cL n q f).set i (q i, e) = cL n q f' := by
  apply List.ext_getElem?
  intro j
  by_cases hj : j = i
  · subst hj
    by_cases hl : j < n
    · rw [List.getElem?_set_self (by simpa [cL] using hl), cL_at hl, h, va_up_self]
    · rw [List.getElem?_eq_none (by simpa [cL] using hl), List.getElem?_eq_none (by simpa [cL] using hl)]
  · rw [List.getElem?_set_ne (Ne.symm hj)]
    by_cases hl : j < n
    · rw [cL_at hl, cL_at hl, h, va_up_ne _ _ (by omega)]
    · rw [List.getElem?_eq_none (by simpa [cL] using hl), List.getElem?_eq_none (by simpa [cL] using hl)]
theorem cL_push {n : Nat} {q : Nat → Nat} {f : Nat → va_E} {a : Nat} : cL n q f ++ [(a, f (n + 1))] = cL (n + 1) (va_up q n a) f := by
  unfold cL
  rw [List.range_succ, List.map_append]
  simp only [List.map_cons, List.map_nil, va_up_self]
  congr 1
  apply List.map_congr_left
  intro b hb
  rw [va_up_ne _ _ (by have := List.mem_range.mp hb; omega)]
theorem w_P {D : va_G} {w1 w2 : va_W} {H : Heap} (h : w1 = w2) (hP : va_P D vwCl w1 H) : va_P D vwCl w2 H := h ▸ hP
theorem w_D {A : Nat → Prop} {w1 w2 : va_W} (h : w1 = w2) (hD : va_D A w1) : va_D A w2 := h ▸ hD
section CW
variable {h0 hw n : Nat} {cW : ClassId} {q : Nat → Nat} {g : Nat → Option Nat} {sp : Nat → Int64} {lo ph : Nat → Int32} {pr bo : Nat → Int64} {mo : Nat → UInt64} {rf : Int64} {hd gr st nx : Int32} {i : Nat}
theorem cw_at (hi : i < n) : (cw h0 hw cW n q g sp lo ph pr bo mo rf hd gr st nx)[i + 2]? = some (q i, .inr (0, [.long (sp (i + 1)), .int (lo (i + 1)), .int (ph (i + 1)), .long (pr (i + 1)), .long (bo (i + 1)), .double (mo (i + 1))])) := by
  unfold cw
  rw [List.getElem?_cons_succ, List.getElem?_cons_succ]
  exact cL_at hi
theorem cw_set {f' : Nat → va_E} {e : va_E} {sp' : Nat → Int64} {lo' ph' : Nat → Int32} {pr' bo' : Nat → Int64} {mo' : Nat → UInt64} (h : ∀ j, cE sp' lo' ph' pr' bo' mo' j = va_up (cE sp lo ph pr bo mo) (i + 1) e j) : (cw h0 hw cW n q g sp lo ph pr bo mo rf hd gr st nx).set (i + 2) (q i, e) = cw h0 hw cW n q g sp' lo' ph' pr' bo' mo' rf hd gr st nx := by
  unfold cw
  rw [List.set_cons_succ, List.set_cons_succ, cL_set h]
theorem cw_sp (v : Int64) : (cw h0 hw cW n q g sp lo ph pr bo mo rf hd gr st nx).set (i + 2) (q i, .inr (0, [.long v, .int (lo (i + 1)), .int (ph (i + 1)), .long (pr (i + 1)), .long (bo (i + 1)), .double (mo (i + 1))])) = cw h0 hw cW n q g (va_up sp (i + 1) v) lo ph pr bo mo rf hd gr st nx :=
  cw_set (f' := fun _ => .inr (0, [])) (fun j => by by_cases h : j = i + 1 <;> simp [cE, va_up, h])
theorem cw_lo (v : Int32) : (cw h0 hw cW n q g sp lo ph pr bo mo rf hd gr st nx).set (i + 2) (q i, .inr (0, [.long (sp (i + 1)), .int v, .int (ph (i + 1)), .long (pr (i + 1)), .long (bo (i + 1)), .double (mo (i + 1))])) = cw h0 hw cW n q g sp (va_up lo (i + 1) v) ph pr bo mo rf hd gr st nx :=
  cw_set (f' := fun _ => .inr (0, [])) (fun j => by by_cases h : j = i + 1 <;> simp [cE, va_up, h])
theorem cw_ph (v : Int32) : (cw h0 hw cW n q g sp lo ph pr bo mo rf hd gr st nx).set (i + 2) (q i, .inr (0, [.long (sp (i + 1)), .int (lo (i + 1)), .int v, .long (pr (i + 1)), .long (bo (i + 1)), .double (mo (i + 1))])) = cw h0 hw cW n q g sp lo (va_up ph (i + 1) v) pr bo mo rf hd gr st nx :=
  cw_set (f' := fun _ => .inr (0, [])) (fun j => by by_cases h : j = i + 1 <;> simp [cE, va_up, h])
theorem cw_pr (v : Int64) : (cw h0 hw cW n q g sp lo ph pr bo mo rf hd gr st nx).set (i + 2) (q i, .inr (0, [.long (sp (i + 1)), .int (lo (i + 1)), .int (ph (i + 1)), .long v, .long (bo (i + 1)), .double (mo (i + 1))])) = cw h0 hw cW n q g sp lo ph (va_up pr (i + 1) v) bo mo rf hd gr st nx :=
  cw_set (f' := fun _ => .inr (0, [])) (fun j => by by_cases h : j = i + 1 <;> simp [cE, va_up, h])
theorem cw_bo (v : Int64) : (cw h0 hw cW n q g sp lo ph pr bo mo rf hd gr st nx).set (i + 2) (q i, .inr (0, [.long (sp (i + 1)), .int (lo (i + 1)), .int (ph (i + 1)), .long (pr (i + 1)), .long v, .double (mo (i + 1))])) = cw h0 hw cW n q g sp lo ph pr (va_up bo (i + 1) v) mo rf hd gr st nx :=
  cw_set (f' := fun _ => .inr (0, [])) (fun j => by by_cases h : j = i + 1 <;> simp [cE, va_up, h])
theorem cw_mo (v : UInt64) : (cw h0 hw cW n q g sp lo ph pr bo mo rf hd gr st nx).set (i + 2) (q i, .inr (0, [.long (sp (i + 1)), .int (lo (i + 1)), .int (ph (i + 1)), .long (pr (i + 1)), .long (bo (i + 1)), .double v])) = cw h0 hw cW n q g sp lo ph pr bo (va_up mo (i + 1) v) rf hd gr st nx :=
  cw_set (f' := fun _ => .inr (0, [])) (fun j => by by_cases h : j = i + 1 <;> simp [cE, va_up, h])
end CW
/-! ===== what the car reaches of its nest mates ===== -/
def cN (U : State) : Prop := va_Nw (.fieldLinkNest "GearBrake" 30 "GearBrake$Wheel" "speed" "J" "GearBrake") U ∧ va_Nw (.fieldLinkNest "GearBrake" 100 "GearBrake$Wheel" "lost" "Z" "GearBrake") U ∧ va_Nw (.fieldLinkNest "GearBrake" 67 "GearBrake$Wheel" "phase" "I" "GearBrake") U ∧ va_Nw (.fieldLinkNest "GearBrake" 72 "GearBrake$Wheel" "pressure" "J" "GearBrake") U ∧ va_Nw (.fieldLinkNest "GearBrake" 117 "GearBrake$Wheel" "bound" "J" "GearBrake") U ∧ va_Nw (.fieldLinkNest "GearBrake" 111 "GearBrake$Wheel" "model" "D" "GearBrake") U ∧ va_Nw (.methodLinkNest "GearBrake" 15 yX0_init "GearBrake") U ∧ va_Nw (.methodLinkNest "GearBrake" 54 yX0_brake "GearBrake") U ∧ va_Nw (.methodLinkNest "GearBrake" 58 yX0_followModel "GearBrake") U ∧ va_Nw (.methodLinkNest "GearBrake" 86 yX0_press "GearBrake") U
theorem cN_same {u U : State} (h : u.vm = U.vm) (hN : cN u) : cN U := by
  obtain ⟨a1, a2, a3, a4, a5, a6, a7, a8, a9, a0⟩ := hN
  exact ⟨va_Nw.same rfl h a1, va_Nw.same rfl h a2, va_Nw.same rfl h a3, va_Nw.same rfl h a4, va_Nw.same rfl h a5, va_Nw.same rfl h a6, va_Nw.same rfl h a7, va_Nw.same rfl h a8, va_Nw.same rfl h a9, va_Nw.same rfl h a0⟩
theorem cN_warm {s U : State} (hW : s.WarmedH U.vm) (hN : cN s) : cN U := by
  obtain ⟨a1, a2, a3, a4, a5, a6, a7, a8, a9, a0⟩ := hN
  exact ⟨va_Nw.warmF hW a1, va_Nw.warmF hW a2, va_Nw.warmF hW a3, va_Nw.warmF hW a4, va_Nw.warmF hW a5, va_Nw.warmF hW a6, va_Nw.warmM hW a7, va_Nw.warmM hW a8, va_Nw.warmM hW a9, va_Nw.warmM hW a0⟩
/-! ===== what holds at a method's start and end ===== -/
def xP (D : va_G) (tys : List (ClassId × FieldType)) (ws : va_W) (U : State) : Prop := va_P D vwCl ws U.heap ∧ va_K D vwCl tys U ∧ cN U
def xW (D : va_G) (tys : List (ClassId × FieldType)) (ws : va_W) (sz : Nat) (U : State) : Prop := U.heap.size = sz ∧ xP D tys ws U ∧ va_D (fun _ => True) ws
def xB (D : va_G) (tys : List (ClassId × FieldType)) (A : Nat → Prop) (ws : va_W) (U : State) : Prop := xP D tys ws U ∧ va_D A ws
section XP
variable {D : va_G} {tys : List (ClassId × FieldType)} {ws ws' : va_W} {A : Nat → Prop} {s t : State} {H H0 : Heap} {locs : List Loc} {av : List Value} {sz : Nat}
theorem xP_calling {U : State} (g : JFrame) (mk : MethodId) (a : Array Value) (h : xP D tys ws U) : xP D tys ws (U.calling g mk a) := ⟨h.1, va_K.moved (u := U) (U := U.calling g mk a) (Vm.Alike.refl U.vm) h.2.1, cN_same (u := U) rfl h.2.2⟩
theorem xP_blind : FrameBlind (va_Pc av (xP D tys ws)) := fun a U g mk h => ⟨h.1, xP_calling g mk a h.2⟩
theorem xW_blind : FrameBlind (va_Pc av (xW D tys ws sz)) := fun a U g mk h => ⟨h.1, h.2.1, xP_calling g mk a h.2.2.1, h.2.2.2⟩
theorem xP_at (hP : va_P D vwCl ws H) (hK : va_K D vwCl tys s) (hN : cN s) : ∀ U : State, U.heap = H → s.WarmedH U.vm → va_Pc av (xP D tys ws) av.toArray U := fun U hU hW => ⟨rfl, by rw [hU]; exact hP, va_K.moved hW.alike hK, cN_warm hW hN⟩
theorem xW_at (hP : va_P D vwCl ws H) (hK : va_K D vwCl tys s) (hN : cN s) (hD : va_D A ws) : ∀ U : State, U.heap = H → s.WarmedH U.vm → va_Pc av (xW D tys ws H.size) av.toArray U := fun U hU hW => ⟨rfl, by rw [hU], ⟨by rw [hU]; exact hP, va_K.moved hW.alike hK, cN_warm hW hN⟩, hD.weaken (fun _ _ _ _ => trivial)⟩
theorem xF (hD : va_D A ws) (hS : va_S A H0 H locs) (hA : ∀ q, H0.size ≤ q → A q) : ∀ q, va_A ws H.size q → A q := by
  intro q h
  rcases h with ⟨k, e, h⟩ | h
  · exact hD.2 k (q, e) h
  · exact hA q (Nat.le_trans hS.1 h)
theorem xB_use {B : Nat → Prop} (hB : xB D tys B ws' t) (ht : t.heap = H) (hF : ∀ q, B q → A q) : va_P D vwCl ws' H ∧ va_D A ws' := ⟨by rw [← ht]; exact hB.1.1, hB.2.weaken (fun _ q _ h => hF q.1 h)⟩
theorem xB_end (hP : va_P D vwCl ws H) (hK : va_K D vwCl tys s) (hN : cN s) (hD : va_D A ws) (ht : t.heap = H) (hW : s.WarmedH t.vm) : xB D tys A ws t := ⟨⟨by rw [ht]; exact hP, va_K.moved hW.alike hK, cN_warm hW hN⟩, hD⟩
end XP
/-! ===== which wheel ===== -/
abbrev wOut (n : Nat) (w : Int32) : Prop := w < 1 ∨ nI n < w
theorem w_io (n : Nat) (w : Int32) (hn : n ≤ 8) : wOut n w ∨ ∃ i, i < n ∧ w = nI (i + 1) := by
  by_cases h1 : w < 1
  · exact Or.inl (Or.inl h1)
  · by_cases h2 : nI n < w
    · exact Or.inl (Or.inr h2)
    · right
      obtain ⟨j, hj, rfl⟩ := nI_of (x := w) (by
        intro h; apply h1
        rw [Int32.lt_iff_toInt_lt] at h ⊢
        have e1 : (1 : Int32).toInt = 1 := rfl
        have e0 : (0 : Int32).toInt = 0 := rfl
        omega)
      have h3 : ¬ n < j := fun h => h2 (nI_lt h hj)
      have h4 : ¬ j < 1 := fun h => h1 (by have := nI_lt h (by omega); exact this)
      exact ⟨j - 1, by omega, by rw [show j - 1 + 1 = j by omega]⟩
theorem wOut_in {n i : Nat} (hn : n ≤ 8) (hi : i < n) : ¬ wOut n (nI (i + 1)) := by
  rintro (h | h)
  · exact nI_nlt (a := i + 1) (b := 1) (by omega) (by omega) h
  · exact nI_nlt (a := n) (b := i + 1) (by omega) (by omega) h
theorem wIx {n i : Nat} (hn : n ≤ 8) (hi : i < n) : (nI (i + 1)).toNatClampNeg = i + 1 := nI_clamp (by omega)
theorem cN_draw {s : State} {d : Drawn} (h : cN s) : cN (s.setDrawn d) := cN_same (u := s) rfl h
theorem ix_pred {n i : Nat} (hn : n ≤ 8) (hi : i < n) : vp_in (nI (i + 1) - 1) n := by
  rw [nI_pred]; exact nI_in hi (by omega)
theorem ix_predc {n i : Nat} (hn : n ≤ 8) (hi : i < n) : (nI (i + 1) - 1).toNatClampNeg = i := by
  rw [nI_pred]; exact nI_clamp (by omega)
theorem ix_n {n i : Nat} (hn : n ≤ 8) (hi : i < n) : vp_in (nI i) n := nI_in hi (by omega)
theorem ix_nc {n i : Nat} (hn : n ≤ 8) (hi : i < n) : (nI i).toNatClampNeg = i := nI_clamp (by omega)
theorem ix_9 {n i : Nat} (hn : n ≤ 8) (hi : i < n) : vp_in (nI (i + 1)) 9 := nI_in (by omega) (by omega)
/-! ===== a switch over 1, 2, 3 ===== -/
theorem sw_out {x : Int32} (h : x < 1 ∨ 3 < x) : x.toInt < 1 ∨ 3 < x.toInt := by
  rcases h with h | h
  · exact Or.inl (by rw [Int32.lt_iff_toInt_lt] at h; exact h)
  · exact Or.inr (by rw [Int32.lt_iff_toInt_lt] at h; exact h)
theorem sw_n1 {x : Int32} (h : x < 1 ∨ 3 < x) : ¬ x = 1 := fun e => by subst e; revert h; decide
theorem sw_n2 {x : Int32} (h : x < 1 ∨ 3 < x) : ¬ x = 2 := fun e => by subst e; revert h; decide
theorem sw_n3 {x : Int32} (h : x < 1 ∨ 3 < x) : ¬ x = 3 := fun e => by subst e; revert h; decide
theorem sw_in {x : Int32} (h : ¬ (x < 1 ∨ 3 < x)) : x = 1 ∨ x = 2 ∨ x = 3 := by
  have h1 : ¬ x < 1 := fun z => h (Or.inl z)
  have h3 : ¬ 3 < x := fun z => h (Or.inr z)
  rw [Int32.lt_iff_toInt_lt] at h1 h3
  have e1 : (1 : Int32).toInt = 1 := rfl
  have e3 : (3 : Int32).toInt = 3 := rfl
  have : x.toInt = 1 ∨ x.toInt = 2 ∨ x.toInt = 3 := by omega
  rcases this with e | e | e
  · exact Or.inl (Int32.toInt_inj.mp e)
  · exact Or.inr (Or.inl (Int32.toInt_inj.mp e))
  · exact Or.inr (Or.inr (Int32.toInt_inj.mp e))
