/-! ===== slip: the greatest common divisor, both ways ===== -/
theorem lN_ne0 {n : Nat} (h0 : 0 < n) (h : n < 2 ^ 31) : ¬ lN n = 0 := fun e => by
  have := (lN_eq (a := n) (b := 0) h (by omega)).mp e
  omega
theorem lN_max1 {n : Nat} (h0 : 0 < n) (h : n < 2 ^ 31) : (if 1 < lN n then lN n else 1) = lN n := by
  by_cases e : n = 1
  · subst e; rw [if_neg (by intro z; have := (lN_lt (a := 1) (b := 1) (by omega) (by omega)).mp z; omega)]; rfl
  · have z : (1 : Int64) < lN n := (lN_lt (a := 1) (b := n) (by omega) h).mpr (by omega)
    rw [if_pos z]
theorem gcd_half {x y m : Nat} (hy : 0 < y) (hxy : y < x) (h : x * y < 2 ^ (m + 1)) : y * (x % y) < 2 ^ m := by
  have e := Nat.div_add_mod x y
  have h1 : 0 < x / y := Nat.div_pos (by omega) hy
  have h2 : y * 1 ≤ y * (x / y) := Nat.mul_le_mul_left y h1
  have h3 := Nat.mod_lt x hy
  have h4 : y * (2 * (x % y)) ≤ y * x := Nat.mul_le_mul_left y (by omega)
  have h5 : y * (2 * (x % y)) = 2 * (y * (x % y)) := by rw [Nat.mul_left_comm]
  have h6 : 2 ^ (m + 1) = 2 * 2 ^ m := by rw [Nat.pow_succ]; omega
  rw [Nat.mul_comm x y] at h
  omega
theorem gcd_step (x y : Nat) : Nat.gcd y (x % y) = Nat.gcd x y := by
  rw [Nat.gcd_comm x y, Nat.gcd_rec y x, Nat.gcd_comm]
theorem gcd_first {A B : Nat} (hA : A ≤ 1000) (hB : B ≤ 1000) (hB0 : 0 < B) : B * (A % B) < 2 ^ 20 := by
  have h1 := Nat.mod_lt A hB0
  have h2 : B * (A % B) ≤ 1000 * 1000 := Nat.mul_le_mul hB (by omega)
  omega
def bd (x : Int64) (m : Nat) : Prop := ∃ k, k ≤ m ∧ x = lN k
/-- what slip's divisor is -/
def sG (rf s : Int64) : Nat := Nat.gcd (rf.toInt - s.toInt).natAbs rf.toInt.natAbs
def sSlip (rf s : Int64) (side : Int32) : Int64 := if side = 0 then (rf - s) / lN (sG rf s) else rf / lN (sG rf s)
theorem bd_sub {rf s : Int64} (hr : bd rf 1000) (hs : bd s 1000) : (rf - s).toInt = rf.toInt - s.toInt ∧ 0 ≤ rf.toInt ∧ rf.toInt ≤ 1000 ∧ 0 ≤ s.toInt ∧ s.toInt ≤ 1000 := by
  obtain ⟨R, hR, rfl⟩ := hr
  obtain ⟨S, hS, rfl⟩ := hs
  have e1 := lN_toInt (n := R) (by omega)
  have e2 := lN_toInt (n := S) (by omega)
  refine ⟨?_, by omega, by omega, by omega, by omega⟩
  rw [Int64.toInt_sub, e1, e2]
  exact Int.bmod_eq_of_le (by omega) (by omega)
theorem lN_of_toInt {x : Int64} (h0 : 0 ≤ x.toInt) (h : x.toInt < 2 ^ 31) : x = lN x.toInt.natAbs := by
  apply Int64.toInt_inj.mp
  rw [lN_toInt (by omega)]
  omega
theorem bd_rf {rf : Int64} (hr : bd rf 1000) : rf = lN rf.toInt.natAbs ∧ rf.toInt.natAbs ≤ 1000 := by
  obtain ⟨R, hR, rfl⟩ := hr
  have e1 := lN_toInt (n := R) (by omega)
  exact ⟨lN_of_toInt (by omega) (by omega), by omega⟩
theorem bd_pos {rf s : Int64} (hr : bd rf 1000) (hs : bd s 1000) (h : 0 ≤ rf - s) : rf - s = lN (rf.toInt - s.toInt).natAbs ∧ (rf.toInt - s.toInt).natAbs ≤ 1000 := by
  obtain ⟨e, h1, h2, h3, h4⟩ := bd_sub hr hs
  rw [Int64.le_iff_toInt_le, e] at h
  have h0 : (0 : Int64).toInt = 0 := rfl
  rw [h0] at h
  refine ⟨?_, by omega⟩
  rw [← e]
  exact lN_of_toInt (by omega) (by omega)
theorem bd_neg {rf s : Int64} (hr : bd rf 1000) (hs : bd s 1000) (h : ¬ 0 ≤ rf - s) : -(rf - s) = lN (rf.toInt - s.toInt).natAbs ∧ (rf.toInt - s.toInt).natAbs ≤ 1000 := by
  obtain ⟨e, h1, h2, h3, h4⟩ := bd_sub hr hs
  rw [Int64.le_iff_toInt_le, e] at h
  have h0 : (0 : Int64).toInt = 0 := rfl
  rw [h0] at h
  refine ⟨?_, by omega⟩
  have en : (-(rf - s)).toInt = -(rf.toInt - s.toInt) := by
    rw [Int64.toInt_neg, e]
    exact Int.bmod_eq_of_le (by omega) (by omega)
  rw [lN_of_toInt (x := -(rf - s)) (by omega) (by omega), en]
  congr 1
  omega
theorem bd_abs {rf s : Int64} (hr : bd rf 1000) (hs : bd s 1000) : cAbs (rf - s) = lN (rf.toInt - s.toInt).natAbs := by
  obtain ⟨e, h1, h2, h3, h4⟩ := bd_sub hr hs
  have h0 : (0 : Int64).toInt = 0 := rfl
  unfold cAbs
  by_cases h : 0 < rf - s
  · rw [if_pos h]
    exact (bd_pos hr hs (by rw [Int64.le_iff_toInt_le]; rw [Int64.lt_iff_toInt_lt] at h; omega)).1
  · rw [if_neg h]
    by_cases h5 : 0 ≤ rf - s
    · have : (rf - s).toInt = 0 := by rw [Int64.lt_iff_toInt_lt] at h; rw [Int64.le_iff_toInt_le] at h5; omega
      have z : rf - s = 0 := Int64.toInt_inj.mp this
      have e2 : rf.toInt - s.toInt = 0 := by omega
      rw [z, e2]; rfl
    · exact (bd_neg hr hs h5).1
theorem sG_pos {rf s : Int64} (hr : bd rf 1000) (h : ¬ rf = 0) : 0 < rf.toInt.natAbs ∧ 0 < sG rf s ∧ sG rf s ≤ 1000 := by
  obtain ⟨e, h1⟩ := bd_rf hr
  have h2 : 0 < rf.toInt.natAbs := by
    rcases Nat.eq_zero_or_pos rf.toInt.natAbs with z | z
    · exfalso; apply h; rw [e, z]; rfl
    · exact z
  exact ⟨h2, Nat.gcd_pos_of_pos_right _ h2, Nat.le_trans (Nat.gcd_le_right _ h2) h1⟩
set_option maxHeartbeats 4000000 in
set_option maxRecDepth 100000 in
/-- commonDivisor -/
theorem c1_gcd (l : Launch) (ga gb : Nat) (hA : ga ≤ 1000) (hB : gb ≤ 1000) (hB0 : 0 < gb) : Met l yX1_commonDivisor wsX1_commonDivisor ({ frames := 1, cells := 0, slots := 0, locals := 23 }) (va_Pc [.long (lN ga), .long (lN gb)] (fun _ => True)) (vp_Sl (fun r : Int64 => r = lN (Nat.gcd ga gb))) 0 0 (fun _ => False) := by
  refine Met.ofW (cc := cX1_commonDivisor) (maxL := 11) (ret := (some .long)) (by decide) rfl ?_
  intro p e s m args below meth c s₁ B hml hv
  obtain ⟨rfl, -⟩ := hv
  have hx := B.exec
  have hb := B.bytes
  have hr := B.returns
  have hts := atoms_spec (ws := wsX1_commonDivisor) B.pre
  have hown : s.vm.findClass RX1 = some m.cls := findClass_of_methodNamed B.named
  have hlocks := B.notSynchronized
  have hm1 : (.methodLink RX1 122 Lib.MathLoose.max_long.x : Cond) ∈ wsX1_commonDivisor := by decide +kernel
  have hm2 : (.static Lib.MathLoose.max_long.x : Cond) ∈ wsX1_commonDivisor := by decide +kernel
  have hm3 : (.initialized "java/lang/Math" : Cond) ∈ wsX1_commonDivisor := by decide +kernel
  have hm4 : (.code Lib.MathLoose.max_long.x Lib.MathLoose.max_long.code 4 (some .long) : Cond) ∈ wsX1_commonDivisor := by decide +kernel
  have hl := lv_entry ([.long (lN ga), .long (lN gb)]) (n := 11) (Nat.le_of_ble_eq_true rfl)
  rw [lg_entry_eq]
  generalize (lg_sl ([.long (lN ga), .long (lN gb)]) ++ List.replicate (11 - (lg_sl ([.long (lN ga), .long (lN gb)])).length) Slot.unset).toArray = ls at hl ⊢
  replace hl : lv_has ls 11 [(0, .long (lN ga)), (2, .long (lN gb))] := hl
  refine lv_lload_n hx hb dX1_commonDivisor_0 rfl (lv_at hl 0 rfl) ?_
  refine lv_lstore (lv' := [(4, .long (lN ga)), (0, .long (lN ga)), (2, .long (lN gb))]) hx hb dX1_commonDivisor_1 hl (by decide) rfl (fun ls hl => ?_)
  refine lv_lload_n hx hb dX1_commonDivisor_3 rfl (lv_at hl 2 rfl) ?_
  refine lv_lstore (lv' := [(6, .long (lN gb)), (4, .long (lN ga)), (0, .long (lN ga)), (2, .long (lN gb))]) hx hb dX1_commonDivisor_4 hl (by decide) rfl (fun ls hl => ?_)
  refine lv_iconst (v := 0) hx hb dX1_commonDivisor_6 (by decide) ?_
  refine lv_istore (lv' := [(8, .int 0), (6, .long (lN gb)), (4, .long (lN ga)), (0, .long (lN ga)), (2, .long (lN gb))]) hx hb dX1_commonDivisor_7 hl (by decide) rfl (fun ls hl => ?_)
  refine lv_iload hx hb dX1_commonDivisor_9 (lv_at hl 0 rfl) ?_
  refine lv_bipush (v := 100) hx hb dX1_commonDivisor_11 (by decide) ?_
  refine lv_icmp_ge (tgt := 44) hx hb dX1_commonDivisor_13 (by decide) (fun c_1 => absurd c_1 (by decide)) (fun c_1 => ?_)
  refine lv_lload hx hb dX1_commonDivisor_16 (lv_at hl 1 rfl) ?_
  refine lv_lconst (v := 0) hx hb dX1_commonDivisor_18 (by decide) ?_
  refine W.lcmp hx hb dX1_commonDivisor_19 ?_
  refine lv_if_eq (tgt := 44) hx hb dX1_commonDivisor_20 (by decide) (fun c_2 => absurd ((lg_cmp_eq _ _).mp c_2) (lN_ne0 hB0 (by omega))) (fun c_2 => ?_)
  refine lv_lload hx hb dX1_commonDivisor_23 (lv_at hl 2 rfl) ?_
  refine lv_lload hx hb dX1_commonDivisor_25 (lv_at hl 1 rfl) ?_
  refine lv_lrem hx hb dX1_commonDivisor_27 (lN_ne0 hB0 (by omega)) ?_
  refine W.eq (g2 := F0 m 28 ls [.long (lN (ga % gb))]) (by rw [pk_lRem (a := ga) (b := gb) (by omega) hB0 (by omega)]) ?_
  refine lv_lstore (lv' := [(9, .long (lN (ga % gb))), (8, .int 0), (6, .long (lN gb)), (4, .long (lN ga)), (0, .long (lN ga)), (2, .long (lN gb))]) hx hb dX1_commonDivisor_28 hl (by decide) rfl (fun ls hl => ?_)
  refine lv_lload hx hb dX1_commonDivisor_30 (lv_at hl 2 rfl) ?_
  refine lv_lstore (lv' := [(4, .long (lN gb)), (9, .long (lN (ga % gb))), (8, .int 0), (6, .long (lN gb)), (0, .long (lN ga)), (2, .long (lN gb))]) hx hb dX1_commonDivisor_32 hl (by decide) rfl (fun ls hl => ?_)
  refine lv_lload hx hb dX1_commonDivisor_34 (lv_at hl 1 rfl) ?_
  refine lv_lstore (lv' := [(6, .long (lN (ga % gb))), (4, .long (lN gb)), (9, .long (lN (ga % gb))), (8, .int 0), (0, .long (lN ga)), (2, .long (lN gb))]) hx hb dX1_commonDivisor_36 hl (by decide) rfl (fun ls hl => ?_)
  refine lv_iinc (v := 0 + 1) (lv' := [(8, .int (0 + 1)), (6, .long (lN (ga % gb))), (4, .long (lN gb)), (9, .long (lN (ga % gb))), (0, .long (lN ga)), (2, .long (lN gb))]) hx hb dX1_commonDivisor_38 hl (k := 3) rfl rfl (by decide) rfl (fun ls hl => ?_)
  refine lv_goto (tgt := 9) hx hb dX1_commonDivisor_41 (by decide) ?_
  obtain ⟨f, k, x, y, hI, hl2⟩ : ∃ f k x y : Nat, (y < x ∧ x ≤ 1000 ∧ x * y < 2 ^ f ∧ k + f ≤ 90 ∧ Nat.gcd x y = Nat.gcd ga gb) ∧ lv_has ls 11 [(8, .int (nI k)), (4, .long (lN x)), (6, .long (lN y))] := ⟨20, 1, gb, ga % gb, ⟨Nat.mod_lt ga hB0, hB, gcd_first hA hB hB0, by omega, gcd_step ga gb⟩, lv_sub hl [0, 2, 1] rfl⟩
  clear hl
  induction f generalizing k x y ls with
  | zero =>
    obtain ⟨i1, i2, i3, i4, i5⟩ := hI
    have hl := hl2
    clear hl2
    have hy : y = 0 := by rcases Nat.eq_zero_or_pos y with z | z; exact z; have := Nat.mul_le_mul (show 1 ≤ x by omega) (show 1 ≤ y by omega); omega
    have hg : x = Nat.gcd ga gb := by rw [← i5, hy, Nat.gcd_zero_right]
    refine lv_iload hx hb dX1_commonDivisor_9 (lv_at hl 0 rfl) ?_
    refine lv_bipush (v := 100) hx hb dX1_commonDivisor_11 (by decide) ?_
    refine lv_icmp_ge (tgt := 44) hx hb dX1_commonDivisor_13 (by decide) (fun c_3 => absurd c_3 (nI_ge (a := k) (b := 100) (by omega) (by omega))) (fun c_3 => ?_)
    refine lv_lload hx hb dX1_commonDivisor_16 (lv_at hl 2 rfl) ?_
    refine lv_lconst (v := 0) hx hb dX1_commonDivisor_18 (by decide) ?_
    refine W.lcmp hx hb dX1_commonDivisor_19 ?_
    refine lv_if_eq (tgt := 44) hx hb dX1_commonDivisor_20 (by decide) (fun c_4 => ?_) (fun c_4 => absurd ((lg_cmp_eq _ _).mpr (by rw [hy]; rfl)) c_4)
    refine lv_lload hx hb dX1_commonDivisor_44 (lv_at hl 1 rfl) ?_
    refine lv_lconst (v := 1) hx hb dX1_commonDivisor_46 (by decide) ?_
    refine va_mmax_long hx hb (by rw [hml]; exact hl.1.symm) hown (hts _ hm1) (hts _ hm2) (hts _ hm3) (hts _ hm4) (Nat.le_of_ble_eq_true rfl) (Nat.le_of_ble_eq_true rfl) (Nat.le_of_ble_eq_true rfl) (Nat.le_of_ble_eq_true rfl) dX1_commonDivisor_47 ?_
    exact W.lret (v := (if 1 < (lN x) then (lN x) else 1)) hx hb hr (fun t ht hW => ⟨_, rfl, by rw [lN_max1 (by omega) (by omega), hg], ht⟩) (fun q h => absurd h List.not_mem_nil) dX1_commonDivisor_50
  | succ f ih =>
    obtain ⟨i1, i2, i3, i4, i5⟩ := hI
    have hl := hl2
    clear hl2
    by_cases hy : y = 0
    · skip
      have hg : x = Nat.gcd ga gb := by rw [← i5, hy, Nat.gcd_zero_right]
      refine lv_iload hx hb dX1_commonDivisor_9 (lv_at hl 0 rfl) ?_
      refine lv_bipush (v := 100) hx hb dX1_commonDivisor_11 (by decide) ?_
      refine lv_icmp_ge (tgt := 44) hx hb dX1_commonDivisor_13 (by decide) (fun c_5 => absurd c_5 (nI_ge (a := k) (b := 100) (by omega) (by omega))) (fun c_5 => ?_)
      refine lv_lload hx hb dX1_commonDivisor_16 (lv_at hl 2 rfl) ?_
      refine lv_lconst (v := 0) hx hb dX1_commonDivisor_18 (by decide) ?_
      refine W.lcmp hx hb dX1_commonDivisor_19 ?_
      refine lv_if_eq (tgt := 44) hx hb dX1_commonDivisor_20 (by decide) (fun c_6 => ?_) (fun c_6 => absurd ((lg_cmp_eq _ _).mpr (by rw [hy]; rfl)) c_6)
      refine lv_lload hx hb dX1_commonDivisor_44 (lv_at hl 1 rfl) ?_
      refine lv_lconst (v := 1) hx hb dX1_commonDivisor_46 (by decide) ?_
      refine va_mmax_long hx hb (by rw [hml]; exact hl.1.symm) hown (hts _ hm1) (hts _ hm2) (hts _ hm3) (hts _ hm4) (Nat.le_of_ble_eq_true rfl) (Nat.le_of_ble_eq_true rfl) (Nat.le_of_ble_eq_true rfl) (Nat.le_of_ble_eq_true rfl) dX1_commonDivisor_47 ?_
      exact W.lret (v := (if 1 < (lN x) then (lN x) else 1)) hx hb hr (fun t ht hW => ⟨_, rfl, by rw [lN_max1 (by omega) (by omega), hg], ht⟩) (fun q h => absurd h List.not_mem_nil) dX1_commonDivisor_50
    · skip
      have hy0 : 0 < y := by omega
      refine lv_iload hx hb dX1_commonDivisor_9 (lv_at hl 0 rfl) ?_
      refine lv_bipush (v := 100) hx hb dX1_commonDivisor_11 (by decide) ?_
      refine lv_icmp_ge (tgt := 44) hx hb dX1_commonDivisor_13 (by decide) (fun c_7 => absurd c_7 (nI_ge (a := k) (b := 100) (by omega) (by omega))) (fun c_7 => ?_)
      refine lv_lload hx hb dX1_commonDivisor_16 (lv_at hl 2 rfl) ?_
      refine lv_lconst (v := 0) hx hb dX1_commonDivisor_18 (by decide) ?_
      refine W.lcmp hx hb dX1_commonDivisor_19 ?_
      refine lv_if_eq (tgt := 44) hx hb dX1_commonDivisor_20 (by decide) (fun c_8 => absurd ((lg_cmp_eq _ _).mp c_8) (lN_ne0 hy0 (by omega))) (fun c_8 => ?_)
      refine lv_lload hx hb dX1_commonDivisor_23 (lv_at hl 1 rfl) ?_
      refine lv_lload hx hb dX1_commonDivisor_25 (lv_at hl 2 rfl) ?_
      refine lv_lrem hx hb dX1_commonDivisor_27 (lN_ne0 hy0 (by omega)) ?_
      refine W.eq (g2 := F0 m 28 ls [.long (lN (x % y))]) (by rw [pk_lRem (a := x) (b := y) (by omega) hy0 (by omega)]) ?_
      refine lv_lstore (lv' := [(9, .long (lN (x % y))), (8, .int (nI k)), (4, .long (lN x)), (6, .long (lN y))]) hx hb dX1_commonDivisor_28 hl (by decide) rfl (fun ls hl => ?_)
      refine lv_lload hx hb dX1_commonDivisor_30 (lv_at hl 3 rfl) ?_
      refine lv_lstore (lv' := [(4, .long (lN y)), (9, .long (lN (x % y))), (8, .int (nI k)), (6, .long (lN y))]) hx hb dX1_commonDivisor_32 hl (by decide) rfl (fun ls hl => ?_)
      refine lv_lload hx hb dX1_commonDivisor_34 (lv_at hl 1 rfl) ?_
      refine lv_lstore (lv' := [(6, .long (lN (x % y))), (4, .long (lN y)), (9, .long (lN (x % y))), (8, .int (nI k))]) hx hb dX1_commonDivisor_36 hl (by decide) rfl (fun ls hl => ?_)
      refine lv_iinc (v := nI (k + 1)) (lv' := [(8, .int (nI (k + 1))), (6, .long (lN (x % y))), (4, .long (lN y)), (9, .long (lN (x % y)))]) hx hb dX1_commonDivisor_38 hl (k := 3) rfl (nI_1 k) (by decide) rfl (fun ls hl => ?_)
      refine lv_goto (tgt := 9) hx hb dX1_commonDivisor_41 (by decide) ?_
      exact ih _ (k := k + 1) (x := y) (y := x % y) ⟨Nat.mod_lt x hy0, by omega, gcd_half hy0 i1 i3, by omega, by rw [gcd_step]; exact i5⟩ (lv_sub hl [0, 2, 1] rfl)
set_option maxHeartbeats 4000000 in
set_option maxRecDepth 100000 in
/-- slip -/
theorem m2_slip (l : Launch) (D : va_G) (m0 : Nat) (a : Nat → Nat) (C : Nat → ClassId) (n : Nat) (th : Int32) (sp : Nat → Int64) (lo ph : Nat → Int32) (pr bo : Nat → Int64) (mo : Nat → UInt64) (rf : Int64) (gr hd st ch rs : Int32) (hn : n ≤ 8) (w side : Int32) (hrf : bd rf 1000) (hsp : ∀ k, bd (sp k) 1000) (sz : Nat) : Met l yX2_slip wsX2_slip ({ frames := 1, cells := 0, slots := 0, locals := 22 }) (va_Pc [.ref m0, .int w, .int side] (xW D [(C 1, .long), (C 2, .boolean), (C 3, .int), (C 4, .long), (C 5, .long), (C 6, .double)] (mw m0 a C th (nI n) sp lo ph pr bo mo rf gr hd st ch rs) sz)) (va_Ql (fun (r : Int64) (u : (Int32)) => r = (if wOut n w then 0 else if rf = 0 then 0 else sSlip rf (sp w.toNatClampNeg) side) ∧ u = (if wOut n w then 0 else if rf = 0 then 1 else 0)) (fun (u : (Int32)) => xB D [(C 1, .long), (C 2, .boolean), (C 3, .int), (C 4, .long), (C 5, .long), (C 6, .double)] (va_A (mw m0 a C th (nI n) sp lo ph pr bo mo rf gr hd st ch rs) sz) (mw m0 a C u (nI n) sp lo ph pr bo mo rf gr hd st ch rs)) (va_A (mw m0 a C th (nI n) sp lo ph pr bo mo rf gr hd st ch rs) sz)) 0 0 (va_A (mw m0 a C th (nI n) sp lo ph pr bo mo rf gr hd st ch rs) sz) := by
  rcases w_io n w hn with hwo | ⟨i, hi, rfl⟩
  · skip
    refine Met.ofW (cc := cX2_slip) (maxL := 11) (ret := (some .long)) (by decide) rfl ?_
    intro p e s m args below meth c s₁ B hml hv
    obtain ⟨rfl, hsz, ⟨hP, hK, hN⟩, hDt⟩ := hv
    have hx := B.exec
    have hb := B.bytes
    have hr := B.returns
    have hts := atoms_spec (ws := wsX2_slip) B.pre
    have hown : s.vm.findClass RX2 = some m.cls := findClass_of_methodNamed B.named
    have hlocks := B.notSynchronized
    have hm1 : (.fieldLink RX2 40 "GearBrakeModel" "thrown" "I" : Cond) ∈ wsX2_slip := by decide +kernel
    subst hsz
    have hD := hDt.self (sz := s.heap.size)
    generalize hAe : va_A (mw m0 a C th (nI n) sp lo ph pr bo mo rf gr hd st ch rs) s.heap.size = A at hD ⊢
    have hA : ∀ q : Nat, s.heap.size ≤ q → A q := fun q h => by rw [← hAe]; exact Or.inr h
    have hS : va_S A s.heap s.heap [] := va_S.rf
    have hl := lv_entry ([.ref m0, .int w, .int side]) (n := 11) (Nat.le_of_ble_eq_true rfl)
    rw [lg_entry_eq]
    generalize (lg_sl ([.ref m0, .int w, .int side]) ++ List.replicate (11 - (lg_sl ([.ref m0, .int w, .int side])).length) Slot.unset).toArray = ls at hl ⊢
    replace hl : lv_has ls 11 [(0, .ref m0), (1, .int w), (2, .int side)] := hl
    refine lv_aload_n hx hb dX2_slip_0 rfl (lv_at hl 0 rfl) ?_
    refine lv_iconst (v := 0) hx hb dX2_slip_1 (by decide) ?_
    refine va_put (D := D) (ci := 2) (v := .int 0) (ty := .int) (C := RX2) (T := TX2) (N := 14) hx hb hts (by decide +kernel) tyX2 tyX2_ok nmX2 hown hK hP hD hS 0 rfl rfl 0 (by decide) (hts _ hm1) (fun _ h9 => h9) rfl (by decide +kernel) rfl rfl (Nat.le_of_ble_eq_true rfl) dX2_slip_2 (fun H locs hP hD hS => ?_)
    replace hP : va_P D vwCl (mw m0 a C 0 (nI n) sp lo ph pr bo mo rf gr hd st ch rs) H := hP
    replace hD : va_D A (mw m0 a C 0 (nI n) sp lo ph pr bo mo rf gr hd st ch rs) := hD
    refine lv_aload_n hx hb dX2_slip_5 rfl (lv_at hl 0 rfl) ?_
    refine lv_iload_n hx hb dX2_slip_6 rfl (lv_at hl 1 rfl) ?_
    refine vp_callSi (W.runV (As := [.int w]) (rest := []) ⟨hx, hb, hml, hown, hts⟩ (m2_no_out l D m0 a C n 0 sp lo ph pr bo mo rf gr hd st ch rs hn w hwo) (cwV 1 hts gX2_slip_X2_noWheel rfl rfl rfl (by decide +kernel) ⟨Nat.le_of_ble_eq_true rfl, Nat.le_of_ble_eq_true rfl⟩) ⟨xP_blind, va_recv hK hP (ci := 2) (q0 := 0) rfl rfl, xP_at hP hK hN⟩ rfl rfl hl.1 rfl (lv_room (Nat.le_of_ble_eq_true rfl)) dX2_slip_7 ⟨Nat.le_of_ble_eq_true rfl, Nat.le_of_ble_eq_true rfl⟩) (fun r_1 hr_2 => ?_)
    subst hr_2
    refine lv_if_eq (tgt := 15) hx hb dX2_slip_10 (by decide) (fun c_3 => absurd c_3 (by decide)) (fun c_3 => ?_)
    refine lv_lconst (v := 0) hx hb dX2_slip_13 (by decide) ?_
    exact W.lret (v := 0) hx hb hr (fun t ht hW => ⟨⟨_, (0), rfl, ⟨by simp [hwo], by simp [hwo]⟩, xB_end hP hK hN hD ht hW⟩, hS.F ht⟩) hS.2.2 dX2_slip_14
  · skip
    refine Met.ofW (cc := cX2_slip) (maxL := 11) (ret := (some .long)) (by decide) rfl ?_
    intro p e s m args below meth c s₁ B hml hv
    obtain ⟨rfl, hsz, ⟨hP, hK, hN⟩, hDt⟩ := hv
    have hx := B.exec
    have hb := B.bytes
    have hr := B.returns
    have hts := atoms_spec (ws := wsX2_slip) B.pre
    have hown : s.vm.findClass RX2 = some m.cls := findClass_of_methodNamed B.named
    have hlocks := B.notSynchronized
    have hm1 : (.fieldLink RX2 40 "GearBrakeModel" "thrown" "I" : Cond) ∈ wsX2_slip := by decide +kernel
    have hm2 : (.fieldLink RX2 53 "GearBrakeModel" "reference" "J" : Cond) ∈ wsX2_slip := by decide +kernel
    have hm3 : (.fieldLink RX2 7 "GearBrakeModel" "speeds" "[J" : Cond) ∈ wsX2_slip := by decide +kernel
    subst hsz
    have hD := hDt.self (sz := s.heap.size)
    generalize hAe : va_A (mw m0 a C th (nI n) sp lo ph pr bo mo rf gr hd st ch rs) s.heap.size = A at hD ⊢
    have hA : ∀ q : Nat, s.heap.size ≤ q → A q := fun q h => by rw [← hAe]; exact Or.inr h
    have hS : va_S A s.heap s.heap [] := va_S.rf
    have hl := lv_entry ([.ref m0, .int (nI (i + 1)), .int side]) (n := 11) (Nat.le_of_ble_eq_true rfl)
    rw [lg_entry_eq]
    generalize (lg_sl ([.ref m0, .int (nI (i + 1)), .int side]) ++ List.replicate (11 - (lg_sl ([.ref m0, .int (nI (i + 1)), .int side])).length) Slot.unset).toArray = ls at hl ⊢
    replace hl : lv_has ls 11 [(0, .ref m0), (1, .int (nI (i + 1))), (2, .int side)] := hl
    refine lv_aload_n hx hb dX2_slip_0 rfl (lv_at hl 0 rfl) ?_
    refine lv_iconst (v := 0) hx hb dX2_slip_1 (by decide) ?_
    refine va_put (D := D) (ci := 2) (v := .int 0) (ty := .int) (C := RX2) (T := TX2) (N := 14) hx hb hts (by decide +kernel) tyX2 tyX2_ok nmX2 hown hK hP hD hS 0 rfl rfl 0 (by decide) (hts _ hm1) (fun _ h9 => h9) rfl (by decide +kernel) rfl rfl (Nat.le_of_ble_eq_true rfl) dX2_slip_2 (fun H locs hP hD hS => ?_)
    replace hP : va_P D vwCl (mw m0 a C 0 (nI n) sp lo ph pr bo mo rf gr hd st ch rs) H := hP
    replace hD : va_D A (mw m0 a C 0 (nI n) sp lo ph pr bo mo rf gr hd st ch rs) := hD
    refine lv_aload_n hx hb dX2_slip_5 rfl (lv_at hl 0 rfl) ?_
    refine lv_iload_n hx hb dX2_slip_6 rfl (lv_at hl 1 rfl) ?_
    refine vp_callSi (W.runV (As := [.int (nI (i + 1))]) (rest := []) ⟨hx, hb, hml, hown, hts⟩ (m2_no_in l D m0 a C n 0 sp lo ph pr bo mo rf gr hd st ch rs hn i hi) (cwV 1 hts gX2_slip_X2_noWheel rfl rfl rfl (by decide +kernel) ⟨Nat.le_of_ble_eq_true rfl, Nat.le_of_ble_eq_true rfl⟩) ⟨xP_blind, va_recv hK hP (ci := 2) (q0 := 0) rfl rfl, xP_at hP hK hN⟩ rfl rfl hl.1 rfl (lv_room (Nat.le_of_ble_eq_true rfl)) dX2_slip_7 ⟨Nat.le_of_ble_eq_true rfl, Nat.le_of_ble_eq_true rfl⟩) (fun r_1 hr_2 => ?_)
    subst hr_2
    refine lv_if_eq (tgt := 15) hx hb dX2_slip_10 (by decide) (fun c_3 => ?_) (fun c_3 => absurd (by decide) c_3)
    refine lv_aload_n hx hb dX2_slip_15 rfl (lv_at hl 0 rfl) ?_
    refine lv_aload_n hx hb dX2_slip_16 rfl (lv_at hl 0 rfl) ?_
    refine va_get (D := D) (ci := 2) (v := .long rf) (C := RX2) (T := TX2) (N := 14) hx hb hts (by decide +kernel) hown hK hP 0 rfl rfl 8 (by decide) (hts _ hm2) (fun _ h9 => h9) rfl dX2_slip_17 ?_
    refine lv_lconst (v := 0) hx hb dX2_slip_20 (by decide) ?_
    refine W.lcmp hx hb dX2_slip_21 ?_
    refine lv_if_ne (tgt := 29) hx hb dX2_slip_22 (by decide) (fun c_4 => ?_) (fun c_4 => ?_)
    · skip
      replace c_4 := mt (lg_cmp_eq _ _).mpr c_4
      refine lv_iconst (v := 0) hx hb dX2_slip_29 (by decide) ?_
      refine va_put (D := D) (ci := 2) (v := .int 0) (ty := .int) (C := RX2) (T := TX2) (N := 14) hx hb hts (by decide +kernel) tyX2 tyX2_ok nmX2 hown hK hP hD hS 0 rfl rfl 0 (by decide) (hts _ hm1) (fun _ h9 => h9) rfl (by decide +kernel) rfl rfl (Nat.le_of_ble_eq_true rfl) dX2_slip_30 (fun H locs hP hD hS => ?_)
      replace hP : va_P D vwCl (mw m0 a C 0 (nI n) sp lo ph pr bo mo rf gr hd st ch rs) H := hP
      replace hD : va_D A (mw m0 a C 0 (nI n) sp lo ph pr bo mo rf gr hd st ch rs) := hD
      refine lv_aload_n hx hb dX2_slip_33 rfl (lv_at hl 0 rfl) ?_
      refine va_get (D := D) (ci := 2) (v := .int 0) (C := RX2) (T := TX2) (N := 14) hx hb hts (by decide +kernel) hown hK hP 0 rfl rfl 0 (by decide) (hts _ hm1) (fun _ h9 => h9) rfl dX2_slip_34 ?_
      refine lv_if_le (tgt := 42) hx hb dX2_slip_37 (by decide) (fun c_5 => ?_) (fun c_5 => absurd (by decide) c_5)
      refine lv_aload_n hx hb dX2_slip_42 rfl (lv_at hl 0 rfl) ?_
      refine va_get (D := D) (ci := 2) (v := .long rf) (C := RX2) (T := TX2) (N := 14) hx hb hts (by decide +kernel) hown hK hP 0 rfl rfl 8 (by decide) (hts _ hm2) (fun _ h9 => h9) rfl dX2_slip_43 ?_
      refine lv_aload_n hx hb dX2_slip_46 rfl (lv_at hl 0 rfl) ?_
      refine va_get (D := D) (ci := 2) (v := .ref (a 1)) (C := RX2) (T := TX2) (N := 14) hx hb hts (by decide +kernel) hown hK hP 0 rfl rfl 2 (by decide) (hts _ hm3) (fun _ h9 => h9) rfl dX2_slip_47 ?_
      refine lv_iload_n hx hb dX2_slip_50 rfl (lv_at hl 1 rfl) ?_
      refine va_lald (D := D) (f := sp) hx hb hK hP 1 0 rfl rfl (ix_9 hn hi) dX2_slip_51 ?_
      refine W.eq (g2 := F0 m 52 ls [.long (sp (i + 1)), .long rf]) (by rw [wIx hn hi]) ?_
      refine lv_lsub hx hb dX2_slip_52 ?_
      refine lv_lstore_n (lv' := [(3, .long (rf - (sp (i + 1)))), (0, .ref m0), (1, .int (nI (i + 1))), (2, .int side)]) hx hb dX2_slip_53 rfl hl (by decide) rfl (fun ls hl => ?_)
      refine lv_lload_n hx hb dX2_slip_54 rfl (lv_at hl 0 rfl) ?_
      refine lv_lconst (v := 0) hx hb dX2_slip_55 (by decide) ?_
      refine W.lcmp hx hb dX2_slip_56 ?_
      refine lv_if_ge (tgt := 65) hx hb dX2_slip_57 (by decide) (fun c_6 => ?_) (fun c_6 => ?_)
      · skip
        replace c_6 := (lg_cmp_ge _ _).mp c_6
        refine lv_lload_n hx hb dX2_slip_65 rfl (lv_at hl 0 rfl) ?_
        refine W.eq (g2 := F0 m 66 ls [.long (lN (rf.toInt - (sp (i + 1)).toInt).natAbs)]) (congrArg (fun z => F0 m 66 ls [.long z]) (bd_pos hrf (hsp (i + 1)) c_6).1) ?_
        refine lv_lstore (lv' := [(5, .long (lN (rf.toInt - (sp (i + 1)).toInt).natAbs)), (3, .long (rf - (sp (i + 1)))), (0, .ref m0), (1, .int (nI (i + 1))), (2, .int side)]) hx hb dX2_slip_66 hl (by decide) rfl (fun ls hl => ?_)
        refine lv_aload_n hx hb dX2_slip_68 rfl (lv_at hl 2 rfl) ?_
        refine va_get (D := D) (ci := 2) (v := .long rf) (C := RX2) (T := TX2) (N := 14) hx hb hts (by decide +kernel) hown hK hP 0 rfl rfl 8 (by decide) (hts _ hm2) (fun _ h9 => h9) rfl dX2_slip_69 ?_
        refine W.eq (g2 := F0 m 72 ls [.long (lN rf.toInt.natAbs)]) (congrArg (fun z => F0 m 72 ls [.long z]) (bd_rf hrf).1) ?_
        refine lv_lstore (lv' := [(7, .long (lN rf.toInt.natAbs)), (5, .long (lN (rf.toInt - (sp (i + 1)).toInt).natAbs)), (3, .long (rf - (sp (i + 1)))), (0, .ref m0), (1, .int (nI (i + 1))), (2, .int side)]) hx hb dX2_slip_72 hl (by decide) rfl (fun ls hl => ?_)
        obtain ⟨f, x, y, hI, hl2⟩ : ∃ f x y : Nat, (y ≤ f ∧ x ≤ 1000 ∧ y ≤ 1000 ∧ Nat.gcd x y = sG rf (sp (i + 1))) ∧ lv_has ls 11 [(7, .long (lN y)), (5, .long (lN x)), (3, .long (rf - (sp (i + 1)))), (2, .int side), (0, .ref m0)] := ⟨1000, (rf.toInt - (sp (i + 1)).toInt).natAbs, rf.toInt.natAbs, ⟨(bd_rf hrf).2, (bd_pos hrf (hsp (i + 1)) c_6).2, (bd_rf hrf).2, rfl⟩, lv_sub hl [0, 1, 2, 5, 3] rfl⟩
        clear hl
        induction f generalizing x y ls with
        | zero =>
          obtain ⟨i1, i2, i3, i5⟩ := hI
          have hl := hl2
          clear hl2
          have hy : y = 0 := by omega
          have hg : x = sG rf (sp (i + 1)) := by rw [← i5, hy, Nat.gcd_zero_right]
          have hg0 := sG_pos (s := sp (i + 1)) hrf c_4
          refine lv_lload hx hb dX2_slip_74 (lv_at hl 0 rfl) ?_
          refine lv_lconst (v := 0) hx hb dX2_slip_76 (by decide) ?_
          refine W.lcmp hx hb dX2_slip_77 ?_
          refine lv_if_eq (tgt := 99) hx hb dX2_slip_78 (by decide) (fun c_7 => ?_) (fun c_7 => absurd ((lg_cmp_eq _ _).mpr (by rw [hy]; rfl)) c_7)
          refine lv_iload_n hx hb dX2_slip_99 rfl (lv_at hl 3 rfl) ?_
          refine lv_if_ne (tgt := 110) hx hb dX2_slip_100 (by decide) (fun c_8 => ?_) (fun c_8 => ?_)
          · skip
            refine lv_aload_n hx hb dX2_slip_110 rfl (lv_at hl 4 rfl) ?_
            refine va_get (D := D) (ci := 2) (v := .long rf) (C := RX2) (T := TX2) (N := 14) hx hb hts (by decide +kernel) hown hK hP 0 rfl rfl 8 (by decide) (hts _ hm2) (fun _ h9 => h9) rfl dX2_slip_111 ?_
            refine lv_lload hx hb dX2_slip_114 (lv_at hl 1 rfl) ?_
            refine lv_ldiv hx hb dX2_slip_116 (lN_ne0 (by omega) (by omega)) ?_
            exact W.lret (v := (rf / (lN x))) hx hb hr (fun t ht hW => ⟨⟨_, (0), rfl, ⟨by rw [if_neg (wOut_in hn hi), if_neg c_4, wIx hn hi]; simp [sSlip, c_8, hg], by simp [wOut_in hn hi, c_4]⟩, xB_end hP hK hN hD ht hW⟩, hS.F ht⟩) hS.2.2 dX2_slip_117
          · skip
            refine lv_lload_n hx hb dX2_slip_103 rfl (lv_at hl 2 rfl) ?_
            refine lv_lload hx hb dX2_slip_104 (lv_at hl 1 rfl) ?_
            refine lv_ldiv hx hb dX2_slip_106 (lN_ne0 (by omega) (by omega)) ?_
            refine lv_goto (tgt := 117) hx hb dX2_slip_107 (by decide) ?_
            exact W.lret (v := ((rf - (sp (i + 1))) / (lN x))) hx hb hr (fun t ht hW => ⟨⟨_, (0), rfl, ⟨by rw [if_neg (wOut_in hn hi), if_neg c_4, wIx hn hi]; simp [sSlip, c_8, hg], by simp [wOut_in hn hi, c_4]⟩, xB_end hP hK hN hD ht hW⟩, hS.F ht⟩) hS.2.2 dX2_slip_117
        | succ f ih =>
          obtain ⟨i1, i2, i3, i5⟩ := hI
          have hl := hl2
          clear hl2
          by_cases hy : y = 0
          · skip
            have hg : x = sG rf (sp (i + 1)) := by rw [← i5, hy, Nat.gcd_zero_right]
            have hg0 := sG_pos (s := sp (i + 1)) hrf c_4
            refine lv_lload hx hb dX2_slip_74 (lv_at hl 0 rfl) ?_
            refine lv_lconst (v := 0) hx hb dX2_slip_76 (by decide) ?_
            refine W.lcmp hx hb dX2_slip_77 ?_
            refine lv_if_eq (tgt := 99) hx hb dX2_slip_78 (by decide) (fun c_9 => ?_) (fun c_9 => absurd ((lg_cmp_eq _ _).mpr (by rw [hy]; rfl)) c_9)
            refine lv_iload_n hx hb dX2_slip_99 rfl (lv_at hl 3 rfl) ?_
            refine lv_if_ne (tgt := 110) hx hb dX2_slip_100 (by decide) (fun c_10 => ?_) (fun c_10 => ?_)
            · skip
              refine lv_aload_n hx hb dX2_slip_110 rfl (lv_at hl 4 rfl) ?_
              refine va_get (D := D) (ci := 2) (v := .long rf) (C := RX2) (T := TX2) (N := 14) hx hb hts (by decide +kernel) hown hK hP 0 rfl rfl 8 (by decide) (hts _ hm2) (fun _ h9 => h9) rfl dX2_slip_111 ?_
              refine lv_lload hx hb dX2_slip_114 (lv_at hl 1 rfl) ?_
              refine lv_ldiv hx hb dX2_slip_116 (lN_ne0 (by omega) (by omega)) ?_
              exact W.lret (v := (rf / (lN x))) hx hb hr (fun t ht hW => ⟨⟨_, (0), rfl, ⟨by rw [if_neg (wOut_in hn hi), if_neg c_4, wIx hn hi]; simp [sSlip, c_10, hg], by simp [wOut_in hn hi, c_4]⟩, xB_end hP hK hN hD ht hW⟩, hS.F ht⟩) hS.2.2 dX2_slip_117
            · skip
              refine lv_lload_n hx hb dX2_slip_103 rfl (lv_at hl 2 rfl) ?_
              refine lv_lload hx hb dX2_slip_104 (lv_at hl 1 rfl) ?_
              refine lv_ldiv hx hb dX2_slip_106 (lN_ne0 (by omega) (by omega)) ?_
              refine lv_goto (tgt := 117) hx hb dX2_slip_107 (by decide) ?_
              exact W.lret (v := ((rf - (sp (i + 1))) / (lN x))) hx hb hr (fun t ht hW => ⟨⟨_, (0), rfl, ⟨by rw [if_neg (wOut_in hn hi), if_neg c_4, wIx hn hi]; simp [sSlip, c_10, hg], by simp [wOut_in hn hi, c_4]⟩, xB_end hP hK hN hD ht hW⟩, hS.F ht⟩) hS.2.2 dX2_slip_117
          · skip
            have hy0 : 0 < y := by omega
            refine lv_lload hx hb dX2_slip_74 (lv_at hl 0 rfl) ?_
            refine lv_lconst (v := 0) hx hb dX2_slip_76 (by decide) ?_
            refine W.lcmp hx hb dX2_slip_77 ?_
            refine lv_if_eq (tgt := 99) hx hb dX2_slip_78 (by decide) (fun c_11 => absurd ((lg_cmp_eq _ _).mp c_11) (lN_ne0 hy0 (by omega))) (fun c_11 => ?_)
            refine lv_lload hx hb dX2_slip_81 (lv_at hl 1 rfl) ?_
            refine lv_lload hx hb dX2_slip_83 (lv_at hl 0 rfl) ?_
            refine lv_lrem hx hb dX2_slip_85 (lN_ne0 hy0 (by omega)) ?_
            refine W.eq (g2 := F0 m 86 ls [.long (lN (x % y))]) (by rw [pk_lRem (a := x) (b := y) (by omega) hy0 (by omega)]) ?_
            refine lv_lstore (lv' := [(9, .long (lN (x % y))), (7, .long (lN y)), (5, .long (lN x)), (3, .long (rf - (sp (i + 1)))), (2, .int side), (0, .ref m0)]) hx hb dX2_slip_86 hl (by decide) rfl (fun ls hl => ?_)
            refine lv_lload hx hb dX2_slip_88 (lv_at hl 1 rfl) ?_
            refine lv_lstore (lv' := [(5, .long (lN y)), (9, .long (lN (x % y))), (7, .long (lN y)), (3, .long (rf - (sp (i + 1)))), (2, .int side), (0, .ref m0)]) hx hb dX2_slip_90 hl (by decide) rfl (fun ls hl => ?_)
            refine lv_lload hx hb dX2_slip_92 (lv_at hl 1 rfl) ?_
            refine lv_lstore (lv' := [(7, .long (lN (x % y))), (5, .long (lN y)), (9, .long (lN (x % y))), (3, .long (rf - (sp (i + 1)))), (2, .int side), (0, .ref m0)]) hx hb dX2_slip_94 hl (by decide) rfl (fun ls hl => ?_)
            refine lv_goto (tgt := 74) hx hb dX2_slip_96 (by decide) ?_
            have hlt := Nat.mod_lt x hy0
            exact ih _ (x := y) (y := x % y) ⟨by omega, by omega, by omega, by rw [gcd_step]; exact i5⟩ (lv_sub hl [0, 1, 3, 4, 5] rfl)
      · skip
        replace c_6 := mt (lg_cmp_ge _ _).mpr c_6
        refine lv_lload_n hx hb dX2_slip_60 rfl (lv_at hl 0 rfl) ?_
        refine lv_lneg hx hb dX2_slip_61 ?_
        refine lv_goto (tgt := 66) hx hb dX2_slip_62 (by decide) ?_
        refine W.eq (g2 := F0 m 66 ls [.long (lN (rf.toInt - (sp (i + 1)).toInt).natAbs)]) (congrArg (fun z => F0 m 66 ls [.long z]) (bd_neg hrf (hsp (i + 1)) c_6).1) ?_
        refine lv_lstore (lv' := [(5, .long (lN (rf.toInt - (sp (i + 1)).toInt).natAbs)), (3, .long (rf - (sp (i + 1)))), (0, .ref m0), (1, .int (nI (i + 1))), (2, .int side)]) hx hb dX2_slip_66 hl (by decide) rfl (fun ls hl => ?_)
        refine lv_aload_n hx hb dX2_slip_68 rfl (lv_at hl 2 rfl) ?_
        refine va_get (D := D) (ci := 2) (v := .long rf) (C := RX2) (T := TX2) (N := 14) hx hb hts (by decide +kernel) hown hK hP 0 rfl rfl 8 (by decide) (hts _ hm2) (fun _ h9 => h9) rfl dX2_slip_69 ?_
        refine W.eq (g2 := F0 m 72 ls [.long (lN rf.toInt.natAbs)]) (congrArg (fun z => F0 m 72 ls [.long z]) (bd_rf hrf).1) ?_
        refine lv_lstore (lv' := [(7, .long (lN rf.toInt.natAbs)), (5, .long (lN (rf.toInt - (sp (i + 1)).toInt).natAbs)), (3, .long (rf - (sp (i + 1)))), (0, .ref m0), (1, .int (nI (i + 1))), (2, .int side)]) hx hb dX2_slip_72 hl (by decide) rfl (fun ls hl => ?_)
        obtain ⟨f, x, y, hI, hl2⟩ : ∃ f x y : Nat, (y ≤ f ∧ x ≤ 1000 ∧ y ≤ 1000 ∧ Nat.gcd x y = sG rf (sp (i + 1))) ∧ lv_has ls 11 [(7, .long (lN y)), (5, .long (lN x)), (3, .long (rf - (sp (i + 1)))), (2, .int side), (0, .ref m0)] := ⟨1000, (rf.toInt - (sp (i + 1)).toInt).natAbs, rf.toInt.natAbs, ⟨(bd_rf hrf).2, (bd_neg hrf (hsp (i + 1)) c_6).2, (bd_rf hrf).2, rfl⟩, lv_sub hl [0, 1, 2, 5, 3] rfl⟩
        clear hl
        induction f generalizing x y ls with
        | zero =>
          obtain ⟨i1, i2, i3, i5⟩ := hI
          have hl := hl2
          clear hl2
          have hy : y = 0 := by omega
          have hg : x = sG rf (sp (i + 1)) := by rw [← i5, hy, Nat.gcd_zero_right]
          have hg0 := sG_pos (s := sp (i + 1)) hrf c_4
          refine lv_lload hx hb dX2_slip_74 (lv_at hl 0 rfl) ?_
          refine lv_lconst (v := 0) hx hb dX2_slip_76 (by decide) ?_
          refine W.lcmp hx hb dX2_slip_77 ?_
          refine lv_if_eq (tgt := 99) hx hb dX2_slip_78 (by decide) (fun c_12 => ?_) (fun c_12 => absurd ((lg_cmp_eq _ _).mpr (by rw [hy]; rfl)) c_12)
          refine lv_iload_n hx hb dX2_slip_99 rfl (lv_at hl 3 rfl) ?_
          refine lv_if_ne (tgt := 110) hx hb dX2_slip_100 (by decide) (fun c_13 => ?_) (fun c_13 => ?_)
          · skip
            refine lv_aload_n hx hb dX2_slip_110 rfl (lv_at hl 4 rfl) ?_
            refine va_get (D := D) (ci := 2) (v := .long rf) (C := RX2) (T := TX2) (N := 14) hx hb hts (by decide +kernel) hown hK hP 0 rfl rfl 8 (by decide) (hts _ hm2) (fun _ h9 => h9) rfl dX2_slip_111 ?_
            refine lv_lload hx hb dX2_slip_114 (lv_at hl 1 rfl) ?_
            refine lv_ldiv hx hb dX2_slip_116 (lN_ne0 (by omega) (by omega)) ?_
            exact W.lret (v := (rf / (lN x))) hx hb hr (fun t ht hW => ⟨⟨_, (0), rfl, ⟨by rw [if_neg (wOut_in hn hi), if_neg c_4, wIx hn hi]; simp [sSlip, c_13, hg], by simp [wOut_in hn hi, c_4]⟩, xB_end hP hK hN hD ht hW⟩, hS.F ht⟩) hS.2.2 dX2_slip_117
          · skip
            refine lv_lload_n hx hb dX2_slip_103 rfl (lv_at hl 2 rfl) ?_
            refine lv_lload hx hb dX2_slip_104 (lv_at hl 1 rfl) ?_
            refine lv_ldiv hx hb dX2_slip_106 (lN_ne0 (by omega) (by omega)) ?_
            refine lv_goto (tgt := 117) hx hb dX2_slip_107 (by decide) ?_
            exact W.lret (v := ((rf - (sp (i + 1))) / (lN x))) hx hb hr (fun t ht hW => ⟨⟨_, (0), rfl, ⟨by rw [if_neg (wOut_in hn hi), if_neg c_4, wIx hn hi]; simp [sSlip, c_13, hg], by simp [wOut_in hn hi, c_4]⟩, xB_end hP hK hN hD ht hW⟩, hS.F ht⟩) hS.2.2 dX2_slip_117
        | succ f ih =>
          obtain ⟨i1, i2, i3, i5⟩ := hI
          have hl := hl2
          clear hl2
          by_cases hy : y = 0
          · skip
            have hg : x = sG rf (sp (i + 1)) := by rw [← i5, hy, Nat.gcd_zero_right]
            have hg0 := sG_pos (s := sp (i + 1)) hrf c_4
            refine lv_lload hx hb dX2_slip_74 (lv_at hl 0 rfl) ?_
            refine lv_lconst (v := 0) hx hb dX2_slip_76 (by decide) ?_
            refine W.lcmp hx hb dX2_slip_77 ?_
            refine lv_if_eq (tgt := 99) hx hb dX2_slip_78 (by decide) (fun c_14 => ?_) (fun c_14 => absurd ((lg_cmp_eq _ _).mpr (by rw [hy]; rfl)) c_14)
            refine lv_iload_n hx hb dX2_slip_99 rfl (lv_at hl 3 rfl) ?_
            refine lv_if_ne (tgt := 110) hx hb dX2_slip_100 (by decide) (fun c_15 => ?_) (fun c_15 => ?_)
            · skip
              refine lv_aload_n hx hb dX2_slip_110 rfl (lv_at hl 4 rfl) ?_
              refine va_get (D := D) (ci := 2) (v := .long rf) (C := RX2) (T := TX2) (N := 14) hx hb hts (by decide +kernel) hown hK hP 0 rfl rfl 8 (by decide) (hts _ hm2) (fun _ h9 => h9) rfl dX2_slip_111 ?_
              refine lv_lload hx hb dX2_slip_114 (lv_at hl 1 rfl) ?_
              refine lv_ldiv hx hb dX2_slip_116 (lN_ne0 (by omega) (by omega)) ?_
              exact W.lret (v := (rf / (lN x))) hx hb hr (fun t ht hW => ⟨⟨_, (0), rfl, ⟨by rw [if_neg (wOut_in hn hi), if_neg c_4, wIx hn hi]; simp [sSlip, c_15, hg], by simp [wOut_in hn hi, c_4]⟩, xB_end hP hK hN hD ht hW⟩, hS.F ht⟩) hS.2.2 dX2_slip_117
            · skip
              refine lv_lload_n hx hb dX2_slip_103 rfl (lv_at hl 2 rfl) ?_
              refine lv_lload hx hb dX2_slip_104 (lv_at hl 1 rfl) ?_
              refine lv_ldiv hx hb dX2_slip_106 (lN_ne0 (by omega) (by omega)) ?_
              refine lv_goto (tgt := 117) hx hb dX2_slip_107 (by decide) ?_
              exact W.lret (v := ((rf - (sp (i + 1))) / (lN x))) hx hb hr (fun t ht hW => ⟨⟨_, (0), rfl, ⟨by rw [if_neg (wOut_in hn hi), if_neg c_4, wIx hn hi]; simp [sSlip, c_15, hg], by simp [wOut_in hn hi, c_4]⟩, xB_end hP hK hN hD ht hW⟩, hS.F ht⟩) hS.2.2 dX2_slip_117
          · skip
            have hy0 : 0 < y := by omega
            refine lv_lload hx hb dX2_slip_74 (lv_at hl 0 rfl) ?_
            refine lv_lconst (v := 0) hx hb dX2_slip_76 (by decide) ?_
            refine W.lcmp hx hb dX2_slip_77 ?_
            refine lv_if_eq (tgt := 99) hx hb dX2_slip_78 (by decide) (fun c_16 => absurd ((lg_cmp_eq _ _).mp c_16) (lN_ne0 hy0 (by omega))) (fun c_16 => ?_)
            refine lv_lload hx hb dX2_slip_81 (lv_at hl 1 rfl) ?_
            refine lv_lload hx hb dX2_slip_83 (lv_at hl 0 rfl) ?_
            refine lv_lrem hx hb dX2_slip_85 (lN_ne0 hy0 (by omega)) ?_
            refine W.eq (g2 := F0 m 86 ls [.long (lN (x % y))]) (by rw [pk_lRem (a := x) (b := y) (by omega) hy0 (by omega)]) ?_
            refine lv_lstore (lv' := [(9, .long (lN (x % y))), (7, .long (lN y)), (5, .long (lN x)), (3, .long (rf - (sp (i + 1)))), (2, .int side), (0, .ref m0)]) hx hb dX2_slip_86 hl (by decide) rfl (fun ls hl => ?_)
            refine lv_lload hx hb dX2_slip_88 (lv_at hl 1 rfl) ?_
            refine lv_lstore (lv' := [(5, .long (lN y)), (9, .long (lN (x % y))), (7, .long (lN y)), (3, .long (rf - (sp (i + 1)))), (2, .int side), (0, .ref m0)]) hx hb dX2_slip_90 hl (by decide) rfl (fun ls hl => ?_)
            refine lv_lload hx hb dX2_slip_92 (lv_at hl 1 rfl) ?_
            refine lv_lstore (lv' := [(7, .long (lN (x % y))), (5, .long (lN y)), (9, .long (lN (x % y))), (3, .long (rf - (sp (i + 1)))), (2, .int side), (0, .ref m0)]) hx hb dX2_slip_94 hl (by decide) rfl (fun ls hl => ?_)
            refine lv_goto (tgt := 74) hx hb dX2_slip_96 (by decide) ?_
            have hlt := Nat.mod_lt x hy0
            exact ih _ (x := y) (y := x % y) ⟨by omega, by omega, by omega, by rw [gcd_step]; exact i5⟩ (lv_sub hl [0, 1, 3, 4, 5] rfl)
    · skip
      replace c_4 := (lg_cmp_eq _ _).mp c_4
      refine lv_iconst (v := 1) hx hb dX2_slip_25 (by decide) ?_
      refine lv_goto (tgt := 30) hx hb dX2_slip_26 (by decide) ?_
      refine va_put (D := D) (ci := 2) (v := .int 1) (ty := .int) (C := RX2) (T := TX2) (N := 14) hx hb hts (by decide +kernel) tyX2 tyX2_ok nmX2 hown hK hP hD hS 0 rfl rfl 0 (by decide) (hts _ hm1) (fun _ h9 => h9) rfl (by decide +kernel) rfl rfl (Nat.le_of_ble_eq_true rfl) dX2_slip_30 (fun H locs hP hD hS => ?_)
      replace hP : va_P D vwCl (mw m0 a C 1 (nI n) sp lo ph pr bo mo rf gr hd st ch rs) H := hP
      replace hD : va_D A (mw m0 a C 1 (nI n) sp lo ph pr bo mo rf gr hd st ch rs) := hD
      refine lv_aload_n hx hb dX2_slip_33 rfl (lv_at hl 0 rfl) ?_
      refine va_get (D := D) (ci := 2) (v := .int 1) (C := RX2) (T := TX2) (N := 14) hx hb hts (by decide +kernel) hown hK hP 0 rfl rfl 0 (by decide) (hts _ hm1) (fun _ h9 => h9) rfl dX2_slip_34 ?_
      refine lv_if_le (tgt := 42) hx hb dX2_slip_37 (by decide) (fun c_17 => absurd c_17 (by decide)) (fun c_17 => ?_)
      refine lv_lconst (v := 0) hx hb dX2_slip_40 (by decide) ?_
      exact W.lret (v := 0) hx hb hr (fun t ht hW => ⟨⟨_, (1), rfl, ⟨by simp [wOut_in hn hi, c_4], by simp [wOut_in hn hi, c_4]⟩, xB_end hP hK hN hD ht hW⟩, hS.F ht⟩) hS.2.2 dX2_slip_41
