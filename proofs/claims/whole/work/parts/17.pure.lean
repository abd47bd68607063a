/-! ===== both sides say the same ===== -/
theorem i64_le (a b : Int64) : a ≤ b ↔ a.toInt ≤ b.toInt := Int64.le_iff_toInt_le
theorem i64_ltI (a b : Int64) : a < b ↔ a.toInt < b.toInt := Int64.lt_iff_toInt_lt
theorem mx_eq (s t : Int64) : (if s < t then t else s) = if s ≤ t then t else s := by
  by_cases h : s < t
  · rw [if_pos h, if_pos (by rw [i64_le]; rw [i64_ltI] at h; omega)]
  · by_cases h2 : s ≤ t
    · rw [if_neg h, if_pos h2]
      apply Int64.toInt_inj.mp
      rw [i64_ltI] at h; rw [i64_le] at h2; omega
    · rw [if_neg h, if_neg h2]
theorem mn_eq (a b : Int64) : (if b < a then b else a) = if a ≤ b then a else b := by
  by_cases h : b < a
  · rw [if_pos h, if_neg (by rw [i64_le]; rw [i64_ltI] at h; omega)]
  · rw [if_neg h, if_pos (by rw [i64_le]; rw [i64_ltI] at h; omega)]
theorem cMin_eq (a b : Int64) : cMin a b = mMin a b := mn_eq a b
theorem cMx_eq (s : Int64) : cMx s = mMx s := by
  unfold cMx mMx
  by_cases h : 0 < s
  · rw [if_pos h, if_neg (by rw [i64_le]; rw [i64_ltI] at h; omega)]
  · rw [if_neg h, if_pos (by rw [i64_le]; rw [i64_ltI] at h; omega)]
theorem top_eq (lo : Nat → Int32) (sp : Nat → Int64) (n : Nat) : cTop lo sp n = mTop lo sp n := by
  induction n with
  | zero => rfl
  | succ n ih => simp only [cTop, mTop, ih, mx_eq]
theorem top_bd {lo : Nat → Int32} {sp : Nat → Int64} (h : ∀ k, bd (sp k) 1000) (n : Nat) : bd (mTop lo sp n) 1000 := by
  induction n with
  | zero => exact ⟨0, by omega, rfl⟩
  | succ n ih =>
    unfold mTop
    by_cases h1 : lo (n + 1) = 0
    · rw [if_pos h1]
      by_cases h2 : sp (n + 1) ≤ mTop lo sp n
      · rw [if_pos h2]; exact ih
      · rw [if_neg h2]; exact h _
    · rw [if_neg h1]; exact ih
theorem bd_int {x : Int64} {m : Nat} (hm : m < 2 ^ 31) (h : bd x m) : 0 ≤ x.toInt ∧ x.toInt ≤ m := by
  obtain ⟨k, hk, rfl⟩ := h
  rw [lN_toInt (by omega)]
  omega
theorem bd_of {x : Int64} {m : Nat} (hm : m < 2 ^ 31) (h0 : 0 ≤ x.toInt) (h : x.toInt ≤ m) : bd x m := ⟨x.toInt.natAbs, by omega, lN_of_toInt h0 (by omega)⟩
theorem subI {x c : Int64} {a b : Int} (hx : x.toInt = a) (hc : c.toInt = b) (h : -2147483648 ≤ a - b) (h2 : a - b < 2147483648) : (x - c).toInt = a - b := by
  rw [Int64.toInt_sub, hx, hc]
  exact Int.bmod_eq_of_le (by omega) (by omega)
theorem addI {x c : Int64} {a b : Int} (hx : x.toInt = a) (hc : c.toInt = b) (h : -2147483648 ≤ a + b) (h2 : a + b < 2147483648) : (x + c).toInt = a + b := by
  rw [Int64.toInt_add, hx, hc]
  exact Int.bmod_eq_of_le (by omega) (by omega)
theorem less_eq {rf : Int64} (h : bd rf 1000) : cLess rf = mLess rf := by
  obtain ⟨h0, h1⟩ := bd_int (by omega) h
  have e := subI (x := rf) (c := 3) rfl rfl (by show (-2147483648 : Int) ≤ rf.toInt - 3; omega) (by show rf.toInt - 3 < 2147483648; omega)
  have e3 : (3 : Int64).toInt = 3 := rfl
  have e0 : (0 : Int64).toInt = 0 := rfl
  rw [e3] at e
  unfold cLess mLess
  by_cases a : 0 < rf - 3
  · rw [if_pos a, if_pos (by rw [i64_le]; rw [i64_ltI] at a; omega)]
  · rw [if_neg a]
    by_cases b : 3 ≤ rf
    · rw [if_pos b]
      apply Int64.toInt_inj.mp
      rw [i64_ltI] at a; rw [i64_le] at b; omega
    · rw [if_neg b]
theorem less_bd {rf : Int64} (h : bd rf 1000) : bd (mLess rf) 1000 := by
  obtain ⟨h0, h1⟩ := bd_int (by omega) h
  have e := subI (x := rf) (c := 3) rfl rfl (by show (-2147483648 : Int) ≤ rf.toInt - 3; omega) (by show rf.toInt - 3 < 2147483648; omega)
  have e3 : (3 : Int64).toInt = 3 := rfl
  rw [e3] at e
  unfold mLess
  by_cases b : 3 ≤ rf
  · rw [if_pos b]; rw [i64_le] at b; exact bd_of (by omega) (by omega) (by omega)
  · rw [if_neg b]; exact ⟨0, by omega, rfl⟩
theorem ref_eq {n : Nat} {ped rf : Int64} {lo : Nat → Int32} {sp : Nat → Int64} (h : bd rf 1000) : cRef n ped rf lo sp = mRef n ped rf lo sp := by
  unfold cRef mRef
  rw [less_eq h, top_eq, mx_eq]
theorem ref_bd {n : Nat} {ped rf : Int64} {lo : Nat → Int32} {sp : Nat → Int64} (h : bd rf 1000) (hs : ∀ k, bd (sp k) 1000) : bd (mRef n ped rf lo sp) 1000 := by
  have h1 := less_bd h
  have h2 := top_bd (lo := lo) hs n
  unfold mRef
  by_cases a : cnt lo n = nI n
  · rw [if_pos a]; exact h1
  · rw [if_neg a]
    by_cases b : ped ≤ 0
    · rw [if_pos b]; exact h2
    · rw [if_neg b]
      by_cases c : mLess rf ≤ mTop lo sp n
      · rw [if_pos c]; exact h2
      · rw [if_neg c]; exact h1
theorem sPh_in (lo : Int32) (rf ped sp : Int64) (ph : Int32) (pr : Int64) : sPh lo rf ped sp ph pr = 0 ∨ sPh lo rf ped sp ph pr = 1 ∨ sPh lo rf ped sp ph pr = 2 ∨ sPh lo rf ped sp ph pr = 3 := by
  unfold sPh
  repeat' split
  all_goals simp
theorem want_eq {x : Int32} {ped pr : Int64} (hx : x = 0 ∨ x = 1 ∨ x = 2 ∨ x = 3) (h : bd pr 200) : cWant x ped pr = mWant x ped pr := by
  obtain ⟨h0, h1⟩ := bd_int (by omega) h
  have e := subI (x := pr) (c := 10) rfl rfl (by show (-2147483648 : Int) ≤ pr.toInt - 10; omega) (by show pr.toInt - 10 < 2147483648; omega)
  have e3 : (10 : Int64).toInt = 10 := rfl
  have e0 : (0 : Int64).toInt = 0 := rfl
  rw [e3] at e
  rcases hx with rfl | rfl | rfl | rfl
  · simp [cWant, mWant]
  · simp [cWant, mWant]
  · have : (if 0 < pr - 10 then pr - 10 else 0) = if 10 ≤ pr then pr - 10 else 0 := by
      by_cases a : 0 < pr - 10
      · rw [if_pos a, if_pos (by rw [i64_le]; rw [i64_ltI] at a; omega)]
      · rw [if_neg a]
        by_cases b : 10 ≤ pr
        · rw [if_pos b]
          apply Int64.toInt_inj.mp
          rw [i64_ltI] at a; rw [i64_le] at b; omega
        · rw [if_neg b]
    unfold cWant mWant
    rw [if_neg (show ¬ (2 : Int32) = 1 by decide), if_pos rfl, if_neg (show ¬ (2 : Int32) = 0 by decide), if_pos rfl]
    exact this
  · unfold cWant mWant
    rw [if_neg (show ¬ (3 : Int32) = 1 by decide), if_neg (show ¬ (3 : Int32) = 2 by decide), if_pos rfl, if_neg (show ¬ (3 : Int32) = 0 by decide), if_neg (show ¬ (3 : Int32) = 2 by decide), if_pos rfl]
    exact mn_eq _ _
theorem pr1_eq {x hd : Int32} {ped pr bo : Int64} (hx : x = 0 ∨ x = 1 ∨ x = 2 ∨ x = 3) (h : bd pr 200) : cPr x ped pr hd bo = mPr x ped pr hd bo := by
  have e : (if hd = 0 then cWant x ped pr else if 30 < cWant x ped pr then cWant x ped pr else 30) = mHold hd (mWant x ped pr) := by
    unfold mHold
    rw [want_eq hx h]
    by_cases a : hd = 0
    · rw [if_pos a, if_pos a]
    · rw [if_neg a, if_neg a]
      generalize mWant x ped pr = v
      by_cases b : 30 < v
      · rw [if_pos b, if_pos (by rw [i64_le]; rw [i64_ltI] at b; omega)]
      · rw [if_neg b]
        by_cases c : 30 ≤ v
        · rw [if_pos c]
          apply Int64.toInt_inj.mp
          rw [i64_ltI] at b; rw [i64_le] at c; omega
        · rw [if_neg c]
  unfold cPr mPr
  rw [e]
  exact mn_eq _ _
theorem pr_eq {n : Nat} {lo ph : Nat → Int32} {rf ped : Int64} {sp pr bo : Nat → Int64} {hd : Int32} (h : ∀ k, bd (pr k) 200) : jPr cPr lo ph rf ped sp pr bo hd n = jPr mPr lo ph rf ped sp pr bo hd n := by
  funext k
  unfold jPr
  by_cases a : 1 ≤ k ∧ k ≤ n
  · rw [if_pos a, if_pos a]; exact pr1_eq (sPh_in _ _ _ _ _ _) (h k)
  · rw [if_neg a, if_neg a]
theorem want_bd {x : Int32} {ped pr : Int64} (hp : bd ped 100) (h : bd pr 200) : bd (mWant x ped pr) 1000 := by
  obtain ⟨p0, p1⟩ := bd_int (by omega) hp
  obtain ⟨h0, h1⟩ := bd_int (by omega) h
  have e := subI (x := pr) (c := 10) rfl rfl (by show (-2147483648 : Int) ≤ pr.toInt - 10; omega) (by show pr.toInt - 10 < 2147483648; omega)
  have e5 := addI (x := pr) (c := 5) rfl rfl (by show (-2147483648 : Int) ≤ pr.toInt + 5; omega) (by show pr.toInt + 5 < 2147483648; omega)
  have e10 : (10 : Int64).toInt = 10 := rfl
  have e05 : (5 : Int64).toInt = 5 := rfl
  rw [e10] at e; rw [e05] at e5
  unfold mWant
  by_cases a : x = 0
  · rw [if_pos a]; exact bd_of (by omega) (by omega) (by omega)
  · rw [if_neg a]
    by_cases b : x = 2
    · rw [if_pos b]
      by_cases c : 10 ≤ pr
      · rw [if_pos c]; rw [i64_le] at c; exact bd_of (by omega) (by omega) (by omega)
      · rw [if_neg c]; exact ⟨0, by omega, rfl⟩
    · rw [if_neg b]
      by_cases c : x = 3
      · rw [if_pos c]
        by_cases d : pr + 5 ≤ ped
        · rw [if_pos d]; exact bd_of (by omega) (by omega) (by omega)
        · rw [if_neg d]; exact bd_of (by omega) (by omega) (by omega)
      · rw [if_neg c]; exact bd_of (by omega) (by omega) (by omega)
theorem mMin_bd {a b : Int64} (ha : bd a 1000) (hb : bd b 200) : bd (mMin a b) 200 := by
  obtain ⟨a0, a1⟩ := bd_int (by omega) ha
  obtain ⟨b0, b1⟩ := bd_int (by omega) hb
  unfold mMin
  by_cases c : a ≤ b
  · rw [if_pos c]; rw [i64_le] at c; exact bd_of (by omega) (by omega) (by omega)
  · rw [if_neg c]; exact hb
theorem bd_le {x : Int64} {m k : Nat} (h : bd x m) (hk : m ≤ k) : bd x k := by
  obtain ⟨i, hi, e⟩ := h
  exact ⟨i, by omega, e⟩
theorem pr1_bd {x hd : Int32} {ped pr bo : Int64} (hp : bd ped 100) (h : bd pr 200) (hb : bd bo 200) : bd (mPr x ped pr hd bo) 200 := by
  have hw : bd (mHold hd (mWant x ped pr)) 1000 := by
    unfold mHold
    by_cases a : hd = 0
    · rw [if_pos a]; exact want_bd hp h
    · rw [if_neg a]
      by_cases b : 30 ≤ mWant x ped pr
      · rw [if_pos b]; exact want_bd hp h
      · rw [if_neg b]; exact ⟨30, by omega, rfl⟩
  exact mMin_bd hw hb
theorem pr_bd {n : Nat} {lo ph : Nat → Int32} {rf ped : Int64} {sp pr bo : Nat → Int64} {hd : Int32} (hp : bd ped 100) (h : ∀ k, bd (pr k) 200) (hb : ∀ k, bd (bo k) 200) (k : Nat) : bd (jPr mPr lo ph rf ped sp pr bo hd n k) 200 := by
  unfold jPr
  by_cases a : 1 ≤ k ∧ k ≤ n
  · rw [if_pos a]; exact pr1_bd hp (h k) (hb k)
  · rw [if_neg a]; exact h k
theorem hd_eq {hd : Int32} (h : hd = 0 ∨ hd = 1) (rf : Int64) : (if rf ≤ 20 then hd else 0) = if hd = 0 then 0 else if rf ≤ 20 then 1 else 0 := by
  rcases h with rfl | rfl <;> by_cases a : rf ≤ 20 <;> simp [a]
theorem hd_in {hd : Int32} {rf : Int64} : (if hd = 0 then 0 else if rf ≤ 20 then (1 : Int32) else 0) = 0 ∨ (if hd = 0 then 0 else if rf ≤ 20 then (1 : Int32) else 0) = 1 := by
  by_cases b : hd = 0 <;> by_cases a : rf ≤ 20 <;> simp [a, b]
theorem bd_in {v M : Int64} {m : Nat} (hm : m < 2 ^ 31) (hM : M.toInt = m) (h0 : ¬ v < 0) (h : ¬ M < v) : bd v m := by
  rw [i64_ltI] at h0 h
  have e0 : (0 : Int64).toInt = 0 := rfl
  exact bd_of hm (by omega) (by omega)
theorem gW_bd {n m : Nat} {w : Int32} {v M x : Int64} {old : Nat → Int64} (h : ∀ k, bd (old k) m) (hx : ¬ v < 0 → ¬ M < v → bd x m) (k : Nat) : bd (gW n w v M old x k) m := by
  unfold gW
  by_cases a : wOut n w
  · rw [if_pos a]; exact h k
  · rw [if_neg a]
    by_cases b : v < 0 ∨ M < v
    · rw [if_pos b]; exact h k
    · rw [if_neg b]
      by_cases e : k = w.toNatClampNeg
      · subst e; rw [va_up_self]; exact hx (fun z => b (Or.inl z)) (fun z => b (Or.inr z))
      · rw [va_up_ne _ _ e]; exact h k
theorem yaw_eq {a b : Int64} (h : ¬ fBadY a b) : cAbs (a - b) = mApart a b := by
  have h1 : ¬ a < -1000 := fun z => h (Or.inl (Or.inl z))
  have h2 : ¬ 1000 < a := fun z => h (Or.inl (Or.inr z))
  have h3 : ¬ b < -1000 := fun z => h (Or.inr (Or.inl z))
  have h4 : ¬ 1000 < b := fun z => h (Or.inr (Or.inr z))
  rw [i64_ltI] at h1 h2 h3 h4
  have em : (-1000 : Int64).toInt = -1000 := rfl
  have ep : (1000 : Int64).toInt = 1000 := rfl
  have e0 : (0 : Int64).toInt = 0 := rfl
  have e1 := subI (x := a) (c := b) rfl rfl (by omega) (by omega)
  have e2 := subI (x := b) (c := a) rfl rfl (by omega) (by omega)
  unfold cAbs mApart
  by_cases c : 0 < a - b
  · rw [if_pos c, if_neg (by rw [i64_le]; rw [i64_ltI] at c; omega)]
  · rw [if_neg c, if_pos (by rw [i64_le]; rw [i64_ltI] at c; omega)]
    exact Int64.neg_sub
theorem yaw_r (a b : Int64) (c : Int32) : sYaw a b (cAbs (a - b)) c = sYaw a b (mApart a b) c := by
  by_cases h : fBadY a b
  · unfold sYaw; rw [if_pos h, if_pos h]
  · rw [yaw_eq h]
theorem yaw_u (a b : Int64) (c : Int32) (pr bo : Nat → Int64) : gYaw cMin a b (cAbs (a - b)) c pr bo = gYaw mMin a b (mApart a b) c pr bo := by
  by_cases h : fBadY a b
  · unfold gYaw; rw [if_pos h, if_pos h]
  · rw [yaw_eq h]; unfold gYaw; simp only [cMin_eq]
theorem up_bd {m k0 : Nat} {f : Nat → Int64} {x : Int64} (h : ∀ k, bd (f k) m) (hx : bd x m) (k : Nat) : bd (va_up f k0 x k) m := by
  by_cases e : k = k0
  · subst e; rw [va_up_self]; exact hx
  · rw [va_up_ne _ _ e]; exact h k
theorem p20_bd {x : Int64} (h : bd x 200) : bd (x + 20) 1000 := by
  obtain ⟨h0, h1⟩ := bd_int (by omega) h
  have e := addI (x := x) (c := 20) rfl rfl (by show (-2147483648 : Int) ≤ x.toInt + 20; omega) (by show x.toInt + 20 < 2147483648; omega)
  have e20 : (20 : Int64).toInt = 20 := rfl
  rw [e20] at e
  exact bd_of (by omega) (by omega) (by omega)
theorem yaw_bd {a b z : Int64} {c : Int32} {pr bo : Nat → Int64} (h : ∀ k, bd (pr k) 200) (hb : ∀ k, bd (bo k) 200) (k : Nat) : bd (gYaw mMin a b z c pr bo k) 200 := by
  unfold gYaw
  repeat' split
  all_goals first | exact h k | exact up_bd h (mMin_bd (p20_bd (h _)) (hb _)) k
/-! ===== what holds between two calls ===== -/
def INV (n j : Nat) (sp pr bo : Nat → Int64) (mo mo2 : Nat → UInt64) (rf : Int64) (hd st nx ch rs : Int32) : Prop :=
  bd rf 1000 ∧ (∀ k, bd (sp k) 1000) ∧ (∀ k, bd (pr k) 200) ∧ (∀ k, bd (bo k) 200) ∧ (hd = 0 ∨ hd = 1) ∧ (∀ k, 1 ≤ k → k ≤ n → fd (mo k) = fd (mo2 k)) ∧ ∃ S c r : Nat, S ≤ j ∧ c ≤ S ∧ r ≤ 10 ∧ st = nI S ∧ ch = nI c ∧ rs = nI r ∧ nx = nI (c + r)
section INVS
variable {n j : Nat} {sp pr bo : Nat → Int64} {mo mo2 : Nat → UInt64} {rf : Int64} {hd st nx ch rs : Int32}
theorem INV_same (h : INV n j sp pr bo mo mo2 rf hd st nx ch rs) : INV n (j + 1) sp pr bo mo mo2 rf hd st nx ch rs := by
  obtain ⟨h1, h2, h3, h4, h5, h6, S, c, r, g1, g2⟩ := h
  exact ⟨h1, h2, h3, h4, h5, h6, S, c, r, by omega, g2⟩
theorem INV_wheel {w : Int32} {v : Int64} (h : INV n j sp pr bo mo mo2 rf hd st nx ch rs) : INV n (j + 1) (gW n w v 1000 sp v) pr bo mo mo2 rf hd st nx ch rs := by
  obtain ⟨h1, h2, h3⟩ := INV_same h
  exact ⟨h1, gW_bd h2 (fun a b => bd_in (by omega) rfl a b), h3⟩
theorem INV_bound {w : Int32} {v : Int64} (h : INV n j sp pr bo mo mo2 rf hd st nx ch rs) : INV n (j + 1) sp (gW n w v 200 pr (mMin (pr w.toNatClampNeg) v)) (gW n w v 200 bo v) mo mo2 rf hd st nx ch rs := by
  obtain ⟨h1, h2, h3, h4, h5⟩ := INV_same h
  exact ⟨h1, h2, gW_bd h3 (fun a b => mMin_bd (bd_le (h3 _) (by omega)) (bd_in (by omega) rfl a b)), gW_bd h4 (fun a b => bd_in (by omega) rfl a b), h5⟩
theorem INV_yaw {a b z : Int64} {c : Int32} (h : INV n j sp pr bo mo mo2 rf hd st nx ch rs) : INV n (j + 1) sp (gYaw mMin a b z c pr bo) bo mo mo2 rf hd st nx ch rs := by
  obtain ⟨h1, h2, h3, h4, h5⟩ := INV_same h
  exact ⟨h1, h2, yaw_bd h3 h4, h4, h5⟩
theorem INV_hold {on : Int32} (h : INV n j sp pr bo mo mo2 rf hd st nx ch rs) : INV n (j + 1) sp pr bo mo mo2 rf (sHold on hd rf) st nx ch rs := by
  obtain ⟨h1, h2, h3, h4, h5, h6⟩ := INV_same h
  refine ⟨h1, h2, h3, h4, ?_, h6⟩
  unfold sHold
  repeat' split
  all_goals simp
theorem INV_wish {gw : Int32} (h : INV n j sp pr bo mo mo2 rf hd st nx ch rs) : INV n (j + 1) sp pr bo mo mo2 rf hd st (if sWish gw rf = 1 then st + 10 else nx) (if sWish gw rf = 1 then st else ch) (if sWish gw rf = 1 then 10 else rs) := by
  obtain ⟨h1, h2, h3, h4, h5, h6, S, c, r, g1, g2, g3, g4, g5, g6, g7⟩ := INV_same h
  refine ⟨h1, h2, h3, h4, h5, h6, ?_⟩
  by_cases e : sWish gw rf = 1
  · rw [if_pos e, if_pos e, if_pos e]
    exact ⟨S, S, 10, g1, Nat.le_refl _, Nat.le_refl _, g4, g4, rfl, by rw [g4]; exact nI_add S 10⟩
  · rw [if_neg e, if_neg e, if_neg e]
    exact ⟨S, c, r, g1, g2, g3, g4, g5, g6, g7⟩
theorem wait_iff (hj : j ≤ 600) (h : INV n j sp pr bo mo mo2 rf hd st nx ch rs) : nx ≤ st + 1 ↔ ¬ st + 1 - ch < rs := by
  obtain ⟨-, -, -, -, -, -, S, c, r, g1, g2, g3, rfl, rfl, rfl, rfl⟩ := h
  rw [nI_1, Int32.lt_iff_toInt_lt, pk_sub_toInt (by omega) (by omega), nI_toInt (by omega), nI_leI (by omega) (by omega)]
  omega
theorem wait_if {α : Type} (hj : j ≤ 600) (h : INV n j sp pr bo mo mo2 rf hd st nx ch rs) (x y : α) : (if nx ≤ st + 1 then x else y) = if st + 1 - ch < rs then y else x := by
  have := wait_iff hj h
  by_cases a : st + 1 - ch < rs
  · rw [if_pos a, if_neg (fun z => this.mp z a)]
  · rw [if_neg a, if_pos (this.mpr a)]
theorem sCode_in (gr : Int32) (rf mx : Int64) : sCode gr rf mx = 0 ∨ sCode gr rf mx ≠ 0 := Classical.em _
theorem INV_step {lo ph : Nat → Int32} {ped sl : Int64} {k : Int32} {RF : Int64} {mo' mo2' : Nat → UInt64} (hj : j ≤ 600) (h : INV n j sp pr bo mo mo2 rf hd st nx ch rs) (hb : ¬ fBad ped sl) (hR : RF = mRef n ped rf lo sp)
    (h1 : ∀ k, 1 ≤ k → k ≤ n → stepM (mo k) (sp k) (jPr mPr lo ph RF ped sp pr bo hd n k) (mo' k)) (h2 : ∀ k, 1 ≤ k → k ≤ n → stepM (mo2 k) (sp k) (jPr mPr lo ph RF ped sp pr bo hd n k) (mo2' k)) :
    INV n (j + 1) sp (jPr mPr lo ph RF ped sp pr bo hd n) bo mo' mo2' RF (if hd = 0 then 0 else if RF ≤ 20 then 1 else 0) (st + 1) (if st + 1 - ch < rs then nx else sNx k nx (st + 1 + 3)) (if st + 1 - ch < rs then ch else sNx k ch (st + 1)) (if st + 1 - ch < rs then rs else sNx k rs 3) := by
  have hp : bd ped 100 := bd_in (by omega) rfl (fun z => hb (Or.inl (Or.inl z))) (fun z => hb (Or.inl (Or.inr z)))
  obtain ⟨a1, a2, a3, a4, a5, a6, S, c, r, g1, g2, g3, g4, g5, g6, g7⟩ := h
  refine ⟨by rw [hR]; exact ref_bd a1 a2, a2, pr_bd hp a3 a4, a4, hd_in, fun k e1 e2 => stepM_fd (h1 k e1 e2) (h2 k e1 e2) (a6 k e1 e2), ?_⟩
  have s1 : st + 1 = nI (S + 1) := by rw [g4]; exact nI_1 S
  by_cases w : st + 1 - ch < rs
  · rw [if_pos w, if_pos w, if_pos w]
    exact ⟨S + 1, c, r, by omega, by omega, g3, s1, g5, g6, g7⟩
  · rw [if_neg w, if_neg w, if_neg w]
    unfold sNx
    by_cases e : k = 0
    · rw [if_pos e, if_pos e, if_pos e]
      exact ⟨S + 1, c, r, by omega, by omega, g3, s1, g5, g6, g7⟩
    · rw [if_neg e, if_neg e, if_neg e]
      exact ⟨S + 1, S + 1, 3, by omega, Nat.le_refl _, by omega, s1, s1, rfl, by rw [s1]; exact nI_add (S + 1) 3⟩
end INVS
