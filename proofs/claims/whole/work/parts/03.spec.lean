/-! ===== doubles: what an operation sees of an operand is its datum ===== -/
def fd (x : UInt64) : FP.Core.Datum := FP.Core.decode FP.Core.b64 x.toNat
theorem fd_nan {x : UInt64} (h : isNaN64 x = true) : fd x = .nan := by
  have h1 : (0x7ff0000000000000 : UInt64) < x &&& 0x7fffffffffffffff := by simpa [isNaN64] using h
  rw [UInt64.lt_iff_toNat_lt, UInt64.toNat_and] at h1
  rw [show (0x7fffffffffffffff : UInt64).toNat = 2 ^ 63 - 1 from rfl, Nat.and_two_pow_sub_one_eq_mod, show (0x7ff0000000000000 : UInt64).toNat = 9218868437227405312 from rfl] at h1
  have hx : x.toNat < 18446744073709551616 := x.toNat_lt
  unfold fd FP.Core.decode FP.Core.fieldE FP.Core.fieldT
  rw [show FP.Core.b64.tails = 4503599627370496 from rfl, show FP.Core.b64.exps = 2048 from rfl]
  rw [if_pos (by omega), if_neg (by omega)]
theorem fd_alike {x y : UInt64} (h : alike64 x y = true) : fd x = fd y := by
  unfold alike64 at h
  rcases Bool.or_eq_true_iff.mp h with h | h
  · rw [of_decide_eq_true h]
  · have h2 := Bool.and_eq_true_iff.mp h
    rw [fd_nan h2.1, fd_nan h2.2]
theorem fd_dadd {x y x' y' : UInt64} (hx : fd x = fd x') (hy : fd y = fd y') : FP.dadd x y = FP.dadd x' y' := by
  unfold fd at hx hy
  simp only [FP.dadd, FP.Core.dadd, FP.Core.add, hx, hy]
theorem fd_dsub {x y x' y' : UInt64} (hx : fd x = fd x') (hy : fd y = fd y') : FP.dsub x y = FP.dsub x' y' := by
  unfold fd at hx hy
  simp only [FP.dsub, FP.Core.dsub, FP.Core.sub, hx, hy]
theorem fd_dmul {x y x' y' : UInt64} (hx : fd x = fd x') (hy : fd y = fd y') : FP.dmul x y = FP.dmul x' y' := by
  unfold fd at hx hy
  simp only [FP.dmul, FP.Core.dmul, FP.Core.mul, hx, hy]
theorem fd_dcmp {x y x' y' : UInt64} (hx : fd x = fd x') (hy : fd y = fd y') : FP.dcmp x y = FP.dcmp x' y' := by
  unfold fd at hx hy
  simp only [FP.dcmp, FP.Core.dcmp, FP.Core.cmp, hx, hy]
/-- a wheel's model behind a step: x + 0.125 (speed - x), less 0.0625 pressure, then 0 if below 0 -/
def stepM (x : UInt64) (s v : Int64) (y : UInt64) : Prop := ∃ a b c d e : UInt64, alike64 a (FP.dsub (FP.l2d s) x) = true ∧ alike64 b (FP.dmul 4593671619917905920 a) = true ∧ alike64 c (FP.dadd x b) = true ∧ alike64 d (FP.dmul 4589168020290535424 (FP.l2d v)) = true ∧ alike64 e (FP.dsub c d) = true ∧ y = if 0 ≤ Op.cmpValue (FP.dcmp e FP.dconst0) CmpOp.g then e else FP.dconst0
theorem stepM_fd {x x' y y' : UInt64} {s v : Int64} (h : stepM x s v y) (h' : stepM x' s v y') (hx : fd x = fd x') : fd y = fd y' := by
  obtain ⟨a, b, c, d, e, h1, h2, h3, h4, h5, rfl⟩ := h
  obtain ⟨a', b', c', d', e', k1, k2, k3, k4, k5, rfl⟩ := h'
  have e1 : fd a = fd a' := by rw [fd_alike h1, fd_alike k1, fd_dsub rfl hx]
  have e2 : fd b = fd b' := by rw [fd_alike h2, fd_alike k2, fd_dmul rfl e1]
  have e3 : fd c = fd c' := by rw [fd_alike h3, fd_alike k3, fd_dadd hx e2]
  have e4 : fd d = fd d' := by rw [fd_alike h4, fd_alike k4]
  have e5 : fd e = fd e' := by rw [fd_alike h5, fd_alike k5, fd_dsub e3 e4]
  rw [fd_dcmp e5 rfl]
  by_cases h : 0 ≤ Op.cmpValue (FP.dcmp e' FP.dconst0) CmpOp.g
  · rw [if_pos h, if_pos h, e5]
  · rw [if_neg h, if_neg h]
/-! ===== what the calls answer, and what they leave ===== -/
def cnt (lo : Nat → Int32) : Nat → Int32
  | 0 => 0
  | k + 1 => if lo (k + 1) = 0 then cnt lo k else cnt lo k + 1
def cTop (lo : Nat → Int32) (sp : Nat → Int64) : Nat → Int64
  | 0 => 0
  | k + 1 => if lo (k + 1) = 0 then (if sp (k + 1) < cTop lo sp k then cTop lo sp k else sp (k + 1)) else cTop lo sp k
def mTop (lo : Nat → Int32) (sp : Nat → Int64) : Nat → Int64
  | 0 => 0
  | k + 1 => if lo (k + 1) = 0 then (if sp (k + 1) ≤ mTop lo sp k then mTop lo sp k else sp (k + 1)) else mTop lo sp k
def cLess (rf : Int64) : Int64 := if 0 < rf - 3 then rf - 3 else 0
def mLess (rf : Int64) : Int64 := if 3 ≤ rf then rf - 3 else 0
def cRef (n : Nat) (ped rf : Int64) (lo : Nat → Int32) (sp : Nat → Int64) : Int64 :=
  if cnt lo n = nI n then cLess rf else if ped ≤ 0 then cTop lo sp n else if cLess rf < cTop lo sp n then cTop lo sp n else cLess rf
def mRef (n : Nat) (ped rf : Int64) (lo : Nat → Int32) (sp : Nat → Int64) : Int64 :=
  if cnt lo n = nI n then mLess rf else if ped ≤ 0 then mTop lo sp n else if mLess rf ≤ mTop lo sp n then mTop lo sp n else mLess rf
def sPh (lo : Int32) (rf ped sp : Int64) (ph : Int32) (pr : Int64) : Int32 :=
  if lo = 0 then (if rf = 0 then 0 else if ped = 0 then 0 else if 80 * rf ≤ 100 * sp then (if 90 * rf ≤ 100 * sp then (if ph = 1 then 3 else if ph = 2 then 3 else if ph = 3 then (if ped ≤ pr then 0 else 3) else 0) else 1) else 2) else 0
def cWant (ph : Int32) (ped pr : Int64) : Int64 :=
  if ph = 1 then pr else if ph = 2 then (if 0 < pr - 10 then pr - 10 else 0) else if ph = 3 then (if ped < pr + 5 then ped else pr + 5) else ped
def cMin (v bo : Int64) : Int64 := if bo < v then bo else v
def cPr (ph : Int32) (ped pr : Int64) (hd : Int32) (bo : Int64) : Int64 :=
  cMin (if hd = 0 then cWant ph ped pr else if 30 < cWant ph ped pr then cWant ph ped pr else 30) bo
def mWant (ph : Int32) (ped pr : Int64) : Int64 :=
  if ph = 0 then ped else if ph = 2 then (if 10 ≤ pr then pr - 10 else 0) else if ph = 3 then (if pr + 5 ≤ ped then pr + 5 else ped) else pr
def mHold (hd : Int32) (v : Int64) : Int64 := if hd = 0 then v else if 30 ≤ v then v else 30
def mPr (ph : Int32) (ped pr : Int64) (hd : Int32) (bo : Int64) : Int64 :=
  if mHold hd (mWant ph ped pr) ≤ bo then mHold hd (mWant ph ped pr) else bo
def cMx (sl : Int64) : Int64 := if 0 < sl then sl else 0
def mMx (sl : Int64) : Int64 := if sl ≤ 0 then 0 else sl
/-- which way the gear goes, if it may: 1, 0, -1 -/
def sCode (gr : Int32) (rf mx : Int64) : Int32 :=
  if 6 ≤ gr then (if gr ≤ 1 then 0 else if 20 * (gr - 1).toInt64 ≤ rf then 0 else -1) else if rf ≤ 20 * gr.toInt64 + 10 + mx then (if gr ≤ 1 then 0 else if 20 * (gr - 1).toInt64 ≤ rf then 0 else -1) else 1
def sGr (k gr : Int32) : Int32 := if k = 0 then gr else if k = 1 then gr + 1 else gr - 1
def sNx (k old new : Int32) : Int32 := if k = 0 then old else new
abbrev fBad (ped sl : Int64) : Prop := (ped < 0 ∨ 100 < ped) ∨ (sl < -30 ∨ 30 < sl)
abbrev fBadY (a b : Int64) : Prop := (a < -1000 ∨ 1000 < a) ∨ (b < -1000 ∨ 1000 < b)
/-- the phases and pressures behind a step's first j wheels -/
def jPh (lo ph : Nat → Int32) (rf ped : Int64) (sp pr : Nat → Int64) (j : Nat) : Nat → Int32 := fun k => if 1 ≤ k ∧ k ≤ j then sPh (lo k) rf ped (sp k) (ph k) (pr k) else ph k
def jPr (f : Int32 → Int64 → Int64 → Int32 → Int64 → Int64) (lo ph : Nat → Int32) (rf ped : Int64) (sp pr bo : Nat → Int64) (hd : Int32) (j : Nat) : Nat → Int64 := fun k => if 1 ≤ k ∧ k ≤ j then f (sPh (lo k) rf ped (sp k) (ph k) (pr k)) ped (pr k) hd (bo k) else pr k
theorem jPh_0 (lo ph : Nat → Int32) (rf ped : Int64) (sp pr : Nat → Int64) : jPh lo ph rf ped sp pr 0 = ph := by
  funext k; unfold jPh; rw [if_neg (by omega)]
theorem jPr_0 (f : Int32 → Int64 → Int64 → Int32 → Int64 → Int64) (lo ph : Nat → Int32) (rf ped : Int64) (sp pr bo : Nat → Int64) (hd : Int32) : jPr f lo ph rf ped sp pr bo hd 0 = pr := by
  funext k; unfold jPr; rw [if_neg (by omega)]
theorem jPh_at (lo ph : Nat → Int32) (rf ped : Int64) (sp pr : Nat → Int64) {j k : Nat} (h : j < k) : jPh lo ph rf ped sp pr j k = ph k := by
  unfold jPh; rw [if_neg (by omega)]
theorem jPr_at (f : Int32 → Int64 → Int64 → Int32 → Int64 → Int64) (lo ph : Nat → Int32) (rf ped : Int64) (sp pr bo : Nat → Int64) (hd : Int32) {j k : Nat} (h : j < k) : jPr f lo ph rf ped sp pr bo hd j k = pr k := by
  unfold jPr; rw [if_neg (by omega)]
theorem jPh_up (lo ph : Nat → Int32) (rf ped : Int64) (sp pr : Nat → Int64) (j : Nat) : va_up (jPh lo ph rf ped sp pr j) (j + 1) (sPh (lo (j + 1)) rf ped (sp (j + 1)) (ph (j + 1)) (pr (j + 1))) = jPh lo ph rf ped sp pr (j + 1) := by
  funext k
  by_cases hk : k = j + 1
  · subst hk; rw [va_up_self]; unfold jPh; rw [if_pos (by omega)]
  · rw [va_up_ne _ _ hk]; unfold jPh
    by_cases h : 1 ≤ k ∧ k ≤ j
    · rw [if_pos h, if_pos (by omega)]
    · rw [if_neg h, if_neg (by omega)]
theorem jPr_up (f : Int32 → Int64 → Int64 → Int32 → Int64 → Int64) (lo ph : Nat → Int32) (rf ped : Int64) (sp pr bo : Nat → Int64) (hd : Int32) (j : Nat) : va_up (jPr f lo ph rf ped sp pr bo hd j) (j + 1) (f (sPh (lo (j + 1)) rf ped (sp (j + 1)) (ph (j + 1)) (pr (j + 1))) ped (pr (j + 1)) hd (bo (j + 1))) = jPr f lo ph rf ped sp pr bo hd (j + 1) := by
  funext k
  by_cases hk : k = j + 1
  · subst hk; rw [va_up_self]; unfold jPr; rw [if_pos (by omega)]
  · rw [va_up_ne _ _ hk]; unfold jPr
    by_cases h : 1 ≤ k ∧ k ≤ j
    · rw [if_pos h, if_pos (by omega)]
    · rw [if_neg h, if_neg (by omega)]

def fW (n : Nat) (w : Int32) (v m : Int64) : Int32 := if wOut n w then -1 else if v < 0 ∨ m < v then -2 else 1
def gW (n : Nat) (w : Int32) (v m : Int64) (old : Nat → Int64) (x : Int64) : Nat → Int64 := if wOut n w then old else if v < 0 ∨ m < v then old else va_up old w.toNatClampNeg x
def sHold (on hd : Int32) (rf : Int64) : Int32 := if on = 0 then 0 else if hd = 0 then (if rf = 0 then 1 else 0) else 1
def sWish (x : Int32) (rf : Int64) : Int32 := if x < 1 ∨ 6 < x then -2 else if rf < 20 * (x - 1).toInt64 - 10 ∨ 20 * x.toInt64 + 30 < rf then 0 else 1
def cAbs (x : Int64) : Int64 := if 0 < x then x else -x
def mApart (a b : Int64) : Int64 := if a ≤ b then b - a else a - b
def sYaw (a b apart : Int64) (lost : Int32) : Int32 := if fBadY a b then -2 else if apart ≤ 20 then 0 else if lost ≤ 0 then (if a ≤ b then 1 else 2) else 0
def mMin (v bo : Int64) : Int64 := if v ≤ bo then v else bo
def gYaw (mn : Int64 → Int64 → Int64) (a b apart : Int64) (lost : Int32) (pr bo : Nat → Int64) : Nat → Int64 := if fBadY a b then pr else if apart ≤ 20 then pr else if lost ≤ 0 then (if a ≤ b then va_up pr 1 (mn (pr 1 + 20) (bo 1)) else va_up pr 2 (mn (pr 2 + 20) (bo 2))) else pr
theorem i64_lt1 (x : Int32) : x.toInt64 < 1 ↔ x < 1 := by
  rw [Int64.lt_iff_toInt_lt, Int32.lt_iff_toInt_lt, Int32.toInt_toInt64]
  exact Iff.rfl
theorem i64_6lt (x : Int32) : 6 < x.toInt64 ↔ 6 < x := by
  rw [Int64.lt_iff_toInt_lt, Int32.lt_iff_toInt_lt, Int32.toInt_toInt64]
  exact Iff.rfl
theorem bool_nar {x : Int32} (h : x = 0 ∨ x = 1) : narrow .boolean (.int x) = .int x := by rcases h with rfl | rfl <;> rfl
theorem bool_fit {x : Int32} (h : x = 0 ∨ x = 1) : fits .boolean (.int x) = true := by rcases h with rfl | rfl <;> rfl
theorem bool_vp {x : Int32} (h : x = 0 ∨ x = 1) : vp_nar .boolean x = x := by rcases h with rfl | rfl <;> rfl

theorem jPr_in (f : Int32 → Int64 → Int64 → Int32 → Int64 → Int64) (lo ph : Nat → Int32) (rf ped : Int64) (sp pr bo : Nat → Int64) (hd : Int32) {j k : Nat} (h1 : 1 ≤ k) (h2 : k ≤ j) : jPr f lo ph rf ped sp pr bo hd j k = f (sPh (lo k) rf ped (sp k) (ph k) (pr k)) ped (pr k) hd (bo k) := by
  unfold jPr; rw [if_pos ⟨h1, h2⟩]
/-- the models behind a step's first j wheels -/
def jM (j : Nat) (mo : Nat → UInt64) (sp F : Nat → Int64) (mo2 : Nat → UInt64) : Prop := (∀ k, 1 ≤ k → k ≤ j → stepM (mo k) (sp k) (F k) (mo2 k)) ∧ ∀ k, j < k → mo2 k = mo k
theorem jM_0 (mo : Nat → UInt64) (sp F : Nat → Int64) : jM 0 mo sp F mo := ⟨fun k h1 h2 => by omega, fun _ _ => rfl⟩
theorem jM_up {j : Nat} {mo : Nat → UInt64} {sp F : Nat → Int64} {mo2 : Nat → UInt64} {v : Int64} {y : UInt64} (h : jM j mo sp F mo2) (hy : stepM (mo2 (j + 1)) (sp (j + 1)) v y) (hv : v = F (j + 1)) : jM (j + 1) mo sp F (va_up mo2 (j + 1) y) := by
  subst hv
  refine ⟨fun k h1 h2 => ?_, fun k hk => ?_⟩
  · by_cases e : k = j + 1
    · subst e; rw [va_up_self]; rw [h.2 _ (Nat.lt_succ_self j)] at hy; exact hy
    · rw [va_up_ne _ _ e]; exact h.1 k h1 (by omega)
  · rw [va_up_ne _ _ (by omega)]; exact h.2 k (by omega)

theorem jPh_in (lo ph : Nat → Int32) (rf ped : Int64) (sp pr : Nat → Int64) {j k : Nat} (h1 : 1 ≤ k) (h2 : k ≤ j) : jPh lo ph rf ped sp pr j k = sPh (lo k) rf ped (sp k) (ph k) (pr k) := by
  unfold jPh; rw [if_pos ⟨h1, h2⟩]
theorem i32_nlt {a b : Int32} (h : a ≤ b) : ¬ b < a := by rw [Int32.lt_iff_toInt_lt]; rw [Int32.le_iff_toInt_le] at h; omega
theorem i32_lt {a b : Int32} (h : ¬ a ≤ b) : b < a := by rw [Int32.lt_iff_toInt_lt]; rw [Int32.le_iff_toInt_le] at h; omega
theorem i64_nlt {a b : Int64} (h : a ≤ b) : ¬ b < a := by rw [Int64.lt_iff_toInt_lt]; rw [Int64.le_iff_toInt_le] at h; omega
theorem i64_lt {a b : Int64} (h : ¬ a ≤ b) : b < a := by rw [Int64.lt_iff_toInt_lt]; rw [Int64.le_iff_toInt_le] at h; omega
theorem vp_1 : vp_in 1 9 := by unfold vp_in; decide
theorem vp_2 : vp_in 2 9 := by unfold vp_in; decide
