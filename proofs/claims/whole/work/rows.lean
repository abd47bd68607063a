section
-- ===== PART A: goes FIRST, ahead of the names: the tables' words, and 'selects' of the private methods out of them =====
/-- a private method of a class that the tables say can be made, by its rows of tables_1 -/
def lw_okq (q : MethodName × Nat) : Prop := (q.1.cls ≠ "java/lang/invoke/MethodHandle" ∧ q.1.cls ≠ "java/lang/invoke/VarHandle") ∧ Cond.instantiable q.1.cls q.2 ∈ tables_1 ∧ Cond.privateMethod q.1 ∈ tables_1 ∧ Cond.instanceMethod q.1 ∈ tables_1
theorem lw_p0 : lw_okq (⟨"GearBrake", "find", "(I)LGearBrake$Wheel;"⟩, 6) := ⟨⟨by decide +kernel, by decide +kernel⟩, List.mem_of_getElem? (i := 10) (by decide +kernel), List.mem_of_getElem? (i := 74) (by decide +kernel), List.mem_of_getElem? (i := 75) (by decide +kernel)⟩
theorem lw_p1 : lw_okq (⟨"GearBrake", "nextReference", "(J)J"⟩, 6) := ⟨⟨by decide +kernel, by decide +kernel⟩, List.mem_of_getElem? (i := 10) (by decide +kernel), List.mem_of_getElem? (i := 89) (by decide +kernel), List.mem_of_getElem? (i := 90) (by decide +kernel)⟩
theorem lw_p2 : lw_okq (⟨"GearBrake", "countLost", "()I"⟩, 6) := ⟨⟨by decide +kernel, by decide +kernel⟩, List.mem_of_getElem? (i := 10) (by decide +kernel), List.mem_of_getElem? (i := 97) (by decide +kernel), List.mem_of_getElem? (i := 98) (by decide +kernel)⟩
theorem lw_p3 : lw_okq (⟨"GearBrake", "greatestSpeed", "()J"⟩, 6) := ⟨⟨by decide +kernel, by decide +kernel⟩, List.mem_of_getElem? (i := 10) (by decide +kernel), List.mem_of_getElem? (i := 101) (by decide +kernel), List.mem_of_getElem? (i := 102) (by decide +kernel)⟩
theorem lw_p4 : lw_okq (⟨"GearBrake$Wheel", "brake", "(JJZ)V"⟩, 6) := ⟨⟨by decide +kernel, by decide +kernel⟩, List.mem_of_getElem? (i := 19) (by decide +kernel), List.mem_of_getElem? (i := 105) (by decide +kernel), List.mem_of_getElem? (i := 106) (by decide +kernel)⟩
theorem lw_p5 : lw_okq (⟨"GearBrake$Wheel", "nextPhase", "(JJ)I"⟩, 6) := ⟨⟨by decide +kernel, by decide +kernel⟩, List.mem_of_getElem? (i := 19) (by decide +kernel), List.mem_of_getElem? (i := 109) (by decide +kernel), List.mem_of_getElem? (i := 110) (by decide +kernel)⟩
theorem lw_p6 : lw_okq (⟨"GearBrake$Wheel", "wantedPressure", "(J)J"⟩, 6) := ⟨⟨by decide +kernel, by decide +kernel⟩, List.mem_of_getElem? (i := 19) (by decide +kernel), List.mem_of_getElem? (i := 115) (by decide +kernel), List.mem_of_getElem? (i := 116) (by decide +kernel)⟩
theorem lw_p7 : lw_okq (⟨"GearBrake$Wheel", "press", "(J)V"⟩, 6) := ⟨⟨by decide +kernel, by decide +kernel⟩, List.mem_of_getElem? (i := 19) (by decide +kernel), List.mem_of_getElem? (i := 126) (by decide +kernel), List.mem_of_getElem? (i := 127) (by decide +kernel)⟩
theorem lw_p8 : lw_okq (⟨"GearBrake$Wheel", "followModel", "()V"⟩, 6) := ⟨⟨by decide +kernel, by decide +kernel⟩, List.mem_of_getElem? (i := 19) (by decide +kernel), List.mem_of_getElem? (i := 130) (by decide +kernel), List.mem_of_getElem? (i := 131) (by decide +kernel)⟩
theorem lw_p9 : lw_okq (⟨"GearBrake", "shift", "(J)V"⟩, 6) := ⟨⟨by decide +kernel, by decide +kernel⟩, List.mem_of_getElem? (i := 10) (by decide +kernel), List.mem_of_getElem? (i := 137) (by decide +kernel), List.mem_of_getElem? (i := 138) (by decide +kernel)⟩
theorem lw_p10 : lw_okq (⟨"GearBrake", "change", "(II)V"⟩, 6) := ⟨⟨by decide +kernel, by decide +kernel⟩, List.mem_of_getElem? (i := 10) (by decide +kernel), List.mem_of_getElem? (i := 142) (by decide +kernel), List.mem_of_getElem? (i := 143) (by decide +kernel)⟩
theorem lw_p11 : lw_okq (⟨"java/lang/Throwable", "fillInStackTrace", "(I)Ljava/lang/Throwable;"⟩, 6) := ⟨⟨by decide +kernel, by decide +kernel⟩, List.mem_of_getElem? (i := 245) (by decide +kernel), List.mem_of_getElem? (i := 243) (by decide +kernel), List.mem_of_getElem? (i := 244) (by decide +kernel)⟩
theorem lw_p12 : lw_okq (⟨"GearBrakeModel", "noWheel", "(I)Z"⟩, 14) := ⟨⟨by decide +kernel, by decide +kernel⟩, List.mem_of_getElem? (i := 278) (by decide +kernel), List.mem_of_getElem? (i := 340) (by decide +kernel), List.mem_of_getElem? (i := 341) (by decide +kernel)⟩
theorem lw_p13 : lw_okq (⟨"GearBrakeModel", "refer", "(J)V"⟩, 14) := ⟨⟨by decide +kernel, by decide +kernel⟩, List.mem_of_getElem? (i := 278) (by decide +kernel), List.mem_of_getElem? (i := 351) (by decide +kernel), List.mem_of_getElem? (i := 352) (by decide +kernel)⟩
theorem lw_p14 : lw_okq (⟨"GearBrakeModel", "lostOnes", "()I"⟩, 14) := ⟨⟨by decide +kernel, by decide +kernel⟩, List.mem_of_getElem? (i := 278) (by decide +kernel), List.mem_of_getElem? (i := 355) (by decide +kernel), List.mem_of_getElem? (i := 356) (by decide +kernel)⟩
theorem lw_p15 : lw_okq (⟨"GearBrakeModel", "phaseOf", "(IJ)I"⟩, 14) := ⟨⟨by decide +kernel, by decide +kernel⟩, List.mem_of_getElem? (i := 278) (by decide +kernel), List.mem_of_getElem? (i := 360) (by decide +kernel), List.mem_of_getElem? (i := 361) (by decide +kernel)⟩
def lw_privs_1 : List (MethodName × Nat) := [(⟨"GearBrake", "find", "(I)LGearBrake$Wheel;"⟩, 6), (⟨"GearBrake", "nextReference", "(J)J"⟩, 6), (⟨"GearBrake", "countLost", "()I"⟩, 6), (⟨"GearBrake", "greatestSpeed", "()J"⟩, 6), (⟨"GearBrake$Wheel", "brake", "(JJZ)V"⟩, 6), (⟨"GearBrake$Wheel", "nextPhase", "(JJ)I"⟩, 6), (⟨"GearBrake$Wheel", "wantedPressure", "(J)J"⟩, 6), (⟨"GearBrake$Wheel", "press", "(J)V"⟩, 6), (⟨"GearBrake$Wheel", "followModel", "()V"⟩, 6), (⟨"GearBrake", "shift", "(J)V"⟩, 6), (⟨"GearBrake", "change", "(II)V"⟩, 6), (⟨"java/lang/Throwable", "fillInStackTrace", "(I)Ljava/lang/Throwable;"⟩, 6), (⟨"GearBrakeModel", "noWheel", "(I)Z"⟩, 14), (⟨"GearBrakeModel", "refer", "(J)V"⟩, 14), (⟨"GearBrakeModel", "lostOnes", "()I"⟩, 14), (⟨"GearBrakeModel", "phaseOf", "(IJ)I"⟩, 14)]
theorem lw_r1 : ∀ q ∈ lw_privs_1, lw_okq q := List.forall_mem_cons.mpr ⟨lw_p0, List.forall_mem_cons.mpr ⟨lw_p1, List.forall_mem_cons.mpr ⟨lw_p2, List.forall_mem_cons.mpr ⟨lw_p3, List.forall_mem_cons.mpr ⟨lw_p4, List.forall_mem_cons.mpr ⟨lw_p5, List.forall_mem_cons.mpr ⟨lw_p6, List.forall_mem_cons.mpr ⟨lw_p7, List.forall_mem_cons.mpr ⟨lw_p8, List.forall_mem_cons.mpr ⟨lw_p9, List.forall_mem_cons.mpr ⟨lw_p10, List.forall_mem_cons.mpr ⟨lw_p11, List.forall_mem_cons.mpr ⟨lw_p12, List.forall_mem_cons.mpr ⟨lw_p13, List.forall_mem_cons.mpr ⟨lw_p14, List.forall_mem_cons.mpr ⟨lw_p15, fun _ h => absurd h List.not_mem_nil⟩⟩⟩⟩⟩⟩⟩⟩⟩⟩⟩⟩⟩⟩⟩⟩
theorem lw_p16 : lw_okq (⟨"GearBrakeModel", "pressureOf", "(IJ)J"⟩, 14) := ⟨⟨by decide +kernel, by decide +kernel⟩, List.mem_of_getElem? (i := 278) (by decide +kernel), List.mem_of_getElem? (i := 366) (by decide +kernel), List.mem_of_getElem? (i := 367) (by decide +kernel)⟩
theorem lw_p17 : lw_okq (⟨"GearBrakeModel", "turn", "(II)V"⟩, 14) := ⟨⟨by decide +kernel, by decide +kernel⟩, List.mem_of_getElem? (i := 278) (by decide +kernel), List.mem_of_getElem? (i := 375) (by decide +kernel), List.mem_of_getElem? (i := 376) (by decide +kernel)⟩
def lw_privs_2 : List (MethodName × Nat) := [(⟨"GearBrakeModel", "pressureOf", "(IJ)J"⟩, 14), (⟨"GearBrakeModel", "turn", "(II)V"⟩, 14)]
theorem lw_r2 : ∀ q ∈ lw_privs_2, lw_okq q := List.forall_mem_cons.mpr ⟨lw_p16, List.forall_mem_cons.mpr ⟨lw_p17, fun _ h => absurd h List.not_mem_nil⟩⟩
def lw_privs : List (MethodName × Nat) := lw_privs_1 ++ (lw_privs_2)
def lw_tbl : List Cond := k2_sels lw_privs ++ tables_1
theorem lw_privs_ok : ∀ q ∈ lw_privs, lw_okq q := by
  show ∀ q ∈ lw_privs_1 ++ (lw_privs_2), lw_okq q
  exact List.forall_mem_append.mpr ⟨lw_r1, lw_r2⟩
/-- the streams that the claim lets the run draw from -/
abbrev lw_cs : List Choice := [Jvm.Choice.named "NaN.bits"]
theorem lw_bits : nanBits ∈ lw_cs := by first | decide | exact List.mem_cons_self | simp [lw_cs, nanBits]
-- ===== end of PART A; then your names; then what follows =====
/-! ===== BEGIN words of one list among another's, by their places ===== -/
theorem goodIn_r {big : List Cond} (ws : List Cond) (ps : List Nat) (hp : ws = ps.filterMap (fun i => big[i]?)) (h : ws.all goodWord = true) : GoodIn big ws := by
  intro w hw
  have h1 := List.all_eq_true.mp h w hw
  rw [hp] at hw
  obtain ⟨i, -, hi⟩ := List.mem_filterMap.mp hw
  have hm : w ∈ big := by first | exact List.mem_of_getElem? hi | exact List.getElem?_mem hi
  exact ⟨hm, good_of_word h1⟩
theorem goodIn_app {big a b : List Cond} (ha : GoodIn big a) (hb : GoodIn big b) : GoodIn big (a ++ b) := fun w h => (List.mem_append.mp h).elim (ha w) (hb w)
theorem goodIn_ca {big a b : List Cond} {c : Cond} (ha : GoodIn big (c :: a)) (hb : GoodIn big b) : GoodIn big (c :: (a ++ b)) := fun w h => (List.mem_cons.mp h).elim (fun e => ha w (List.mem_cons.mpr (Or.inl e))) (fun h => (List.mem_append.mp h).elim (fun h => ha w (List.mem_cons.mpr (Or.inr h))) (hb w))
theorem goodIn_sub {big ws : List Cond} (hm : ∀ w ∈ ws, w ∈ big) (h : ws.all goodWord = true) : GoodIn big ws := fun w hw => ⟨hm w hw, good_of_word (List.all_eq_true.mp h w hw)⟩
/-! ===== END ===== -/

/-! ===== BEGIN exceptions that leave a method, and their catching by the caller (launches without stack traces) ===== -/
section VXA
/-! The laws vx_back, vx_callV, vx_callS, vx_callSW, vx_throw0, vx_throwS follow proofs of the library, with one case more: JvmDerived/Free/Laws.lean (Back.of_free), Shelf42/LK1.lean (callV, callS), Shelf/KitTraced.lean (throwNew0V, throwNewS). -/
/-- where a method has thrown q: the class by its name, the cell, what was written, the world -/
def vx_T (XC : String → State → State → Prop) (st : State) (q : Addr) (t : State) (mc ms : Nat) (free : Addr → Prop) : Prop :=
  ∃ (E : String) (ce : Cell) (L : List Loc), XC E st t ∧ t.heap[q]? = some ce ∧ ce.vm = .none ∧ st.vm.findClass E = some ce.cls ∧ st.WarmedH t.vm ∧ st.sameButNew ({ t with vm := st.vm } : State) L mc ms ∧ ∀ z ∈ L, free z.base
def vx_Q (Qc : Array Value → State → Outcome → State → Prop) (XC : String → State → State → Prop) (mc ms : Nat) (free : Addr → Prop) : Array Value → State → Outcome → State → Prop := fun a st o t =>
  (Qc a st o t ∧ ∃ L, FrameEnd st o t L mc ms ∧ ∀ q ∈ L, free q.base) ∨ ∃ q, o = .threw q ∧ vx_T XC st q t mc ms free
/-- a callee that returns or throws -/
def vx_Met (l : Launch) (y : MethodName) (ws : List Cond) (rm : Room) (Pc : Array Value → State → Prop) (Qc : Array Value → State → Outcome → State → Prop) (XC : String → State → State → Prop) (mc ms : Nat) (free : Addr → Prop) : Prop :=
  MetFree l y (headSpec ws rm) Pc (fun _ _ _ _ _ => True) (vx_Q Qc XC mc ms free)
def vx_Post (XC : String → State → State → Prop) (mc ms : Nat) (free : Addr → Prop) : Pt → Array Value → Addr → Pt → Prop := fun A a q B =>
  ∃ (g : JFrame) (mk : MethodId) (t : State) (L : List Loc) (E : String) (ce : Cell), B.U.heap = t.heap ∧ B.U.vm = t.vm ∧ XC E (A.U.calling g mk a) t ∧ t.heap[q]? = some ce ∧ ce.vm = .none ∧ A.U.vm.findClass E = some ce.cls ∧ B.locs = A.locs ++ L ∧ (∀ z ∈ L, free z.base) ∧ B.cells = A.cells + mc ∧ B.slots = A.slots + ms
def vx_Back (l : Launch) (R : Room) (p : Program) (e : Env) (below : List Frame) (s : State) (sargs : Array Value) (y : MethodName) (len W9 : Nat)
    (Pre : Pt → Array Value → Prop) (Post : Pt → Array Value → Option Value → Pt → Prop) (PostX : Pt → Array Value → Addr → Pt → Prop) : Prop :=
  ∀ (m : MethodId) (meth : Method) (c : Code) (A : Pt) (g : JFrame) (ig : Instr) (mk : MethodId) (a : Array Value),
    Stand p l e R s m sargs below meth c A.U A.locs A.cells A.slots → g.method = m → g.locals.size = c.maxLocals → decode c.code g.pc = .ok (ig, len) →
    2 * g.monitorRoom + (g.stack.map fun v => v.category).sum ≤ W9 → A.U.methodNamed? y = some mk → Pre A a →
    (∃ (v : Option Value) (B : Pt), Stand p l e R s m sargs below meth c B.U B.locs B.cells B.slots ∧ Post A a v B ∧
      Steps p.tables e below (doInvoke e (A.U.setTop g) [] mk a).1 (B.U.setTop { g with pc := g.pc + len, stack := v.toList ++ g.stack })) ∨
    (∃ (q : Addr) (B : Pt), Stand p l e R s m sargs below meth c B.U B.locs B.cells B.slots ∧ PostX A a q B ∧
      Steps p.tables e below (doInvoke e (A.U.setTop g) [] mk a).1 ((B.U.setTop g).pushFrame (.throwing q)))
section Payer
variable {l : Launch} {R : Room} {p : Program} {e : Env} {below : List Frame} {s : State} {sargs : Array Value} {y : MethodName} {len W9 : Nat}
theorem vx_back {ws : List Cond} {rm : Room} {Pc : Array Value → State → Prop} {Qc : Array Value → State → Outcome → State → Prop} {XC : String → State → State → Prop} {mc ms : Nat} {free : Addr → Prop} {bytes : ByteArray} {maxL : Nat} {ret : Option FieldType}
    (hM : vx_Met l y ws rm Pc Qc XC mc ms free) (hblind : FrameBlind Pc) (hrc : rm.cells = mc) (hrs : rm.slots = ms)
    (hframes : rm.frames + 1 ≤ R.frames) (hlocals : W9 + (maxL + 11) + rm.locals ≤ R.locals)
    (hws : ∀ w ∈ ws, ∀ a' U, s.WarmedH U.vm → w.before a' U = true) (hcode : Cond.code y bytes maxL ret ∈ ws) (hinit : ∀ a' U, s.WarmedH U.vm → (Cond.initialized y.cls).before a' U = true) :
    vx_Back l R p e below s sargs y len W9 (PreOf R mc ms Pc) (PostOf Qc mc ms free) (vx_Post XC mc ms free) := by
  intro m meth c A g ig mk a X hg hsize hdg hW hn hp
  have h1 : (headSpec ws rm).pre.before a A.U = true := atoms_intro fun w hw => hws w hw _ _ X.warmed
  have h2 : (Cond.code y bytes maxL ret).before a A.U = true := hws _ hcode _ _ X.warmed
  have h3 : (Cond.initialized y.cls).before a A.U = true := hinit _ _ X.warmed
  have h4 : A.cells + (headSpec ws rm).room.cells ≤ R.cells := by rw [show (headSpec ws rm).room.cells = mc from hrc]; exact hp.1
  have h5 : A.slots + (headSpec ws rm).room.slots ≤ R.slots := by rw [show (headSpec ws rm).room.slots = ms from hrs]; exact hp.2.1
  have hPc : Pc a (A.U.calling g mk a) := hblind _ _ _ _ hp.2.2
  obtain ⟨U, Ls, c0, s0⟩ := A
  dsimp only [Pt.U, Pt.locs, Pt.cells, Pt.slots] at h1 h2 h3 h4 h5 X hn hPc ⊢
  obtain ⟨methY, cY, hmY, hcY, -, hlY, -, -, -, -⟩ := Cond.code_spec hn h2
  obtain ⟨kY, hkY, -⟩ := className_of_methodNamed hn
  have hinitY : kY.init = .initialized := Cond.initialized_spec (findClass_of_methodNamed hn) hkY h3
  have h : At U g.method c below := by rw [hg]; exact X.here
  have hlocals9 : W9 + (maxL + 11) + (headSpec ws rm).room.locals ≤ R.locals := hlocals
  have happ : (headSpec ws rm).appliesLoose y e.platform (U.calling g mk a) = true :=
    Spec.appliesLoose_calling (g := g) h hdg hn hkY hinitY
      (X.room_calling (g := g) (R' := (headSpec ws rm).room) hsize hmY hcY hframes (by rw [hlY]; omega) h4 h5) h1
  obtain ⟨mid, hmid⟩ := h.above
  have hfr : (U.setTop g).frames = (.java g :: mid) ++ below := by rw [State.frames_setTop' g h.top, hmid]; rfl
  obtain ⟨o, s₂, hsteps, -, hend, hq⟩ := Steps.callFree hM p X.admits X.cas X.clock (acts := []) hfr happ hPc trivial
  have hq' : vx_Q Qc XC mc ms free a (U.calling g mk a) o s₂ := hq
  rw [State.frames_setTop' g h.top] at hend
  obtain ⟨g₀, hg0⟩ := Option.isSome_iff_exists.mp h.top
  obtain ⟨r, hr⟩ := State.topJava?_eq_some.mp hg0
  have hr' : (({ U with heap := s₂.heap, slotsUsed := s₂.slotsUsed } : State).setVm s₂.vm).frames = .java g₀ :: r := hr
  rcases hq' with ⟨hqc, L, hfe, hL⟩ | ⟨q, rfl, E, ce, L, hx, hce, hcv, hcl, hW₂, hsm, hL⟩
  · obtain ⟨⟨v, rfl⟩, hW₂, e2, q2, q3, q4, q5, q6⟩ := id hfe
    have e3 : s₂ = ({ (U.calling g mk a).setFrames s₂.frames with heap := s₂.heap, slotsUsed := s₂.slotsUsed } : State).setVm s₂.vm := by
      have : s₂ = ({ s₂ with vm := (U.calling g mk a).vm } : State).setVm s₂.vm := rfl
      rw [e2] at this
      exact this
    obtain ⟨c₂, i₂, len₂, hc₂, hd₂, hf₂⟩ := hend
    have hW' : U.WarmedH s₂.vm := hW₂
    have hcc : c₂ = c := by
      have h1 : s₂.code? g.method = U.code? g.method := by
        rw [State.code?_eq, State.code?_eq, hW'.alike.method?]
      exact Option.some.inj (hc₂.symm.trans (h1.trans h.code))
    subst hcc
    have hlen : len₂ = len := by rw [hdg] at hd₂; cases hd₂; rfl
    subst hlen
    have hs₂ : s₂ = (({ U with heap := s₂.heap, slotsUsed := s₂.slotsUsed } : State).setVm s₂.vm).setTop { g with pc := g.pc + len₂, stack := v.toList ++ g.stack } := by
      refine e3.trans ?_
      rw [hf₂, State.calling_eq h.top, State.setFrames_setFrames, State.setTop_of_frames _ hr', hr]
      rfl
    have hsame : U.sameButNew ({ U with heap := s₂.heap, slotsUsed := s₂.slotsUsed } : State) L mc ms := by
      refine ⟨?_, q2, q3, q4, q5, q6⟩
      obtain ⟨t, ht, -⟩ := State.frames_cons hr
      show ({ U with heap := s₂.heap, slotsUsed := s₂.slotsUsed } : State) = { U.setFrames U.frames with heap := s₂.heap, slotsUsed := s₂.slotsUsed }
      rw [State.setFrames_self ht]
    subst hg
    refine Or.inl ⟨v, ⟨(({ U with heap := s₂.heap, slotsUsed := s₂.slotsUsed } : State).setVm s₂.vm), Ls ++ L, c0 + mc, s0 + ms⟩,
      ⟨X.admits, X.cas, X.clock, X.frames, X.room, X.hears, X.method, X.code, (X.here.setHeapUsed s₂.heap s₂.slotsUsed).setVm hW'.alike, X.tail, State.WarmedH.trans X.warmed hW', X.limits, X.bytes, X.same.trans (hsame.setVm s.vm)⟩,
      ⟨g, mk, s₂, L, rfl, rfl, hqc, rfl, hL, rfl, rfl⟩, ?_⟩
    show Steps p.tables e below _ ((({ U with heap := s₂.heap, slotsUsed := s₂.slotsUsed } : State).setVm s₂.vm).setTop { g with pc := g.pc + len₂, stack := v.toList ++ g.stack })
    rw [← hs₂]
    exact hsteps
  · obtain ⟨e2, q2, q3, q4, q5, q6⟩ := id hsm
    have e3 : s₂ = ({ (U.calling g mk a).setFrames s₂.frames with heap := s₂.heap, slotsUsed := s₂.slotsUsed } : State).setVm s₂.vm := by
      have : s₂ = ({ s₂ with vm := (U.calling g mk a).vm } : State).setVm s₂.vm := rfl
      rw [e2] at this
      exact this
    have hf₂ : s₂.frames = .throwing q :: .java g :: U.frames.tail := hend
    have hW' : U.WarmedH s₂.vm := hW₂
    have hs₂ : s₂ = ((({ U with heap := s₂.heap, slotsUsed := s₂.slotsUsed } : State).setVm s₂.vm).setTop g).pushFrame (.throwing q) := by
      refine e3.trans ?_
      rw [hf₂, State.calling_eq h.top, State.setFrames_setFrames, State.pushFrame, State.frames_setTop _ hr', State.setTop_of_frames _ hr', State.setFrames_setFrames, hr]
      rfl
    have hsame : U.sameButNew ({ U with heap := s₂.heap, slotsUsed := s₂.slotsUsed } : State) L mc ms := by
      refine ⟨?_, q2, q3, q4, q5, q6⟩
      obtain ⟨t, ht, -⟩ := State.frames_cons hr
      show ({ U with heap := s₂.heap, slotsUsed := s₂.slotsUsed } : State) = { U.setFrames U.frames with heap := s₂.heap, slotsUsed := s₂.slotsUsed }
      rw [State.setFrames_self ht]
    subst hg
    refine Or.inr ⟨q, ⟨(({ U with heap := s₂.heap, slotsUsed := s₂.slotsUsed } : State).setVm s₂.vm), Ls ++ L, c0 + mc, s0 + ms⟩,
      ⟨X.admits, X.cas, X.clock, X.frames, X.room, X.hears, X.method, X.code, (X.here.setHeapUsed s₂.heap s₂.slotsUsed).setVm hW'.alike, X.tail, State.WarmedH.trans X.warmed hW', X.limits, X.bytes, X.same.trans (hsame.setVm s.vm)⟩,
      ⟨g, mk, s₂, L, E, ce, rfl, rfl, hx, hce, hcv, hcl, rfl, hL, rfl, rfl⟩, ?_⟩
    show Steps p.tables e below _ (((({ U with heap := s₂.heap, slotsUsed := s₂.slotsUsed } : State).setVm s₂.vm).setTop g).pushFrame (.throwing q))
    rw [← hs₂]
    exact hsteps
end Payer
section Calls
variable {p : Program} {l : Launch} {e : Env} {R : Room} {s : State} {m : MethodId} {args : Array Value} {below : List Frame} {meth : Method} {c : Code} {T : State} {locs : List Loc} {cells slots : Nat}
theorem vx_callV (X : Stand p l e R s m args below meth c T locs cells slots) (hexec : p.tables.exec = Jvm.exec) {own C : String} {index : Nat} {y : MethodName} {bytes : ByteArray} {maxL : Nat} {ret : Option FieldType}
    (hown : s.vm.findClass own = some m.cls) (hlink : (Cond.methodLink own index y).before args s = true) (hinst : (Cond.instanceMethod y).before args s = true) (hsel : (Cond.selects C y y).before args s = true)
    (hcode : (Cond.code y bytes maxL ret).before args s = true) (hy : y.cls ≠ "java/lang/invoke/MethodHandle" ∧ y.cls ≠ "java/lang/invoke/VarHandle")
    {W9 : Nat} {Pre : Pt → Array Value → Prop} {Post : Pt → Array Value → Option Value → Pt → Prop} {PostX : Pt → Array Value → Addr → Pt → Prop} (hK : vx_Back l R p e below s args y 3 W9 Pre Post PostX)
    {b : Addr} {cellB : Cell} (hcell : T.heap[b]? = some cellB) (hobj : cellB.vm.isStatics = false) (hcls : s.vm.findClass C = some cellB.cls)
    {g : JFrame} (hg : g.method = m) (hsize : g.locals.size = c.maxLocals) {argsL rest : List Value} (hlen : ∀ sig, parseMethodDescriptor y.desc = some sig → argsL.length = sig.parameters.length)
    (hstack : g.stack = argsL.reverse ++ .ref b :: rest) (hW : 2 * g.monitorRoom + (rest.map fun v => v.category).sum ≤ W9) (hdg : decode c.code g.pc = .ok (.invokevirtual index, 3))
    (hpre : ∀ vm₁, s.WarmedH vm₁ → Pre ⟨T.setVm vm₁, locs, cells, slots⟩ (Value.ref b :: argsL).toArray) :
    (∃ (v : Option Value) (vm₁ : Vm) (B : Pt), s.WarmedH vm₁ ∧ Stand p l e R s m args below meth c B.U B.locs B.cells B.slots ∧ Post ⟨T.setVm vm₁, locs, cells, slots⟩ (Value.ref b :: argsL).toArray v B ∧
      ∀ target, Steps p.tables e below (B.U.setTop { g with pc := g.pc + 3, stack := v.toList ++ rest }) target → Steps p.tables e below (T.setTop g) target) ∨
    (∃ (q : Addr) (vm₁ : Vm) (B : Pt), s.WarmedH vm₁ ∧ Stand p l e R s m args below meth c B.U B.locs B.cells B.slots ∧ PostX ⟨T.setVm vm₁, locs, cells, slots⟩ (Value.ref b :: argsL).toArray q B ∧
      Steps p.tables e below (T.setTop g) ((B.U.setTop { g with stack := rest }).pushFrame (.throwing q))) := by
  obtain ⟨mk, methM, hnamed, hmethM, hstM, habM⟩ := Cond.instanceMethod_spec hinst
  obtain ⟨methM', cM, hmethM', -, -, -, -, -, -, hsigM⟩ := Cond.code_spec hnamed hcode
  cases hmethM.symm.trans hmethM'
  obtain ⟨c2, r2, m2, q1, q2, q3, q4, kP, hkP, hkPi⟩ := Cond.selects_spec hsel
  cases hcls.symm.trans q1
  cases (State.methodFound?_of_named hnamed hy).symm.trans q2
  cases hnamed.symm.trans q3
  have hselP : selectMethod e.platform s.vm cellB.cls mk = .method mk := by rw [Launch.admits_selectMethod X.admits]; exact q4
  obtain ⟨vm₁, X₁, hstep₁⟩ := X.invokevirtual hexec hown hlink hnamed hmethM hstM hkP hkPi hy (a := b) (cell := cellB) hcell
    (fun z h => by rw [h] at hobj; cases hobj) hselP hmethM habM hkP hkPi (g := g) hg (argsL := argsL) (rest := rest) (hlen _ hsigM) hstack hdg
  rcases hK m meth c ⟨T.setVm vm₁, locs, cells, slots⟩ { g with stack := rest } (.invokevirtual index) mk (Value.ref b :: argsL).toArray X₁ hg hsize hdg hW (X₁.named hnamed) (hpre vm₁ X₁.warmed) with ⟨v, B, X', hpost, hsteps⟩ | ⟨q, B, X', hpost, hsteps⟩
  · exact Or.inl ⟨v, vm₁, B, X₁.warmed, X', hpost, fun target h => hstep₁ _ fun acts => by rw [doInvoke_state]; exact hsteps.trans h⟩
  · exact Or.inr ⟨q, vm₁, B, X₁.warmed, X', hpost, hstep₁ _ fun acts => by rw [doInvoke_state]; exact hsteps⟩
theorem vx_callS (X : Stand p l e R s m args below meth c T locs cells slots) (hexec : p.tables.exec = Jvm.exec) {own : String} {index : Nat} {y : MethodName} {bytes : ByteArray} {maxL : Nat} {ret : Option FieldType}
    (hown : s.vm.findClass own = some m.cls) (hlink : (Cond.methodLink own index y).before args s = true) (hstat : (Cond.static y).before args s = true) (hinit : (Cond.initialized y.cls).before args s = true)
    (hcode : (Cond.code y bytes maxL ret).before args s = true) (hy : y.cls ≠ "java/lang/invoke/MethodHandle" ∧ y.cls ≠ "java/lang/invoke/VarHandle")
    {W9 : Nat} {Pre : Pt → Array Value → Prop} {Post : Pt → Array Value → Option Value → Pt → Prop} {PostX : Pt → Array Value → Addr → Pt → Prop} (hK : vx_Back l R p e below s args y 3 W9 Pre Post PostX)
    {g : JFrame} (hg : g.method = m) (hsize : g.locals.size = c.maxLocals) {argsL rest : List Value} (hlen : ∀ sig, parseMethodDescriptor y.desc = some sig → argsL.length = sig.parameters.length)
    (hstack : g.stack = argsL.reverse ++ rest) (hW : 2 * g.monitorRoom + (rest.map fun v => v.category).sum ≤ W9) (hdg : decode c.code g.pc = .ok (.invokestatic index, 3))
    (hpre : ∀ vm₁, s.WarmedH vm₁ → Pre ⟨T.setVm vm₁, locs, cells, slots⟩ argsL.toArray) :
    (∃ (v : Option Value) (vm₁ : Vm) (B : Pt), s.WarmedH vm₁ ∧ Stand p l e R s m args below meth c B.U B.locs B.cells B.slots ∧ Post ⟨T.setVm vm₁, locs, cells, slots⟩ argsL.toArray v B ∧
      ∀ target, Steps p.tables e below (B.U.setTop { g with pc := g.pc + 3, stack := v.toList ++ rest }) target → Steps p.tables e below (T.setTop g) target) ∨
    (∃ (q : Addr) (vm₁ : Vm) (B : Pt), s.WarmedH vm₁ ∧ Stand p l e R s m args below meth c B.U B.locs B.cells B.slots ∧ PostX ⟨T.setVm vm₁, locs, cells, slots⟩ argsL.toArray q B ∧
      Steps p.tables e below (T.setTop g) ((B.U.setTop { g with stack := rest }).pushFrame (.throwing q))) := by
  obtain ⟨mk, hnamed⟩ := Cond.code_named hcode
  obtain ⟨methM, cM, hmethM, -, -, -, -, -, -, hsigM⟩ := Cond.code_spec hnamed hcode
  have hstatic : methM.isStatic = true := Cond.static_spec hnamed hmethM hstat
  obtain ⟨kP, hkP, -⟩ := className_of_methodNamed hnamed
  have hinitP : kP.init = .initialized := Cond.initialized_spec (findClass_of_methodNamed hnamed) hkP hinit
  obtain ⟨vm₁, X₁, hstep₁⟩ := X.invokestatic hexec hown hlink hnamed hmethM hstatic hkP hinitP hy (g := g) hg (argsL := argsL) (rest := rest) (hlen _ hsigM) hstack hdg
  rcases hK m meth c ⟨T.setVm vm₁, locs, cells, slots⟩ { g with stack := rest } (.invokestatic index) mk argsL.toArray X₁ hg hsize hdg hW (X₁.named hnamed) (hpre vm₁ X₁.warmed) with ⟨v, B, X', hpost, hsteps⟩ | ⟨q, B, X', hpost, hsteps⟩
  · exact Or.inl ⟨v, vm₁, B, X₁.warmed, X', hpost, fun target h => hstep₁ _ fun acts => by rw [doInvoke_state]; exact hsteps.trans h⟩
  · exact Or.inr ⟨q, vm₁, B, X₁.warmed, X', hpost, hstep₁ _ fun acts => by rw [doInvoke_state]; exact hsteps⟩
end Calls
theorem vx_cls {s : State} {T : State} {vm₁ : Vm} {E : String} {k : ClassId} (hW : s.WarmedH vm₁) (h : (T.setVm vm₁).vm.findClass E = some k) : s.vm.findClass E = some k := by
  have h1 : vm₁.findClass E = some k := h
  rw [hW.alike.findClass] at h1
  exact h1
/-- the method's frame g, with q thrown over it -/
def vx_W (p : Program) (l : Launch) (e : Env) (R : Room) (s : State) (m : MethodId) (args : Array Value) (below : List Frame) (meth : Method) (c : Code) (H : Heap) (locs : List Loc) (cells slots : Nat) (Q : State → Prop) (g : JFrame) (q : Addr) : Prop :=
  ∀ T : State, T.heap = H → Stand p l e R s m args below meth c T locs cells slots → ∃ t, Steps p.tables e below ((T.setTop g).pushFrame (.throwing q)) t ∧ Q t
def vx_Run (p : Program) (l : Launch) (e : Env) (R : Room) (s : State) (m : MethodId) (args : Array Value) (below : List Frame) (meth : Method) (c : Code) (H : Heap) (locs : List Loc) (cells slots mc ms : Nat) (g : JFrame) (rest : List Value) (Qa : State → Outcome → State → Prop) (XC : String → State → State → Prop) (free : Addr → Prop) : Prop :=
  ∀ T : State, T.heap = H → Stand p l e R s m args below meth c T locs cells slots →
    (∃ (v : Option Value) (st₀ t T' : State) (L : List Loc), st₀.heap = H ∧ Stand p l e R s m args below meth c T' (locs ++ L) (cells + mc) (slots + ms) ∧ (∀ q ∈ L, free q.base) ∧ T'.heap = t.heap ∧ T'.vm = t.vm ∧ Qa st₀ (.returned v) t ∧
      Goes p e below T g T' { g with pc := g.pc + 3, stack := v.toList ++ rest }) ∨
    (∃ (q : Addr) (st₀ t T' : State) (L : List Loc) (E : String) (ce : Cell), st₀.heap = H ∧ Stand p l e R s m args below meth c T' (locs ++ L) (cells + mc) (slots + ms) ∧ (∀ z ∈ L, free z.base) ∧ T'.heap = t.heap ∧ T'.vm = t.vm ∧ XC E st₀ t ∧ t.heap[q]? = some ce ∧ ce.vm = .none ∧ s.vm.findClass E = some ce.cls ∧
      Steps p.tables e below (T.setTop g) ((T'.setTop { g with stack := rest }).pushFrame (.throwing q)))
def vx_X {S : Type} (px : S → Prop) (B : String → S → State → Prop) (A : Nat → Prop) : String → State → State → Prop := fun E st t => ∃ u : S, px u ∧ B E u t ∧ va_F A st t
section Runs
variable {p : Program} {l : Launch} {e : Env} {R : Room} {s : State} {m : MethodId} {args : Array Value} {below : List Frame} {meth : Method} {c : Code} {H : Heap} {locs : List Loc} {cells slots : Nat}
variable {y : MethodName} {bytes cc : ByteArray} {maxL nL mc ms n index : Nat} {ret : Option FieldType} {ws : List Cond} {rm : Room} {Pc : Array Value → State → Prop} {Qc : Array Value → State → Outcome → State → Prop} {XC : String → State → State → Prop} {free : Addr → Prop} {Ts : List Cond} {own C : String} {b : Addr} {As rest : List Value} {g : JFrame}
theorem vx_callBack (cb : CallB R s args own index y bytes maxL ret ws rm mc ms n) (hM : vx_Met l y ws rm Pc Qc XC mc ms free) (hbl : FrameBlind Pc) : vx_Back l R p e below s args y 3 8 (PreOf R mc ms Pc) (PostOf Qc mc ms free) (vx_Post XC mc ms free) := by
  obtain ⟨hrc, hrs, hfr, hlo, hws, hcw, -, hini, -⟩ := cb
  exact vx_back (bytes := bytes) (maxL := maxL) (ret := ret) hM hbl hrc hrs hfr hlo hws hcw (fun a' U hW => word_at hW (Or.inl (by first | rfl | simp [Cond.onTables, Cond.keeps, Cond.steady])) hini)
theorem vx_runV (S : CallFix p m c cc nL s args Ts own) (hM : vx_Met l y ws rm Pc Qc XC mc ms free) (cw : CallW R s args own C index y bytes maxL ret ws rm mc ms n) (hp : PreV s H C b Pc As)
    (hg : g.method = m) (hn : As.length = n) (hsize : g.locals.size = nL) (hstack : g.stack = As.reverse ++ .ref b :: rest) (hW : 2 * g.monitorRoom + (rest.map fun v => v.category).sum ≤ 8) (hdg : decode cc g.pc = .ok (.invokevirtual index, 3)) (hf : cells + mc ≤ R.cells ∧ slots + ms ≤ R.slots) :
    vx_Run p l e R s m args below meth c H locs cells slots mc ms g rest (Qc (Value.ref b :: As).toArray) XC free := by
  have hK : vx_Back l R p e below s args y 3 8 (PreOf R mc ms Pc) (PostOf Qc mc ms free) (vx_Post XC mc ms free) := vx_callBack cw.1 hM hp.1
  obtain ⟨⟨-, -, -, -, -, -, hcode, -, hy, hlen, hl⟩, hin, hse⟩ := cw
  obtain ⟨hx, hb, hml, ho, -⟩ := S
  obtain ⟨-, ⟨cellB, hcB, hoB, hclB⟩, hPc⟩ := hp
  intro T hT X
  rcases vx_callV X hx (C := C) (bytes := bytes) (maxL := maxL) (ret := ret) ho hl hin hse hcode hy hK (by rw [hT]; exact hcB) hoB hclB hg (hsize.trans hml.symm) (argsL := As) (rest := rest) (fun sig h => hn.trans (hlen sig h)) hstack hW (by rw [hb]; exact hdg)
    (fun vm₁ hW₁ => ⟨hf.1, hf.2, hPc (T.setVm vm₁) hT hW₁⟩) with ⟨v, vm₁, ⟨U', l2, c2, s2⟩, hW₁, X', ⟨g', mk, t, L, e1, e2, hq, h1, hL, h2, h3⟩, st⟩ | ⟨q, vm₁, ⟨U', l2, c2, s2⟩, hW₁, X', ⟨g', mk, t, L, E, ce, e1, e2, hq, hce, hcv, hcl, h1, hL, h2, h3⟩, st⟩
  · dsimp only [Pt.U, Pt.locs, Pt.cells, Pt.slots] at X' e1 e2 h1 h2 h3 st
    subst h1; subst h2; subst h3
    exact Or.inl ⟨v, (T.setVm vm₁).calling g' mk (Value.ref b :: As).toArray, t, U', L, hT, X', hL, e1, e2, hq, st⟩
  · dsimp only [Pt.U, Pt.locs, Pt.cells, Pt.slots] at X' e1 e2 h1 h2 h3 st hcl
    subst h1; subst h2; subst h3
    exact Or.inr ⟨q, (T.setVm vm₁).calling g' mk (Value.ref b :: As).toArray, t, U', L, E, ce, hT, X', hL, e1, e2, hq, hce, hcv, vx_cls hW₁ hcl, st⟩
theorem vx_runS (S : CallFix p m c cc nL s args Ts own) (hM : vx_Met l y ws rm Pc Qc XC mc ms free) (cw : CallB R s args own index y bytes maxL ret ws rm mc ms n ∧ (Cond.static y).before args s = true) (hp : PreS s H Pc As)
    (hg : g.method = m) (hn : As.length = n) (hsize : g.locals.size = nL) (hstack : g.stack = As.reverse ++ rest) (hW : 2 * g.monitorRoom + (rest.map fun v => v.category).sum ≤ 8) (hdg : decode cc g.pc = .ok (.invokestatic index, 3)) (hf : cells + mc ≤ R.cells ∧ slots + ms ≤ R.slots) :
    vx_Run p l e R s m args below meth c H locs cells slots mc ms g rest (Qc As.toArray) XC free := by
  have hK : vx_Back l R p e below s args y 3 8 (PreOf R mc ms Pc) (PostOf Qc mc ms free) (vx_Post XC mc ms free) := vx_callBack cw.1 hM hp.1
  obtain ⟨⟨-, -, -, -, -, -, hcode, hini, hy, hlen, hl⟩, hstt⟩ := cw
  obtain ⟨hx, hb, hml, ho, -⟩ := S
  intro T hT X
  rcases vx_callS X hx (bytes := bytes) (maxL := maxL) (ret := ret) ho hl hstt hini hcode hy hK hg (hsize.trans hml.symm) (argsL := As) (rest := rest) (fun sig h => hn.trans (hlen sig h)) hstack hW (by rw [hb]; exact hdg)
    (fun vm₁ hW₁ => ⟨hf.1, hf.2, hp.2 (T.setVm vm₁) hT hW₁⟩) with ⟨v, vm₁, ⟨U', l2, c2, s2⟩, hW₁, X', ⟨g', mk, t, L, e1, e2, hq, h1, hL, h2, h3⟩, st⟩ | ⟨q, vm₁, ⟨U', l2, c2, s2⟩, hW₁, X', ⟨g', mk, t, L, E, ce, e1, e2, hq, hce, hcv, hcl, h1, hL, h2, h3⟩, st⟩
  · dsimp only [Pt.U, Pt.locs, Pt.cells, Pt.slots] at X' e1 e2 h1 h2 h3 st
    subst h1; subst h2; subst h3
    exact Or.inl ⟨v, (T.setVm vm₁).calling g' mk As.toArray, t, U', L, hT, X', hL, e1, e2, hq, st⟩
  · dsimp only [Pt.U, Pt.locs, Pt.cells, Pt.slots] at X' e1 e2 h1 h2 h3 st hcl
    subst h1; subst h2; subst h3
    exact Or.inr ⟨q, (T.setVm vm₁).calling g' mk As.toArray, t, U', L, E, ce, hT, X', hL, e1, e2, hq, hce, hcv, vx_cls hW₁ hcl, st⟩
end Runs
section Rows
variable {p : Program} {l : Launch} {e : Env} {R : Room} {s : State} {m : MethodId} {args : Array Value} {below : List Frame} {meth : Method} {c : Code} {H : Heap} {locs : List Loc} {cells slots : Nat} {Q : State → Prop}
variable {mc ms : Nat} {free : Addr → Prop} {A0 A1 : Nat → Prop} {H0 : Heap} {a : Array Value} {pc : Nat} {ls : Array Slot} {st0 rest : List Value}
theorem vx_keep {st₀ t T' : State} {L : List Loc} (h0 : st₀.heap = H) (e1 : T'.heap = t.heap) (hS : va_S A0 H0 H locs) (hA : ∀ q, q < H.size → A1 q → A0 q) (hf : ∀ q, free q → A0 q) (hL : ∀ q ∈ L, free q.base) (hF : va_F A1 st₀ t) :
    H.size ≤ T'.heap.size ∧ (∀ q : Nat, q < H.size → ¬ A1 q → T'.heap[q]? = H[q]?) ∧ va_S A0 H0 T'.heap (locs ++ L) := by
  obtain ⟨hz, hk⟩ := hF
  rw [h0] at hz hk
  exact ⟨by rw [e1]; exact hz, fun q h1 h2 => by rw [e1]; exact hk q h1 h2,
    ⟨Nat.le_trans hS.1 (by rw [e1]; exact hz), fun q h1 h2 => by rw [e1, hk q (Nat.lt_of_lt_of_le h1 hS.1) (fun z => h2 (hA q (Nat.lt_of_lt_of_le h1 hS.1) z))]; exact hS.2.1 q h1 h2, fun q hq => by
      rcases List.mem_append.mp hq with h | h
      · exact hS.2.2 q h
      · exact hf _ (hL q h)⟩⟩
theorem vx_calli {S SX : Type} {post : Int32 → S → Prop} {px : SX → Prop} {B : S → State → Prop} {BX : String → SX → State → Prop} {AX : Nat → Prop} (hr : vx_Run p l e R s m args below meth c H locs cells slots mc ms (F0 m pc ls st0) rest (va_Qi post B A1 a) (vx_X px BX AX) free) (hS : va_S A0 H0 H locs) (hA : ∀ q, q < H.size → A1 q → A0 q) (hf : ∀ q, free q → A0 q) (hAX : ∀ q, q < H.size → AX q → A0 q)
    (kx : ∀ (E : String) (ce : Cell) (q9 : Addr) (u : SX) (t : State) (H1 : Heap) (locs1 : List Loc), t.heap = H1 → s.vm.Alike t.vm → px u → BX E u t → H.size ≤ H1.size → (∀ q : Nat, q < H.size → ¬ AX q → H1[q]? = H[q]?) → va_S A0 H0 H1 locs1 → H1[q9]? = some ce → ce.vm = .none → s.vm.findClass E = some ce.cls → vx_W p l e R s m args below meth c H1 locs1 (cells + mc) (slots + ms) Q (F0 m pc ls rest) q9)
    (kk : ∀ (r : Int32) (u : S) (t : State) (H1 : Heap) (locs1 : List Loc), t.heap = H1 → s.vm.Alike t.vm → post r u → B u t → H.size ≤ H1.size → (∀ q : Nat, q < H.size → ¬ A1 q → H1[q]? = H[q]?) → va_S A0 H0 H1 locs1 → W p l e R s m args below meth c H1 locs1 (cells + mc) (slots + ms) Q (F0 m (pc + 3) ls (.int r :: rest))) : W p l e R s m args below meth c H locs cells slots Q (F0 m pc ls st0) := by
  intro T hT X
  rcases hr T hT X with ⟨v, st₀, t, T', L, h0, X', hL, e1, e2, ⟨⟨r, u, hv, hp, hb⟩, hF⟩, st⟩ | ⟨q, st₀, t, T', L, E, ce, h0, X', hL, e1, e2, ⟨u, hp, hb, hF⟩, hce, hcv, hcl, st⟩
  · cases hv
    obtain ⟨k1, k2, k3⟩ := vx_keep h0 e1 hS hA hf hL hF
    obtain ⟨t2, a1, b1⟩ := kk r u t T'.heap (locs ++ L) e1.symm (by rw [← e2]; exact X'.warmed.alike) hp hb k1 k2 k3 T' rfl X'
    exact ⟨t2, st t2 a1, b1⟩
  · obtain ⟨k1, k2, k3⟩ := vx_keep h0 e1 hS hAX hf hL hF
    obtain ⟨t2, a1, b1⟩ := kx E ce q u t T'.heap (locs ++ L) e1.symm (by rw [← e2]; exact X'.warmed.alike) hp hb k1 k2 k3 (by rw [e1]; exact hce) hcv hcl T' rfl X'
    exact ⟨t2, st.trans a1, b1⟩
theorem vx_calll {S SX : Type} {post : Int64 → S → Prop} {px : SX → Prop} {B : S → State → Prop} {BX : String → SX → State → Prop} {AX : Nat → Prop} (hr : vx_Run p l e R s m args below meth c H locs cells slots mc ms (F0 m pc ls st0) rest (va_Ql post B A1 a) (vx_X px BX AX) free) (hS : va_S A0 H0 H locs) (hA : ∀ q, q < H.size → A1 q → A0 q) (hf : ∀ q, free q → A0 q) (hAX : ∀ q, q < H.size → AX q → A0 q)
    (kx : ∀ (E : String) (ce : Cell) (q9 : Addr) (u : SX) (t : State) (H1 : Heap) (locs1 : List Loc), t.heap = H1 → s.vm.Alike t.vm → px u → BX E u t → H.size ≤ H1.size → (∀ q : Nat, q < H.size → ¬ AX q → H1[q]? = H[q]?) → va_S A0 H0 H1 locs1 → H1[q9]? = some ce → ce.vm = .none → s.vm.findClass E = some ce.cls → vx_W p l e R s m args below meth c H1 locs1 (cells + mc) (slots + ms) Q (F0 m pc ls rest) q9)
    (kk : ∀ (r : Int64) (u : S) (t : State) (H1 : Heap) (locs1 : List Loc), t.heap = H1 → s.vm.Alike t.vm → post r u → B u t → H.size ≤ H1.size → (∀ q : Nat, q < H.size → ¬ A1 q → H1[q]? = H[q]?) → va_S A0 H0 H1 locs1 → W p l e R s m args below meth c H1 locs1 (cells + mc) (slots + ms) Q (F0 m (pc + 3) ls (.long r :: rest))) : W p l e R s m args below meth c H locs cells slots Q (F0 m pc ls st0) := by
  intro T hT X
  rcases hr T hT X with ⟨v, st₀, t, T', L, h0, X', hL, e1, e2, ⟨⟨r, u, hv, hp, hb⟩, hF⟩, st⟩ | ⟨q, st₀, t, T', L, E, ce, h0, X', hL, e1, e2, ⟨u, hp, hb, hF⟩, hce, hcv, hcl, st⟩
  · cases hv
    obtain ⟨k1, k2, k3⟩ := vx_keep h0 e1 hS hA hf hL hF
    obtain ⟨t2, a1, b1⟩ := kk r u t T'.heap (locs ++ L) e1.symm (by rw [← e2]; exact X'.warmed.alike) hp hb k1 k2 k3 T' rfl X'
    exact ⟨t2, st t2 a1, b1⟩
  · obtain ⟨k1, k2, k3⟩ := vx_keep h0 e1 hS hAX hf hL hF
    obtain ⟨t2, a1, b1⟩ := kx E ce q u t T'.heap (locs ++ L) e1.symm (by rw [← e2]; exact X'.warmed.alike) hp hb k1 k2 k3 (by rw [e1]; exact hce) hcv hcl T' rfl X'
    exact ⟨t2, st.trans a1, b1⟩
theorem vx_callf {S SX : Type} {post : UInt32 → S → Prop} {px : SX → Prop} {B : S → State → Prop} {BX : String → SX → State → Prop} {AX : Nat → Prop} (hr : vx_Run p l e R s m args below meth c H locs cells slots mc ms (F0 m pc ls st0) rest (va_Qf post B A1 a) (vx_X px BX AX) free) (hS : va_S A0 H0 H locs) (hA : ∀ q, q < H.size → A1 q → A0 q) (hf : ∀ q, free q → A0 q) (hAX : ∀ q, q < H.size → AX q → A0 q)
    (kx : ∀ (E : String) (ce : Cell) (q9 : Addr) (u : SX) (t : State) (H1 : Heap) (locs1 : List Loc), t.heap = H1 → s.vm.Alike t.vm → px u → BX E u t → H.size ≤ H1.size → (∀ q : Nat, q < H.size → ¬ AX q → H1[q]? = H[q]?) → va_S A0 H0 H1 locs1 → H1[q9]? = some ce → ce.vm = .none → s.vm.findClass E = some ce.cls → vx_W p l e R s m args below meth c H1 locs1 (cells + mc) (slots + ms) Q (F0 m pc ls rest) q9)
    (kk : ∀ (r : UInt32) (u : S) (t : State) (H1 : Heap) (locs1 : List Loc), t.heap = H1 → s.vm.Alike t.vm → post r u → B u t → H.size ≤ H1.size → (∀ q : Nat, q < H.size → ¬ A1 q → H1[q]? = H[q]?) → va_S A0 H0 H1 locs1 → W p l e R s m args below meth c H1 locs1 (cells + mc) (slots + ms) Q (F0 m (pc + 3) ls (.float r :: rest))) : W p l e R s m args below meth c H locs cells slots Q (F0 m pc ls st0) := by
  intro T hT X
  rcases hr T hT X with ⟨v, st₀, t, T', L, h0, X', hL, e1, e2, ⟨⟨r, u, hv, hp, hb⟩, hF⟩, st⟩ | ⟨q, st₀, t, T', L, E, ce, h0, X', hL, e1, e2, ⟨u, hp, hb, hF⟩, hce, hcv, hcl, st⟩
  · cases hv
    obtain ⟨k1, k2, k3⟩ := vx_keep h0 e1 hS hA hf hL hF
    obtain ⟨t2, a1, b1⟩ := kk r u t T'.heap (locs ++ L) e1.symm (by rw [← e2]; exact X'.warmed.alike) hp hb k1 k2 k3 T' rfl X'
    exact ⟨t2, st t2 a1, b1⟩
  · obtain ⟨k1, k2, k3⟩ := vx_keep h0 e1 hS hAX hf hL hF
    obtain ⟨t2, a1, b1⟩ := kx E ce q u t T'.heap (locs ++ L) e1.symm (by rw [← e2]; exact X'.warmed.alike) hp hb k1 k2 k3 (by rw [e1]; exact hce) hcv hcl T' rfl X'
    exact ⟨t2, st.trans a1, b1⟩
theorem vx_calld {S SX : Type} {post : UInt64 → S → Prop} {px : SX → Prop} {B : S → State → Prop} {BX : String → SX → State → Prop} {AX : Nat → Prop} (hr : vx_Run p l e R s m args below meth c H locs cells slots mc ms (F0 m pc ls st0) rest (va_Qd post B A1 a) (vx_X px BX AX) free) (hS : va_S A0 H0 H locs) (hA : ∀ q, q < H.size → A1 q → A0 q) (hf : ∀ q, free q → A0 q) (hAX : ∀ q, q < H.size → AX q → A0 q)
    (kx : ∀ (E : String) (ce : Cell) (q9 : Addr) (u : SX) (t : State) (H1 : Heap) (locs1 : List Loc), t.heap = H1 → s.vm.Alike t.vm → px u → BX E u t → H.size ≤ H1.size → (∀ q : Nat, q < H.size → ¬ AX q → H1[q]? = H[q]?) → va_S A0 H0 H1 locs1 → H1[q9]? = some ce → ce.vm = .none → s.vm.findClass E = some ce.cls → vx_W p l e R s m args below meth c H1 locs1 (cells + mc) (slots + ms) Q (F0 m pc ls rest) q9)
    (kk : ∀ (r : UInt64) (u : S) (t : State) (H1 : Heap) (locs1 : List Loc), t.heap = H1 → s.vm.Alike t.vm → post r u → B u t → H.size ≤ H1.size → (∀ q : Nat, q < H.size → ¬ A1 q → H1[q]? = H[q]?) → va_S A0 H0 H1 locs1 → W p l e R s m args below meth c H1 locs1 (cells + mc) (slots + ms) Q (F0 m (pc + 3) ls (.double r :: rest))) : W p l e R s m args below meth c H locs cells slots Q (F0 m pc ls st0) := by
  intro T hT X
  rcases hr T hT X with ⟨v, st₀, t, T', L, h0, X', hL, e1, e2, ⟨⟨r, u, hv, hp, hb⟩, hF⟩, st⟩ | ⟨q, st₀, t, T', L, E, ce, h0, X', hL, e1, e2, ⟨u, hp, hb, hF⟩, hce, hcv, hcl, st⟩
  · cases hv
    obtain ⟨k1, k2, k3⟩ := vx_keep h0 e1 hS hA hf hL hF
    obtain ⟨t2, a1, b1⟩ := kk r u t T'.heap (locs ++ L) e1.symm (by rw [← e2]; exact X'.warmed.alike) hp hb k1 k2 k3 T' rfl X'
    exact ⟨t2, st t2 a1, b1⟩
  · obtain ⟨k1, k2, k3⟩ := vx_keep h0 e1 hS hAX hf hL hF
    obtain ⟨t2, a1, b1⟩ := kx E ce q u t T'.heap (locs ++ L) e1.symm (by rw [← e2]; exact X'.warmed.alike) hp hb k1 k2 k3 (by rw [e1]; exact hce) hcv hcl T' rfl X'
    exact ⟨t2, st.trans a1, b1⟩
theorem vx_callv {S SX : Type} {post : S → Prop} {px : SX → Prop} {B : S → State → Prop} {BX : String → SX → State → Prop} {AX : Nat → Prop} (hr : vx_Run p l e R s m args below meth c H locs cells slots mc ms (F0 m pc ls st0) rest (va_Qv post B A1 a) (vx_X px BX AX) free) (hS : va_S A0 H0 H locs) (hA : ∀ q, q < H.size → A1 q → A0 q) (hf : ∀ q, free q → A0 q) (hAX : ∀ q, q < H.size → AX q → A0 q)
    (kx : ∀ (E : String) (ce : Cell) (q9 : Addr) (u : SX) (t : State) (H1 : Heap) (locs1 : List Loc), t.heap = H1 → s.vm.Alike t.vm → px u → BX E u t → H.size ≤ H1.size → (∀ q : Nat, q < H.size → ¬ AX q → H1[q]? = H[q]?) → va_S A0 H0 H1 locs1 → H1[q9]? = some ce → ce.vm = .none → s.vm.findClass E = some ce.cls → vx_W p l e R s m args below meth c H1 locs1 (cells + mc) (slots + ms) Q (F0 m pc ls rest) q9)
    (kk : ∀ (u : S) (t : State) (H1 : Heap) (locs1 : List Loc), t.heap = H1 → s.vm.Alike t.vm → post u → B u t → H.size ≤ H1.size → (∀ q : Nat, q < H.size → ¬ A1 q → H1[q]? = H[q]?) → va_S A0 H0 H1 locs1 → W p l e R s m args below meth c H1 locs1 (cells + mc) (slots + ms) Q (F0 m (pc + 3) ls (rest))) : W p l e R s m args below meth c H locs cells slots Q (F0 m pc ls st0) := by
  intro T hT X
  rcases hr T hT X with ⟨v, st₀, t, T', L, h0, X', hL, e1, e2, ⟨⟨u, hv, hp, hb⟩, hF⟩, st⟩ | ⟨q, st₀, t, T', L, E, ce, h0, X', hL, e1, e2, ⟨u, hp, hb, hF⟩, hce, hcv, hcl, st⟩
  · cases hv
    obtain ⟨k1, k2, k3⟩ := vx_keep h0 e1 hS hA hf hL hF
    obtain ⟨t2, a1, b1⟩ := kk u t T'.heap (locs ++ L) e1.symm (by rw [← e2]; exact X'.warmed.alike) hp hb k1 k2 k3 T' rfl X'
    exact ⟨t2, st t2 a1, b1⟩
  · obtain ⟨k1, k2, k3⟩ := vx_keep h0 e1 hS hAX hf hL hF
    obtain ⟨t2, a1, b1⟩ := kx E ce q u t T'.heap (locs ++ L) e1.symm (by rw [← e2]; exact X'.warmed.alike) hp hb k1 k2 k3 (by rw [e1]; exact hce) hcv hcl T' rfl X'
    exact ⟨t2, st.trans a1, b1⟩
/-- caught by the row x of this method's table; the rows ahead don't take it -/
theorem vx_catch {own name : String} {E : String} {ce : Cell} {q : Addr} (hown : s.vm.findClass own = some m.cls) (pre : List ExceptionTableEntry) (x : ExceptionTableEntry) (suf : List ExceptionTableEntry) (hsplit : c.exceptionTable.toList = pre ++ x :: suf)
    (hpass : ∀ z ∈ pre, covers z pc = false ∨ (z.catchType ≠ 0 ∧ ∃ nm : String, (Cond.classLink own z.catchType nm).before args s = true ∧ va_Nc E nm s)) (hx : covers x pc = true) (h0 : x.catchType ≠ 0)
    (hlink : (Cond.classLink own x.catchType name).before args s = true) (hcast : (Cond.castable E name).before args s = true) (hcell : H[q]? = some ce) (hv : ce.vm = .none) (hcl : s.vm.findClass E = some ce.cls)
    (kk : W p l e R s m args below meth c H locs cells slots Q (F0 m x.handlerPc ls [.ref q])) : vx_W p l e R s m args below meth c H locs cells slots Q (F0 m pc ls rest) q := by
  intro T hT X
  have hpl : e.platform.magicAccessors = ({} : Platform).magicAccessors := by rw [X.admits.platform]
  obtain ⟨c3, c4, hc3, hc4, hasg⟩ := Cond.castable_spec hcast
  cases Option.some.inj (hc3.symm.trans hcl)
  obtain ⟨c5, hc5, hcl5⟩ := Cond.classLink_spec hown hlink e.platform hpl
  cases Option.some.inj (hc4.symm.trans hc5)
  obtain ⟨vm', X', st⟩ := X.thenCaughtThrough q (g := F0 m pc ls rest) rfl (Steps.refl _) (by rw [hT]; exact hcell) (by rw [hv]; rfl) (by obtain ⟨k9, h9, -⟩ := Vm.findClass_spec hcl; exact ⟨k9, h9⟩) pre x suf hsplit
    (fun z hz => by
      rcases hpass z hz with h | ⟨hz0, nm, hl1, hn1⟩
      · exact Or.inl h
      · obtain ⟨c6, hc6, hcl6⟩ := Cond.classLink_spec hown hl1 e.platform hpl
        obtain ⟨a8, b8, h1, h2, h3⟩ := hn1
        cases Option.some.inj (h1.symm.trans hcl)
        cases Option.some.inj (h2.symm.trans hc6)
        exact Or.inr ⟨hz0, _, hcl6, h3⟩) hx (Or.inr ⟨h0, c4, hcl5, hasg⟩)
  obtain ⟨t, a1, b1⟩ := kk (T.setVm vm') hT X'
  exact ⟨t, st.trans a1, b1⟩
end Rows
section Ends
variable {p : Program} {l : Launch} {e : Env} {R : Room} {s : State} {m : MethodId} {args : Array Value} {below : List Frame} {meth : Method} {c : Code} {H : Heap} {locs : List Loc} {cells slots : Nat} {Q : State → Prop}
variable {mc ms : Nat} {free : Addr → Prop} {A0 A1 : Nat → Prop} {H0 : Heap} {a : Array Value} {ls : Array Slot} {st0 rest : List Value}
variable {Qc : Array Value → State → Outcome → State → Prop} {XC : String → State → State → Prop}
/-- what a body that may throw owes at its end -/
def vx_MQ (below : List Frame) (Qc : Array Value → State → Outcome → State → Prop) (XC : String → State → State → Prop) (a : Array Value) (s : State) (mc ms : Nat) (free : Addr → Prop) : State → Prop := fun t =>
  ∃ o, t.status = .running ∧ Ended t below o ∧ vx_Q Qc XC mc ms free a s o t
theorem vx_ret {g : JFrame} {mc ms : Nat} (k : W p l e R s m args below meth c H locs cells slots (MQ below Qc args s mc ms free) g) : W p l e R s m args below meth c H locs cells slots (vx_MQ below Qc XC args s mc ms free) g := by
  intro T hT X
  obtain ⟨t, a1, o, b1, b2, b3, b4⟩ := k T hT X
  exact ⟨t, a1, o, b1, b2, Or.inl ⟨b3, b4⟩⟩
/-- not caught here: it goes on to the caller -/
theorem vx_widen {g : JFrame} {q : Addr} {k n : Nat} (h1 : cells ≤ k) (h2 : slots ≤ n) (kk : vx_W p l e R s m args below meth c H locs k n Q g q) : vx_W p l e R s m args below meth c H locs cells slots Q g q := fun T hT X => kk T hT (stand_widen X h1 h2)
theorem vx_out {pc : Nat} {E : String} {ce : Cell} {q : Addr} {mc ms : Nat} (hout : ∀ x ∈ c.exceptionTable.toList, covers x pc = false) (hlocks : meth.locks = false) (hcell : H[q]? = some ce) (hv : ce.vm = .none) (hcl : s.vm.findClass E = some ce.cls)
    (hx : ∀ t : State, t.heap = H → s.vm.Alike t.vm → XC E s t) (hf : ∀ z ∈ locs, free z.base) (hc : cells ≤ mc) (hs : slots ≤ ms) :
    vx_W p l e R s m args below meth c H locs cells slots (vx_MQ below Qc XC args s mc ms free) (F0 m pc ls rest) q := by
  intro T hT X
  obtain ⟨st1, hrun, hend, hW, hsm⟩ := X.leaveThrown q (g := F0 m pc ls rest) rfl rfl rfl hout hlocks
  have hcell9 : (T.setFrames (.throwing q :: below)).heap[q]? = some ce := by
    show T.heap[q]? = some ce
    rw [hT]; exact hcell
  exact ⟨_, st1, .threw q, hrun, hend, Or.inr ⟨q, rfl, E, ce, locs, hx _ hT hW.alike, hcell9, hv, hcl, hW, hsm.mono hc hs, hf⟩⟩
theorem vx_frame {U : State} {k n : Nat} (h : s.sameButNew ({ U with vm := s.vm } : State) locs k n) : s.heap.size ≤ U.heap.size ∧ ∀ q : Nat, q < s.heap.size → (∀ z ∈ locs, z.base ≠ q) → U.heap[q]? = s.heap[q]? := by
  obtain ⟨-, h2, -, -, -, h6⟩ := h
  refine ⟨h2, fun q hq hz => ?_⟩
  obtain ⟨c9, e1, e2, e3, e4⟩ := h6 q _ (Array.getElem?_eq_getElem hq)
  have hs : c9.slots = (s.heap[q]).slots := Array.ext_getElem? fun i => e4 i fun hm => hz _ hm rfl
  have h9 : c9 = s.heap[q] := by
    rw [hs] at e2
    exact e2
  have e5 : U.heap[q]? = some c9 := e1
  rw [e5, h9, Array.getElem?_eq_getElem hq]
/-- the words of a throw but the four that speak of the heap -/
def vx_no (w : Cond) : Bool := decide (w ≠ .isRef (.static Bundle.tN "UNASSIGNED_STACK" Bundle.steD)) && decide (w ≠ .isRef (.static Bundle.tN "SUPPRESSED_SENTINEL" Bundle.listD)) && decide (w ≠ .laysStatic Bundle.tN "UNASSIGNED_STACK" Bundle.steD) && decide (w ≠ .laysStatic Bundle.tN "SUPPRESSED_SENTINEL" Bundle.listD)
def vx_at0 (own : String) (ic : Nat) (X : String) (names : List String) : List Cond := (Bundle.ownAtoms0 own ic X names).filter vx_no
def vx_atS (own : String) (ic : Nat) (X : String) (names : List String) : List Cond := (Bundle.ownAtoms own ic X names).filter vx_no
/-- a word that the tables alone decide, or a good one -/
def vx_ot (w : Cond) : Bool := w.onTables || goodWord w
theorem vx_ot_at {args a' : Array Value} {s U : State} {w : Cond} (hW : s.WarmedH U.vm) (hvm : s.vm = U.vm) (hg : vx_ot w = true) (h : w.before args s = true) : w.before a' U = true := by
  simp only [vx_ot, Bool.or_eq_true] at hg
  rcases hg with hg | hg
  · exact va_tabs hg hvm h
  · exact word_at hW (good_of_word hg) h
/-- a list's words: the good ones out of the method's own list, the others by premises of their own -/
theorem vx_hat {args : Array Value} {s : State} {L B : List Cond} (h1 : ∀ w ∈ L.filter goodWord, w.before args s = true) (h2 : ∀ w ∈ L.filter (fun w => !goodWord w), w ∈ B) (h3 : ∀ w ∈ B, w.before args s = true) : ∀ w ∈ L, w.before args s = true := by
  intro w hw
  by_cases g : goodWord w = true
  · exact h1 w (List.mem_filter.mpr ⟨hw, g⟩)
  · refine h3 w (h2 w (List.mem_filter.mpr ⟨hw, ?_⟩))
    show (!goodWord w) = true
    cases hgw : goodWord w
    · rfl
    · exact absurd hgw g
theorem vx_c {args : Array Value} {s : State} {w : Cond} {B : List Cond} (h : w.before args s = true) (t : ∀ w ∈ B, w.before args s = true) : ∀ w' ∈ w :: B, w'.before args s = true := fun w' h' => (List.mem_cons.mp h').elim (fun e => by rw [e]; exact h) (t w')
theorem vx_n {args : Array Value} {s : State} : ∀ w ∈ ([] : List Cond), w.before args s = true := fun _ h => nomatch h
theorem vx_own {args : Array Value} {s : State} {L : List Cond} (h1 : ∀ w ∈ L.filter vx_no, w.before args s = true)
    (hU : (Cond.isRef (.static Bundle.tN "UNASSIGNED_STACK" Bundle.steD)).before args s = true) (hN : (Cond.isRef (.static Bundle.tN "SUPPRESSED_SENTINEL" Bundle.listD)).before args s = true)
    (lU : (Cond.laysStatic Bundle.tN "UNASSIGNED_STACK" Bundle.steD).before args s = true) (lN : (Cond.laysStatic Bundle.tN "SUPPRESSED_SENTINEL" Bundle.listD).before args s = true) : ∀ w ∈ L, w.before args s = true := by
  intro w hw
  by_cases e1 : w = .isRef (.static Bundle.tN "UNASSIGNED_STACK" Bundle.steD)
  · rw [e1]; exact hU
  · by_cases e2 : w = .isRef (.static Bundle.tN "SUPPRESSED_SENTINEL" Bundle.listD)
    · rw [e2]; exact hN
    · by_cases e3 : w = .laysStatic Bundle.tN "UNASSIGNED_STACK" Bundle.steD
      · rw [e3]; exact lU
      · by_cases e4 : w = .laysStatic Bundle.tN "SUPPRESSED_SENTINEL" Bundle.listD
        · rw [e4]; exact lN
        · exact h1 w (List.mem_filter.mpr ⟨hw, by unfold vx_no; rw [decide_eq_true e1, decide_eq_true e2, decide_eq_true e3, decide_eq_true e4]; rfl⟩)
/-- where a static field lies, its class's statics cell in H -/
def vx_L (C n d : String) (A : Nat → Prop) (U : State) (H : Heap) : Prop := ∃ (c : ClassId) (k : Class) (i : Nat) (f : Field) (a : Nat) (cell : Cell), U.vm.findClass C = some c ∧ U.fieldFound? C n d = some (c, k, i, f) ∧ f.isStatic = true ∧ k.statics = some a ∧ H[a]? = some cell ∧ cell.vm.isStatics = true ∧ cell.cls = c ∧ f.slot < cell.slots.size ∧ k.staticTypes[f.slot]? = some f.type ∧ ¬ A a
theorem vx_L.moved {C n d : String} {A : Nat → Prop} {u U : State} {H : Heap} (hvm : u.vm.Alike U.vm) (h : vx_L C n d A u H) : vx_L C n d A U H := by
  obtain ⟨c, k, i, f, a, cell, h1, h2, h3, h4, h5, h6, h7, h8, h9, h10⟩ := h
  obtain ⟨k', hi', he⟩ := State.fieldFound?_setVm hvm h2
  exact ⟨c, k', i, f, a, cell, by rw [hvm.findClass]; exact h1, hi', h3, by rw [he]; exact h4, h5, h6, h7, h8, by rw [he]; exact h9, h10⟩
theorem vx_L.kept {C n d : String} {A : Nat → Prop} {U : State} {H H1 : Heap} (h : vx_L C n d A U H) (hq : ∀ a : Nat, a < H.size → ¬ A a → H1[a]? = H[a]?) : vx_L C n d A U H1 := by
  obtain ⟨c, k, i, f, a, cell, h1, h2, h3, h4, h5, h6, h7, h8, h9, h10⟩ := h
  exact ⟨c, k, i, f, a, cell, h1, h2, h3, h4, by rw [hq a (Array.getElem?_eq_some_iff.mp h5).1 h10]; exact h5, h6, h7, h8, h9, h10⟩
theorem vx_L.narrow {C n d : String} {A B : Nat → Prop} {U : State} {H : Heap} (h : vx_L C n d A U H) (hAB : ∀ q, B q → A q) : vx_L C n d B U H := by
  obtain ⟨c, k, i, f, a, cell, h1, h2, h3, h4, h5, h6, h7, h8, h9, h10⟩ := h
  exact ⟨c, k, i, f, a, cell, h1, h2, h3, h4, h5, h6, h7, h8, h9, fun z => h10 (hAB _ z)⟩
theorem vx_L.word {C n d : String} {A : Nat → Prop} {s : State} {args : Array Value} (h : vx_L C n d A s s.heap) : (Cond.laysStatic C n d).before args s = true := by
  obtain ⟨c, k, i, f, a, cell, h1, h2, h3, h4, h5, h6, h7, h8, h9, -⟩ := h
  show (Cond.laysStatic C n d).holds args s none s [] = true
  exact Cond.laysStatic_of h1 h2 h3 h4 h5 h6 h7 h8 h9
/-- .. and what it holds: null or some reference -/
def vx_Zq (C n d : String) (A : Nat → Prop) (U : State) (H : Heap) : Prop := va_Zq C n d A U H ∧ vx_L C n d A U H
theorem vx_Zq.moved {C n d : String} {A : Nat → Prop} {u U : State} {H : Heap} (hvm : u.vm.Alike U.vm) (h : vx_Zq C n d A u H) : vx_Zq C n d A U H := ⟨va_Zq.moved hvm h.1, vx_L.moved hvm h.2⟩
theorem vx_Zq.kept {C n d : String} {A : Nat → Prop} {U : State} {H H1 : Heap} (h : vx_Zq C n d A U H) (hq : ∀ a : Nat, a < H.size → ¬ A a → H1[a]? = H[a]?) : vx_Zq C n d A U H1 := ⟨va_Zq.kept h.1 hq, vx_L.kept h.2 hq⟩
theorem vx_Zq.narrow {C n d : String} {A B : Nat → Prop} {U : State} {H : Heap} (h : vx_Zq C n d A U H) (hAB : ∀ q, B q → A q) : vx_Zq C n d B U H := ⟨va_Zq.narrow h.1 hAB, vx_L.narrow h.2 hAB⟩
theorem vx_Zqof {args : Array Value} {s : State} {C n d : String} {A : Nat → Prop} (hl : (Cond.laysStatic C n d).before args s = true) (hini : (Cond.initialized C).before args s = true) (h : (Cond.isRef (.static C n d)).before args s = true) (hA : ∀ a : Nat, a < s.heap.size → ¬ A a) : vx_Zq C n d A s s.heap := by
  refine ⟨va_Zqof hl hini h hA, ?_⟩
  obtain ⟨c, k, i, f, a, cell, h1, h2, h3, h4, h5, h6, h7, h8, h9⟩ := Cond.laysStatic_spec hl
  exact ⟨c, k, i, f, a, cell, h1, h2, h3, h4, h5, h6, h7, h8, h9, hA a (Array.getElem?_eq_some_iff.mp h5).1⟩
theorem vx_isRef {C n d : String} {v : Value} {A : Nat → Prop} {s : State} {args : Array Value} (h : va_Z C n d v A s s.heap) (hv : v.isRef = true) : (Cond.isRef (.static C n d)).before args s = true := by
  obtain ⟨cf, kf, fi, f, a, cell, h1, h2, h3, h4, h5, h6, h7, -⟩ := h
  have he : (Term.static C n d).eval args s none [] s = some v := by
    simp [Term.eval, State.fieldNamed?, h1, h2, h4, h5, h6, h7]
  simp only [Cond.before, Cond.holds, Cond.value, he]
  cases v <;> simp_all [Value.isRef]
theorem vx_isRefq {C n d : String} {A : Nat → Prop} {s : State} {args : Array Value} (h : va_Zq C n d A s s.heap) : (Cond.isRef (.static C n d)).before args s = true := by
  rcases h with h | ⟨t, h⟩
  · exact vx_isRef h rfl
  · exact vx_isRef h rfl
/-- the same frame, seen from here: as if the method were called anew in this heap -/
theorem vx_rebase {T : State} (X : Stand p l e R s m args below meth c T locs cells slots) {R' : Room} (hf : R'.frames ≤ R.frames) (hl : R'.locals ≤ R.locals) (hc : cells + R'.cells ≤ R.cells) (hs : slots + R'.slots ≤ R.slots) :
    Stand p l e R' ((T.setVm s.vm).setFrames (.invoking m args :: below)) m args below meth c T [] 0 0 := by
  have htop : (T.setVm s.vm).topJava?.isSome := X.here.top
  have hF : ((T.setVm s.vm).setFrames (.invoking m args :: below)).frames = .invoking m args :: below := State.frames_setFrames _ (State.cur_lt_of_top htop)
  obtain ⟨g₀, hg0⟩ := Option.isSome_iff_exists.mp htop
  obtain ⟨r, hr⟩ := State.topJava?_eq_some.mp hg0
  have hl9 : e.platform.stackLimits (T.setVm s.vm).me = e.platform.stackLimits s.me := X.limits
  have hb9 : (T.setVm s.vm).me.stackBytes = s.me.stackBytes := X.bytes
  refine ⟨X.admits, X.cas, X.clock, hF, ?_, X.hears, X.method, X.code, X.here, X.tail, X.warmed, ?_, ?_, ?_⟩
  · have h := X.room
    have hU : ((T.setVm s.vm).setFrames (.invoking m args :: below)).localsInUse = s.localsInUse := by
      rw [State.localsInUse_invoking hF (meth := meth) (c := c) X.method X.code, State.localsInUse_invoking X.frames X.method X.code]
    simp only [State.hasRoom, Bool.and_eq_true, decide_eq_true_eq] at h ⊢
    obtain ⟨⟨⟨⟨h1, h2, h3, h4, h5, h6⟩, h7⟩, h8⟩, h9⟩ := h
    rw [X.frames, List.length_cons] at h2 h3
    have q1 := X.heapSize
    have q2 := X.used
    simp only [hF, hU, List.length_cons, State.stackLimits_setFrames, State.stackBytes_setFrames, hl9, hb9]
    refine ⟨⟨⟨⟨by omega, by omega, by omega, by omega, by omega, h6⟩, ?_⟩, ?_⟩, X.book⟩
    · show T.heap.size + R'.cells ≤ e.platform.maxCells
      omega
    · show T.slotsUsed + R'.slots ≤ e.platform.maxSlots
      omega
  · rw [State.stackLimits_setFrames]; rfl
  · rw [State.stackBytes_setFrames]; rfl
  · refine ⟨?_, Nat.le_refl _, Nat.le_refl _, ?_, ?_, fun a c9 h9 => ⟨c9, h9, rfl, rfl, fun _ _ => rfl⟩⟩
    · obtain ⟨t, ht, -⟩ := State.frames_cons hr
      show T.setVm s.vm = { ((T.setVm s.vm).setFrames (.invoking m args :: below)).setFrames (T.setVm s.vm).frames with heap := T.heap, slotsUsed := T.slotsUsed }
      rw [State.setFrames_setFrames, State.setFrames_self ht]
      rfl
    · show T.slotsUsed = T.slotsUsed + ((T.heap.toList.drop T.heap.size).map (·.slots.size)).sum
      rw [List.drop_eq_nil_of_le (Nat.le_of_eq Array.length_toList)]
      rfl
    · show ((T.heap.toList.drop T.heap.size).map (·.slots.size)).sum ≤ 0
      rw [List.drop_eq_nil_of_le (Nat.le_of_eq Array.length_toList)]
      exact Nat.le_refl _
/-- 'throw new E()': new; dup; invokespecial; athrow -/
theorem vx_throw0 {cc : ByteArray} {pc : Nat} (hexec : p.tables.exec = Jvm.exec) (hb : c.code = cc) (hl : l.stackTraces = false) {own cls : String} {names : List String} {ik ic mc ms : Nat} {A : Nat → Prop}
    (hown : s.vm.findClass own = some m.cls) (hcls : Bundle.fit cls = true) (hnames : ∀ n ∈ names, Bundle.fit n = true)
    (hk : (Cond.classLink own ik cls).before args s = true) (hini : (Cond.initialized cls).before args s = true) (hat : ∀ w ∈ vx_at0 own ic cls names, w.before args s = true)
    (hgood : ∀ w ∈ Cond.classLink own ik cls :: Cond.initialized cls :: vx_at0 own ic cls names, vx_ot w = true)
    (hU : vx_Zq Bundle.tN "UNASSIGNED_STACK" Bundle.steD A s s.heap) (hN : vx_Zq Bundle.tN "SUPPRESSED_SENTINEL" Bundle.listD A s s.heap) (hS : va_S A s.heap H locs) (hsize : ls.size = c.maxLocals)
    (d0 : decode cc pc = .ok (.new ik, 3)) (d3 : decode cc (pc + 3) = .ok (.dup, 1)) (d4 : decode cc (pc + 4) = .ok (.invokespecial ic, 3)) (d7 : decode cc (pc + 7) = .ok (.athrow, 1))
    (hout : ∀ x ∈ c.exceptionTable.toList, covers x (pc + 7) = false)
    (hRframes : names.length + 3 < R.frames) (hRlocals : (rest.map fun v => v.category).sum + (13 * (names.length + 1) + 42) ≤ R.locals) (hRcells : cells + 1 ≤ R.cells) (hRslots : slots + 6 ≤ R.slots) (hlocks : meth.locks = false)
    (hx : ∀ t : State, s.vm.Alike t.vm → H.size ≤ t.heap.size → (∀ q : Nat, q < H.size → t.heap[q]? = H[q]?) → XC cls s t)
    (hf : ∀ z ∈ locs, free z.base) (hc : cells + 1 ≤ mc) (hs : slots + 6 ≤ ms) :
    W p l e R s m args below meth c H locs cells slots (vx_MQ below Qc XC args s mc ms free) (F0 m pc ls rest) := by
  intro T hT X
  have htr : e.platform.stackTraces = false := (show e.platform.stackTraces = l.stackTraces by rw [X.admits.platform]).trans hl
  have Y := vx_rebase X (R' := { frames := R.frames, locals := R.locals, cells := 1, slots := 6 }) (Nat.le_refl _) (Nat.le_refl _) hRcells hRslots
  obtain ⟨s', hA⟩ : ∃ z, z = (T.setVm s.vm).setFrames (.invoking m args :: below) := ⟨_, rfl⟩
  rw [← hA] at Y
  have hvm : s'.vm = s.vm := by rw [hA]; rfl
  have hhp : s'.heap = H := by rw [hA]; exact hT
  have hW0 : s.WarmedH s'.vm := by rw [hvm]; exact State.WarmedH.refl s
  have hat' : ∀ w ∈ vx_at0 own ic cls names, w.before args s' = true := fun w hw => vx_ot_at hW0 hvm.symm (hgood w (List.mem_cons_of_mem _ (List.mem_cons_of_mem _ hw))) (hat w hw)
  have hk' : (Cond.classLink own ik cls).before args s' = true := vx_ot_at hW0 hvm.symm (hgood _ List.mem_cons_self) hk
  have hini' : (Cond.initialized cls).before args s' = true := vx_ot_at hW0 hvm.symm (hgood _ (List.mem_cons_of_mem _ List.mem_cons_self)) hini
  have hU' : vx_Zq Bundle.tN "UNASSIGNED_STACK" Bundle.steD A s' s'.heap := by rw [hhp]; exact vx_Zq.moved hW0.alike (hU.kept hS.2.1)
  have hN' : vx_Zq Bundle.tN "SUPPRESSED_SENTINEL" Bundle.listD A s' s'.heap := by rw [hhp]; exact vx_Zq.moved hW0.alike (hN.kept hS.2.1)
  have h : ∀ w ∈ Bundle.ownAtoms0 own ic cls names, w.before args s' = true := vx_own hat' (vx_isRefq hU'.1) (vx_isRefq hN'.1) hU'.2.word hN'.2.word
  have hown' : s'.vm.findClass own = some m.cls := by rw [hvm]; exact hown
  have hins : (Cond.instantiable cls 6).before args s' = true := h _ (by simp [Bundle.ownAtoms0])
  obtain ⟨vm₁, cX, kX, hfX, hkX, -, -, X₁, st1⟩ := Y.newCold hexec (own := own) (C := cls) (index := ik) (n := 6) hown' hk' hins hini'
    (g := F0 m pc ls rest) rfl (by rw [hb]; exact d0) (Nat.le_refl _) (Nat.le_refl _)
  generalize hT1 : (T.setVm vm₁).pushCell { cls := cX, slots := kX.instanceTypes.map defaultValue, vm := .none } = T1 at X₁ st1
  have hcat : (Value.ref T.heap.size).category = 1 := rfl
  have hcellA : T1.heap[T.heap.size]? = some (freshCell cX kX) := by rw [← hT1]; exact State.heap_pushCell_size _ _
  have d3' : decode c.code (pc + 3) = .ok (.dup, 1) := by rw [hb]; exact d3
  obtain ⟨U, hsteps, hrun, hend, hW, hsame, ce, hce, hO⟩ := X₁.ctorThrow0 hexec htr (own := own) (cls := cls) (names := names) (ic := ic) hown' hcls hnames h (fun x hx => nomatch hx) hfX hkX hcellA (by rw [hhp, hT]; exact Nat.le_refl _)
    (g := { method := m, pc := pc + 4, locals := ls, stack := .ref T.heap.size :: .ref T.heap.size :: rest, locked := none }) rfl hsize rfl rfl (rest := rest) rfl
    (by rw [hb]; exact d4) (by rw [hb]; exact d7) hout hRframes (by simp only [List.map_cons, List.sum_cons, hcat]; omega) hlocks
  obtain ⟨f1, f2⟩ := vx_frame hsame
  rw [hhp] at f1 f2
  have hWs : s.WarmedH U.vm := State.WarmedH.trans hW0 hW
  have hcl : s.vm.findClass cls = some ce.cls := by
    have h9 := hO.cls
    rw [hvm] at h9
    exact h9
  have hall : s.sameButNew ({ U with vm := s.vm } : State) locs mc ms := by
    subst hA
    obtain ⟨e1, e2⟩ := hsame
    rw [State.setFrames_setFrames] at e1
    have h2 : (T.setVm s.vm).sameButNew ({ U with vm := s.vm } : State) [] (0 + 1) (0 + 6) := ⟨e1, e2⟩
    have h3 := X.same.trans h2
    rw [List.append_nil] at h3
    exact h3.mono hc hs
  refine ⟨U, ?_, .threw T.heap.size, hrun, hend, Or.inr ⟨T.heap.size, rfl, cls, ce, locs, hx U hWs.alike f1 (fun q hq => f2 q hq (fun z hz => nomatch hz)), hce, hO.vm, hcl, hWs, hall, hf⟩⟩
  refine st1 _ ?_
  show Steps p.tables e below (T1.setTop { method := m, pc := pc + 3, locals := ls, stack := .ref T.heap.size :: rest, locked := none }) _
  jvm_step X₁.here [X₁.here.top, hexec, d3', Value.category]
  exact hsteps
/-- 'throw new E("text")': new; dup; ldc; invokespecial; athrow -/
theorem vx_throwS {cc : ByteArray} {pc : Nat} (hexec : p.tables.exec = Jvm.exec) (hb : c.code = cc) (hl : l.stackTraces = false) {own cls text : String} {names : List String} {ik is ic mc ms sa : Nat} {A : Nat → Prop}
    (hown : s.vm.findClass own = some m.cls) (hcls : Bundle.fit cls = true) (hnames : ∀ n ∈ names, Bundle.fit n = true)
    (hk : (Cond.classLink own ik cls).before args s = true) (hini : (Cond.initialized cls).before args s = true) (hstr : vk_R own is text sa s) (hat : ∀ w ∈ vx_atS own ic cls names, w.before args s = true)
    (hgood : ∀ w ∈ Cond.classLink own ik cls :: Cond.initialized cls :: vx_atS own ic cls names, vx_ot w = true)
    (hU : vx_Zq Bundle.tN "UNASSIGNED_STACK" Bundle.steD A s s.heap) (hN : vx_Zq Bundle.tN "SUPPRESSED_SENTINEL" Bundle.listD A s s.heap) (hS : va_S A s.heap H locs) (hsize : ls.size = c.maxLocals)
    (d0 : decode cc pc = .ok (.new ik, 3)) (d3 : decode cc (pc + 3) = .ok (.dup, 1)) (d4 : decode cc (pc + 4) = .ok (.ldc is, 2)) (d6 : decode cc (pc + 6) = .ok (.invokespecial ic, 3)) (d9 : decode cc (pc + 9) = .ok (.athrow, 1))
    (hout : ∀ x ∈ c.exceptionTable.toList, covers x (pc + 9) = false)
    (hRframes : names.length + 3 < R.frames) (hRlocals : (rest.map fun v => v.category).sum + (13 * (names.length + 1) + 43) ≤ R.locals) (hRcells : cells + 1 ≤ R.cells) (hRslots : slots + 6 ≤ R.slots) (hlocks : meth.locks = false)
    (hx : ∀ t : State, s.vm.Alike t.vm → H.size ≤ t.heap.size → (∀ q : Nat, q < H.size → t.heap[q]? = H[q]?) → XC cls s t)
    (hf : ∀ z ∈ locs, free z.base) (hc : cells + 1 ≤ mc) (hs : slots + 6 ≤ ms) :
    W p l e R s m args below meth c H locs cells slots (vx_MQ below Qc XC args s mc ms free) (F0 m pc ls rest) := by
  intro T hT X
  have htr : e.platform.stackTraces = false := (show e.platform.stackTraces = l.stackTraces by rw [X.admits.platform]).trans hl
  have Y := vx_rebase X (R' := { frames := R.frames, locals := R.locals, cells := 1, slots := 6 }) (Nat.le_refl _) (Nat.le_refl _) hRcells hRslots
  obtain ⟨s', hA⟩ : ∃ z, z = (T.setVm s.vm).setFrames (.invoking m args :: below) := ⟨_, rfl⟩
  rw [← hA] at Y
  have hvm : s'.vm = s.vm := by rw [hA]; rfl
  have hhp : s'.heap = H := by rw [hA]; exact hT
  have hW0 : s.WarmedH s'.vm := by rw [hvm]; exact State.WarmedH.refl s
  have hat' : ∀ w ∈ vx_atS own ic cls names, w.before args s' = true := fun w hw => vx_ot_at hW0 hvm.symm (hgood w (List.mem_cons_of_mem _ (List.mem_cons_of_mem _ hw))) (hat w hw)
  have hk' : (Cond.classLink own ik cls).before args s' = true := vx_ot_at hW0 hvm.symm (hgood _ List.mem_cons_self) hk
  have hini' : (Cond.initialized cls).before args s' = true := vx_ot_at hW0 hvm.symm (hgood _ (List.mem_cons_of_mem _ List.mem_cons_self)) hini
  have hU' : vx_Zq Bundle.tN "UNASSIGNED_STACK" Bundle.steD A s' s'.heap := by rw [hhp]; exact vx_Zq.moved hW0.alike (hU.kept hS.2.1)
  have hN' : vx_Zq Bundle.tN "SUPPRESSED_SENTINEL" Bundle.listD A s' s'.heap := by rw [hhp]; exact vx_Zq.moved hW0.alike (hN.kept hS.2.1)
  have h : ∀ w ∈ Bundle.ownAtoms own ic cls names, w.before args s' = true := vx_own hat' (vx_isRefq hU'.1) (vx_isRefq hN'.1) hU'.2.word hN'.2.word
  have hown' : s'.vm.findClass own = some m.cls := by rw [hvm]; exact hown
  have hins : (Cond.instantiable cls 6).before args s' = true := h _ (by simp [Bundle.ownAtoms])
  obtain ⟨vm₁, cX, kX, hfX, hkX, -, -, X₁, st1⟩ := Y.newCold hexec (own := own) (C := cls) (index := ik) (n := 6) hown' hk' hins hini'
    (g := F0 m pc ls rest) rfl (by rw [hb]; exact d0) (Nat.le_refl _) (Nat.le_refl _)
  generalize hT1 : (T.setVm vm₁).pushCell { cls := cX, slots := kX.instanceTypes.map defaultValue, vm := .none } = T1 at X₁ st1
  have hcat : (Value.ref T.heap.size).category = 1 := rfl
  have hcellA : T1.heap[T.heap.size]? = some (freshCell cX kX) := by rw [← hT1]; exact State.heap_pushCell_size _ _
  have d3' : decode c.code (pc + 3) = .ok (.dup, 1) := by rw [hb]; exact d3
  have d4' : decode c.code (pc + 4) = .ok (.ldc is, 2) := by rw [hb]; exact d4
  have hstr' : vk_R own is text sa s' := vk_R.warm hW0 hstr
  obtain ⟨U, hsteps, hrun, hend, hW, hsame, ce, hce, hO⟩ := X₁.ctorThrowS hexec htr (own := own) (cls := cls) (names := names) (ic := ic) hown' hcls hnames h (fun x hx => nomatch hx) hfX hkX hcellA (by rw [hhp, hT]; exact Nat.le_refl _) (msg := .ref sa) rfl
    (g := { method := m, pc := pc + 6, locals := ls, stack := .ref sa :: .ref T.heap.size :: .ref T.heap.size :: rest, locked := none }) rfl hsize rfl rfl (rest := rest) rfl
    (by rw [hb]; exact d6) (by rw [hb]; exact d9) hout hRframes (by simp only [List.map_cons, List.sum_cons, hcat]; omega) hlocks
  obtain ⟨f1, f2⟩ := vx_frame hsame
  rw [hhp] at f1 f2
  have hWs : s.WarmedH U.vm := State.WarmedH.trans hW0 hW
  have hcl : s.vm.findClass cls = some ce.cls := by
    have h9 := hO.cls
    rw [hvm] at h9
    exact h9
  have hall : s.sameButNew ({ U with vm := s.vm } : State) locs mc ms := by
    subst hA
    obtain ⟨e1, e2⟩ := hsame
    rw [State.setFrames_setFrames] at e1
    have h2 : (T.setVm s.vm).sameButNew ({ U with vm := s.vm } : State) [] (0 + 1) (0 + 6) := ⟨e1, e2⟩
    have h3 := X.same.trans h2
    rw [List.append_nil] at h3
    exact h3.mono hc hs
  refine ⟨U, ?_, .threw T.heap.size, hrun, hend, Or.inr ⟨T.heap.size, rfl, cls, ce, locs, hx U hWs.alike f1 (fun q hq => f2 q hq (fun z hz => nomatch hz)), hce, hO.vm, hcl, hWs, hall, hf⟩⟩
  refine st1 _ ?_
  show Steps p.tables e below (T1.setTop { method := m, pc := pc + 3, locals := ls, stack := .ref T.heap.size :: rest, locked := none }) _
  jvm_step X₁.here [X₁.here.top, hexec, d3', Value.category]
  exact X₁.ldcString hexec (own := own) (text := text) (index := is) (a := sa) hown' hstr'.1 hstr'.2
    (g := { method := m, pc := pc + 4, locals := ls, stack := .ref T.heap.size :: .ref T.heap.size :: rest, locked := none }) rfl d4' _ hsteps
/-- 'throw new E("text")', the text by a wide index -/
theorem vx_throwSW {cc : ByteArray} {pc : Nat} (hexec : p.tables.exec = Jvm.exec) (hb : c.code = cc) (hl : l.stackTraces = false) {own cls text : String} {names : List String} {ik is ic mc ms sa : Nat} {A : Nat → Prop}
    (hown : s.vm.findClass own = some m.cls) (hcls : Bundle.fit cls = true) (hnames : ∀ n ∈ names, Bundle.fit n = true)
    (hk : (Cond.classLink own ik cls).before args s = true) (hini : (Cond.initialized cls).before args s = true) (hstr : vk_R own is text sa s) (hat : ∀ w ∈ vx_atS own ic cls names, w.before args s = true)
    (hgood : ∀ w ∈ Cond.classLink own ik cls :: Cond.initialized cls :: vx_atS own ic cls names, vx_ot w = true)
    (hU : vx_Zq Bundle.tN "UNASSIGNED_STACK" Bundle.steD A s s.heap) (hN : vx_Zq Bundle.tN "SUPPRESSED_SENTINEL" Bundle.listD A s s.heap) (hS : va_S A s.heap H locs) (hsize : ls.size = c.maxLocals)
    (d0 : decode cc pc = .ok (.new ik, 3)) (d3 : decode cc (pc + 3) = .ok (.dup, 1)) (d4 : decode cc (pc + 4) = .ok (.ldc_w is, 3)) (d7 : decode cc (pc + 7) = .ok (.invokespecial ic, 3)) (d10 : decode cc (pc + 10) = .ok (.athrow, 1))
    (hout : ∀ x ∈ c.exceptionTable.toList, covers x (pc + 10) = false)
    (hRframes : names.length + 3 < R.frames) (hRlocals : (rest.map fun v => v.category).sum + (13 * (names.length + 1) + 43) ≤ R.locals) (hRcells : cells + 1 ≤ R.cells) (hRslots : slots + 6 ≤ R.slots) (hlocks : meth.locks = false)
    (hx : ∀ t : State, s.vm.Alike t.vm → H.size ≤ t.heap.size → (∀ q : Nat, q < H.size → t.heap[q]? = H[q]?) → XC cls s t)
    (hf : ∀ z ∈ locs, free z.base) (hc : cells + 1 ≤ mc) (hs : slots + 6 ≤ ms) :
    W p l e R s m args below meth c H locs cells slots (vx_MQ below Qc XC args s mc ms free) (F0 m pc ls rest) := by
  intro T hT X
  have htr : e.platform.stackTraces = false := (show e.platform.stackTraces = l.stackTraces by rw [X.admits.platform]).trans hl
  have Y := vx_rebase X (R' := { frames := R.frames, locals := R.locals, cells := 1, slots := 6 }) (Nat.le_refl _) (Nat.le_refl _) hRcells hRslots
  obtain ⟨s', hA⟩ : ∃ z, z = (T.setVm s.vm).setFrames (.invoking m args :: below) := ⟨_, rfl⟩
  rw [← hA] at Y
  have hvm : s'.vm = s.vm := by rw [hA]; rfl
  have hhp : s'.heap = H := by rw [hA]; exact hT
  have hW0 : s.WarmedH s'.vm := by rw [hvm]; exact State.WarmedH.refl s
  have hat' : ∀ w ∈ vx_atS own ic cls names, w.before args s' = true := fun w hw => vx_ot_at hW0 hvm.symm (hgood w (List.mem_cons_of_mem _ (List.mem_cons_of_mem _ hw))) (hat w hw)
  have hk' : (Cond.classLink own ik cls).before args s' = true := vx_ot_at hW0 hvm.symm (hgood _ List.mem_cons_self) hk
  have hini' : (Cond.initialized cls).before args s' = true := vx_ot_at hW0 hvm.symm (hgood _ (List.mem_cons_of_mem _ List.mem_cons_self)) hini
  have hU' : vx_Zq Bundle.tN "UNASSIGNED_STACK" Bundle.steD A s' s'.heap := by rw [hhp]; exact vx_Zq.moved hW0.alike (hU.kept hS.2.1)
  have hN' : vx_Zq Bundle.tN "SUPPRESSED_SENTINEL" Bundle.listD A s' s'.heap := by rw [hhp]; exact vx_Zq.moved hW0.alike (hN.kept hS.2.1)
  have h : ∀ w ∈ Bundle.ownAtoms own ic cls names, w.before args s' = true := vx_own hat' (vx_isRefq hU'.1) (vx_isRefq hN'.1) hU'.2.word hN'.2.word
  have hown' : s'.vm.findClass own = some m.cls := by rw [hvm]; exact hown
  have hins : (Cond.instantiable cls 6).before args s' = true := h _ (by simp [Bundle.ownAtoms])
  obtain ⟨vm₁, cX, kX, hfX, hkX, -, -, X₁, st1⟩ := Y.newCold hexec (own := own) (C := cls) (index := ik) (n := 6) hown' hk' hins hini'
    (g := F0 m pc ls rest) rfl (by rw [hb]; exact d0) (Nat.le_refl _) (Nat.le_refl _)
  generalize hT1 : (T.setVm vm₁).pushCell { cls := cX, slots := kX.instanceTypes.map defaultValue, vm := .none } = T1 at X₁ st1
  have hcat : (Value.ref T.heap.size).category = 1 := rfl
  have hcellA : T1.heap[T.heap.size]? = some (freshCell cX kX) := by rw [← hT1]; exact State.heap_pushCell_size _ _
  have d3' : decode c.code (pc + 3) = .ok (.dup, 1) := by rw [hb]; exact d3
  have d4' : decode c.code (pc + 4) = .ok (.ldc_w is, 3) := by rw [hb]; exact d4
  have hstr' : vk_R own is text sa s' := vk_R.warm hW0 hstr
  obtain ⟨U, hsteps, hrun, hend, hW, hsame, ce, hce, hO⟩ := X₁.ctorThrowS hexec htr (own := own) (cls := cls) (names := names) (ic := ic) hown' hcls hnames h (fun x hx => nomatch hx) hfX hkX hcellA (by rw [hhp, hT]; exact Nat.le_refl _) (msg := .ref sa) rfl
    (g := { method := m, pc := pc + 7, locals := ls, stack := .ref sa :: .ref T.heap.size :: .ref T.heap.size :: rest, locked := none }) rfl hsize rfl rfl (rest := rest) rfl
    (by rw [hb]; exact d7) (by rw [hb]; exact d10) hout hRframes (by simp only [List.map_cons, List.sum_cons, hcat]; omega) hlocks
  obtain ⟨f1, f2⟩ := vx_frame hsame
  rw [hhp] at f1 f2
  have hWs : s.WarmedH U.vm := State.WarmedH.trans hW0 hW
  have hcl : s.vm.findClass cls = some ce.cls := by
    have h9 := hO.cls
    rw [hvm] at h9
    exact h9
  have hall : s.sameButNew ({ U with vm := s.vm } : State) locs mc ms := by
    subst hA
    obtain ⟨e1, e2⟩ := hsame
    rw [State.setFrames_setFrames] at e1
    have h2 : (T.setVm s.vm).sameButNew ({ U with vm := s.vm } : State) [] (0 + 1) (0 + 6) := ⟨e1, e2⟩
    have h3 := X.same.trans h2
    rw [List.append_nil] at h3
    exact h3.mono hc hs
  refine ⟨U, ?_, .threw T.heap.size, hrun, hend, Or.inr ⟨T.heap.size, rfl, cls, ce, locs, hx U hWs.alike f1 (fun q hq => f2 q hq (fun z hz => nomatch hz)), hce, hO.vm, hcl, hWs, hall, hf⟩⟩
  refine st1 _ ?_
  show Steps p.tables e below (T1.setTop { method := m, pc := pc + 3, locals := ls, stack := .ref T.heap.size :: rest, locked := none }) _
  jvm_step X₁.here [X₁.here.top, hexec, d3', Value.category]
  exact X₁.ldcStringW hexec (own := own) (text := text) (index := is) (a := sa) hown' hstr'.1 hstr'.2
    (g := { method := m, pc := pc + 4, locals := ls, stack := .ref T.heap.size :: .ref T.heap.size :: rest, locked := none }) rfl d4' _ hsteps
end Ends
section Bodies
variable {l : Launch}
theorem vx_ofW {y : MethodName} {ws ws' : List Cond} {rm : Room} {Pc : Array Value → State → Prop} {Qc : Array Value → State → Outcome → State → Prop} {XC : String → State → State → Prop} {mc ms : Nat} {free : Addr → Prop} {cc : ByteArray} {maxL : Nat} {ret : Option FieldType}
    (hy : plainName y.cls = true) (hw : ws = Cond.code y cc maxL ret :: ws')
    (body : ∀ p e s m args below meth c s₁, BodyLoose p l y (headSpec ws rm) cc maxL ret e s m args below meth c s₁ → c.maxLocals = maxL → (∀ x ∈ c.exceptionTable.toList, False) → Pc args s →
      W p l e (headSpec ws rm).room s m args below meth c s.heap [] 0 0 (vx_MQ below Qc XC args s mc ms free) (entryFrame m args maxL)) : vx_Met l y ws rm Pc Qc XC mc ms free := by
  refine MetFree.of_bodyS (code := cc) (maxLocals := maxL) (ret := ret) hy ?_ ?_
  · intro args s m h hn
    obtain ⟨meth, c, h1, h2, h3, h4, h5, h6, -, -⟩ := Cond.code_spec hn (atoms_spec (ws := ws) h _ (by rw [hw]; exact List.mem_cons_self))
    exact ⟨meth, c, h1, h2, h3, h4, h5, h6⟩
  · intro p e s m args below meth c s₁ B hml hP _
    have hh0 : s₁.heap = s.heap := by rw [B.state]; rfl
    have ht : ∀ x ∈ c.exceptionTable.toList, False := by
      obtain ⟨meth9, c9, h1, h2, -, -, -, -, h7, -⟩ := Cond.code_spec B.named (atoms_spec (ws := ws) B.pre _ (by rw [hw]; exact List.mem_cons_self))
      cases Option.some.inj (h1.symm.trans B.method)
      cases Option.some.inj (h2.symm.trans (Stand.of_body B).code)
      intro x hx
      rw [Array.isEmpty_iff.mp h7] at hx
      cases hx
    obtain ⟨t, a1, o, b1, b2, b3⟩ := body p e s m args below meth c s₁ B hml ht hP s₁ hh0 (Stand.of_body B)
    exact ⟨t, o, a1, b1, b2, b3⟩
/-- the table of a body with handlers -/
theorem vx_table {p : Program} {x y : MethodName} {S : Spec} {cc bytes : ByteArray} {maxL maxL' : Nat} {ret ret' : Option FieldType} {e : Env} {s s₁ : State} {m : MethodId} {args : Array Value} {below : List Frame} {meth : Method} {c : Code} {hh : List (Nat × Nat × Nat × Nat)}
    (B : BodyLoose p l y S cc maxL ret e s m args below meth c s₁) (h : (Cond.codeWith y bytes maxL' ret' hh).before args s = true) : c.exceptionTable.toList = tableOf hh := by
  obtain ⟨m9, meth9, c9, hn9, h1, h2, -, -, h6, -⟩ := Cond.codeWith_spec h
  cases Option.some.inj (hn9.symm.trans B.named)
  cases Option.some.inj (h1.symm.trans B.method)
  cases Option.some.inj (h2.symm.trans (Stand.of_body B).code)
  rw [← h6, table_eq]
end Bodies
end VXA
/-! ===== END ===== -/
/-! ===== BEGIN a static call of a method with an exception table ===== -/
section VXS
variable {p : Program} {l : Launch} {e : Env} {R : Room} {s : State} {m : MethodId} {args : Array Value} {below : List Frame} {meth : Method} {c : Code} {T : State} {H : Heap} {locs : List Loc} {cells slots : Nat}
abbrev vx_CSW (R : Room) (s : State) (args : Array Value) (own : String) (index : Nat) (y : MethodName) (bytes : ByteArray) (maxL : Nat) (ret : Option FieldType) (hh : List (Nat × Nat × Nat × Nat)) (ws : List Cond) (rm : Room) (mc ms n : Nat) : Prop :=
  (rm.cells = mc ∧ rm.slots = ms ∧ rm.frames + 1 ≤ R.frames ∧ 8 + (maxL + 11) + rm.locals ≤ R.locals ∧ (∀ w ∈ ws, ∀ (a' : Array Value) (U : State), s.WarmedH U.vm → w.before a' U = true) ∧ Cond.codeWith y bytes maxL ret hh ∈ ws) ∧
  (Cond.codeWith y bytes maxL ret hh).before args s = true ∧ (Cond.initialized y.cls).before args s = true ∧ (y.cls ≠ "java/lang/invoke/MethodHandle" ∧ y.cls ≠ "java/lang/invoke/VarHandle") ∧
  (∀ sig, parseMethodDescriptor y.desc = some sig → n = sig.parameters.length) ∧ (Cond.methodLink own index y).before args s = true ∧ (Cond.static y).before args s = true
theorem vx_cwSW {own : String} {index maxL mc ms : Nat} {y : MethodName} {bytes : ByteArray} {ret : Option FieldType} {hh : List (Nat × Nat × Nat × Nat)} {Ts ws ws' : List Cond} {rm : Room} (n : Nat) (ht : ∀ w ∈ Ts, w.before args s = true) (hT : GoodIn Ts (va_wsS own index y ws)) (hw : ws = Cond.codeWith y bytes maxL ret hh :: ws') (hrc : rm.cells = mc) (hrs : rm.slots = ms)
    (hd : y.cls ≠ "java/lang/invoke/MethodHandle" ∧ y.cls ≠ "java/lang/invoke/VarHandle" ∧ (parseMethodDescriptor y.desc).map (fun d => d.parameters.length) = some n) (hR : rm.frames + 1 ≤ R.frames ∧ 8 + (maxL + 11) + rm.locals ≤ R.locals) :
    vx_CSW R s args own index y bytes maxL ret hh ws rm mc ms n := by
  have ok : ∀ w ∈ va_wsS own index y ws, w.before args s = true := fun w h => ht w (hT w h).1
  have hG : GoodIn Ts ws := fun w h => hT w (by unfold va_wsS; exact List.mem_append_right _ h)
  have hc : Cond.codeWith y bytes maxL ret hh ∈ ws := by rw [hw]; exact List.mem_cons_self
  refine ⟨⟨hrc, hrs, hR.1, hR.2, pay_in ht hG, hc⟩, ht _ (hG _ hc).1, ok _ (by simp [va_wsS]), ⟨hd.1, hd.2.1⟩, fun sig h => ?_, ok _ (by simp [va_wsS]), ok _ (by simp [va_wsS])⟩
  have h2 := hd.2.2
  rw [h] at h2
  exact (Option.some.inj h2).symm
theorem vx_callSW (X : Stand p l e R s m args below meth c T locs cells slots) (hexec : p.tables.exec = Jvm.exec) {own : String} {index : Nat} {y : MethodName} {bytes : ByteArray} {maxL : Nat} {ret : Option FieldType} {hh : List (Nat × Nat × Nat × Nat)}
    (hown : s.vm.findClass own = some m.cls) (hlink : (Cond.methodLink own index y).before args s = true) (hstat : (Cond.static y).before args s = true) (hinit : (Cond.initialized y.cls).before args s = true)
    (hcode : (Cond.codeWith y bytes maxL ret hh).before args s = true) (hy : y.cls ≠ "java/lang/invoke/MethodHandle" ∧ y.cls ≠ "java/lang/invoke/VarHandle")
    {W9 : Nat} {Pre : Pt → Array Value → Prop} {Post : Pt → Array Value → Option Value → Pt → Prop} (hK : Back l R p e below s args y 3 W9 Pre Post)
    {g : JFrame} (hg : g.method = m) (hsize : g.locals.size = c.maxLocals) {argsL rest : List Value} (hlen : ∀ sig, parseMethodDescriptor y.desc = some sig → argsL.length = sig.parameters.length)
    (hstack : g.stack = argsL.reverse ++ rest) (hW : 2 * g.monitorRoom + (rest.map fun v => v.category).sum ≤ W9) (hdg : decode c.code g.pc = .ok (.invokestatic index, 3))
    (hpre : ∀ vm₁, s.WarmedH vm₁ → Pre ⟨T.setVm vm₁, locs, cells, slots⟩ argsL.toArray) :
    ∃ (v : Option Value) (vm₁ : Vm) (B : Pt), s.WarmedH vm₁ ∧ Stand p l e R s m args below meth c B.U B.locs B.cells B.slots ∧ Post ⟨T.setVm vm₁, locs, cells, slots⟩ argsL.toArray v B ∧
      ∀ target, Steps p.tables e below (B.U.setTop { g with pc := g.pc + 3, stack := v.toList ++ rest }) target → Steps p.tables e below (T.setTop g) target := by
  obtain ⟨mk, methM, cM, hnamed, hmethM, -, -, -, -, -, -, hsigM⟩ := Cond.codeWith_spec hcode
  have hstatic : methM.isStatic = true := Cond.static_spec hnamed hmethM hstat
  obtain ⟨kP, hkP, -⟩ := className_of_methodNamed hnamed
  have hinitP : kP.init = .initialized := Cond.initialized_spec (findClass_of_methodNamed hnamed) hkP hinit
  obtain ⟨vm₁, X₁, hstep₁⟩ := X.invokestatic hexec hown hlink hnamed hmethM hstatic hkP hinitP hy (g := g) hg (argsL := argsL) (rest := rest) (hlen _ hsigM) hstack hdg
  obtain ⟨v, B, X', hpost, hsteps⟩ := hK m meth c ⟨T.setVm vm₁, locs, cells, slots⟩ { g with stack := rest } (.invokestatic index) mk argsL.toArray X₁ hg hsize hdg hW (X₁.named hnamed) (hpre vm₁ X₁.warmed)
  exact ⟨v, vm₁, B, X₁.warmed, X', hpost, fun target h => hstep₁ _ fun acts => by rw [doInvoke_state]; exact hsteps.trans h⟩
theorem vx_runSW {y : MethodName} {bytes cc : ByteArray} {maxL nL mc ms n index : Nat} {ret : Option FieldType} {hh : List (Nat × Nat × Nat × Nat)} {ws : List Cond} {rm : Room} {Pc : Array Value → State → Prop} {Qc : Array Value → State → Outcome → State → Prop} {free : Addr → Prop} {Ts : List Cond} {own : String} {As rest : List Value} {g : JFrame}
    (S : CallFix p m c cc nL s args Ts own) (hM : Met l y ws rm Pc Qc mc ms free) (cw : vx_CSW R s args own index y bytes maxL ret hh ws rm mc ms n) (hp : PreS s H Pc As)
    (hg : g.method = m) (hn : As.length = n) (hsize : g.locals.size = nL) (hstack : g.stack = As.reverse ++ rest) (hW : 2 * g.monitorRoom + (rest.map fun v => v.category).sum ≤ 8) (hdg : decode cc g.pc = .ok (.invokestatic index, 3)) (hf : cells + mc ≤ R.cells ∧ slots + ms ≤ R.slots) :
    va_Run p l e R s m args below meth c H locs cells slots mc ms g rest (Qc As.toArray) (free) := by
  obtain ⟨⟨hrc, hrs, hfr, hlo, hws, hcw⟩, hcode, hini, hy, hlen, hl, hstt⟩ := cw
  have hK : Back l R p e below s args y 3 8 (PreOf R mc ms Pc) (PostOf Qc mc ms free) := va_backW (hh := hh) (bytes := bytes) (maxL := maxL) (ret := ret) hM hp.1 hrc hrs hfr hlo hws hcw (fun a' U hW => word_at hW (Or.inl (by first | rfl | simp [Cond.onTables, Cond.keeps, Cond.steady])) hini)
  obtain ⟨hx, hb, hml, ho, -⟩ := S
  intro T hT X
  obtain ⟨v, vm₁, ⟨U', l2, c2, s2⟩, hW₁, X', ⟨g', mk, t, L, e1, e2, hq, h1, hL, h2, h3⟩, st⟩ := vx_callSW X hx (hh := hh) (bytes := bytes) (maxL := maxL) (ret := ret) ho hl hstt hini hcode hy hK hg (hsize.trans hml.symm) (argsL := As) (rest := rest) (fun sig h => hn.trans (hlen sig h)) hstack hW (by rw [hb]; exact hdg)
    (fun vm₁ hW₁ => ⟨hf.1, hf.2, hp.2 (T.setVm vm₁) hT hW₁⟩)
  dsimp only [Pt.U, Pt.locs, Pt.cells, Pt.slots] at X' e1 e2 h1 h2 h3 st
  subst h1; subst h2; subst h3
  exact ⟨v, (T.setVm vm₁).calling g' mk As.toArray, t, U', L, hT, X', hL, e1, e2, hq, st⟩
/-- not caught here, past rows that name other classes: it goes on to the caller -/
theorem vx_outP {p : Program} {l : Launch} {e : Env} {R : Room} {s : State} {m : MethodId} {args : Array Value} {below : List Frame} {meth : Method} {c : Code} {H : Heap} {locs : List Loc} {cells slots : Nat} {free : Addr → Prop} {ls : Array Slot} {rest : List Value} {Qc : Array Value → State → Outcome → State → Prop} {XC : String → State → State → Prop}
    {pc : Nat} {own E : String} {ce : Cell} {q : Addr} {mc ms : Nat} (hown : s.vm.findClass own = some m.cls) (hlocks : meth.locks = false)
    (hpass : ∀ z ∈ c.exceptionTable.toList, covers z pc = false ∨ (z.catchType ≠ 0 ∧ ∃ nm : String, (Cond.classLink own z.catchType nm).before args s = true ∧ va_Nc E nm s)) (hcell : H[q]? = some ce) (hv : ce.vm = .none) (hcl : s.vm.findClass E = some ce.cls)
    (hx : ∀ t : State, t.heap = H → s.vm.Alike t.vm → XC E s t) (hf : ∀ z ∈ locs, free z.base) (hc : cells ≤ mc) (hs : slots ≤ ms) :
    vx_W p l e R s m args below meth c H locs cells slots (vx_MQ below Qc XC args s mc ms free) (F0 m pc ls rest) q := by
  intro T hT X
  have hpl : e.platform.magicAccessors = ({} : Platform).magicAccessors := by rw [X.admits.platform]
  obtain ⟨vm', hW', X', st⟩ := X.outThrough hlocks q (g := F0 m pc ls rest) rfl rfl rfl (cell := ce) (by rw [hT]; exact hcell) (by rw [hv]; rfl)
    (by obtain ⟨k9, h9, -⟩ := Vm.findClass_spec hcl; exact ⟨k9, h9⟩) (fun z hz => by
      rcases hpass z hz with h | ⟨hz0, nm, hl1, hn1⟩
      · exact Or.inl h
      · obtain ⟨c6, hc6, hcl6⟩ := Cond.classLink_spec hown hl1 e.platform hpl
        obtain ⟨a8, b8, h1, h2, h3⟩ := hn1
        cases Option.some.inj (h1.symm.trans hcl)
        cases Option.some.inj (h2.symm.trans hc6)
        exact Or.inr ⟨hz0, _, hcl6, h3⟩)
  obtain ⟨g₀, hfr⟩ := X'.frames_eq
  have hcell9 : ((T.setVm vm').setFrames (.throwing q :: below)).heap[q]? = some ce := by
    show T.heap[q]? = some ce
    rw [hT]; exact hcell
  have hend : Ended ((T.setVm vm').setFrames (.throwing q :: below)) below (.threw q) := State.frames_setFrames _ (State.cur_lt_of_frames hfr)
  refine ⟨(T.setVm vm').setFrames (.throwing q :: below), ?_, .threw q, X'.here.running, hend, Or.inr ⟨q, rfl, E, ce, locs, hx _ hT (X'.ends _).1.alike, hcell9, hv, hcl, (X'.ends _).1, (X'.ends _).2.mono hc hs, hf⟩⟩
  rw [X.pushThrowing_eq]
  exact st
/-- a thing of a world lies in the heap -/
theorem vx_lt {D : va_G} {cl : List vw_C} {ws : va_W} {H1 : Heap} (h : va_P D cl ws H1) {k : Nat} {q : Nat × va_E} (hk : ws[k]? = some q) : q.1 < H1.size := (h k q hk).lt
end VXS
/-! ===== END ===== -/
/-! ===== BEGIN methods with a table of their own: called by a name, returning or throwing ===== -/
section VXH
/-! vx_backW, vx_callVX, vx_callSX, vx_callVW, vx_runVW, vx_runVX, vx_runSX, vx_ofWH follow the same proofs as their sisters above (Free/Laws.lean, Shelf42/LK1.lean); vx_outP calls Shelf42/NT130.lean (outThrough). -/
section
variable {l : Launch} {R : Room} {p : Program} {e : Env} {below : List Frame} {s : State} {sargs : Array Value} {y : MethodName} {len W9 : Nat}
theorem vx_backW {ws : List Cond} {rm : Room} {Pc : Array Value → State → Prop} {Qc : Array Value → State → Outcome → State → Prop} {XC : String → State → State → Prop} {mc ms : Nat} {free : Addr → Prop} {bytes : ByteArray} {maxL : Nat} {ret : Option FieldType} {hh : List (Nat × Nat × Nat × Nat)}
    (hM : vx_Met l y ws rm Pc Qc XC mc ms free) (hblind : FrameBlind Pc) (hrc : rm.cells = mc) (hrs : rm.slots = ms)
    (hframes : rm.frames + 1 ≤ R.frames) (hlocals : W9 + (maxL + 11) + rm.locals ≤ R.locals)
    (hws : ∀ w ∈ ws, ∀ a' U, s.WarmedH U.vm → w.before a' U = true) (hcode : Cond.codeWith y bytes maxL ret hh ∈ ws) (hinit : ∀ a' U, s.WarmedH U.vm → (Cond.initialized y.cls).before a' U = true) :
    vx_Back l R p e below s sargs y len W9 (PreOf R mc ms Pc) (PostOf Qc mc ms free) (vx_Post XC mc ms free) := by
  intro m meth c A g ig mk a X hg hsize hdg hW hn hp
  have h1 : (headSpec ws rm).pre.before a A.U = true := atoms_intro fun w hw => hws w hw _ _ X.warmed
  have h2 : (Cond.codeWith y bytes maxL ret hh).before a A.U = true := hws _ hcode _ _ X.warmed
  have h3 : (Cond.initialized y.cls).before a A.U = true := hinit _ _ X.warmed
  have h4 : A.cells + (headSpec ws rm).room.cells ≤ R.cells := by rw [show (headSpec ws rm).room.cells = mc from hrc]; exact hp.1
  have h5 : A.slots + (headSpec ws rm).room.slots ≤ R.slots := by rw [show (headSpec ws rm).room.slots = ms from hrs]; exact hp.2.1
  have hPc : Pc a (A.U.calling g mk a) := hblind _ _ _ _ hp.2.2
  obtain ⟨U, Ls, c0, s0⟩ := A
  dsimp only [Pt.U, Pt.locs, Pt.cells, Pt.slots] at h1 h2 h3 h4 h5 X hn hPc ⊢
  obtain ⟨m9, methY, cY, hn9, hmY, hcY, -, hlY, -⟩ := Cond.codeWith_spec h2
  cases Option.some.inj (hn9.symm.trans hn)
  obtain ⟨kY, hkY, -⟩ := className_of_methodNamed hn
  have hinitY : kY.init = .initialized := Cond.initialized_spec (findClass_of_methodNamed hn) hkY h3
  have h : At U g.method c below := by rw [hg]; exact X.here
  have hlocals9 : W9 + (maxL + 11) + (headSpec ws rm).room.locals ≤ R.locals := hlocals
  have happ : (headSpec ws rm).appliesLoose y e.platform (U.calling g mk a) = true :=
    Spec.appliesLoose_calling (g := g) h hdg hn hkY hinitY
      (X.room_calling (g := g) (R' := (headSpec ws rm).room) hsize hmY hcY hframes (by rw [hlY]; omega) h4 h5) h1
  obtain ⟨mid, hmid⟩ := h.above
  have hfr : (U.setTop g).frames = (.java g :: mid) ++ below := by rw [State.frames_setTop' g h.top, hmid]; rfl
  obtain ⟨o, s₂, hsteps, -, hend, hq⟩ := Steps.callFree hM p X.admits X.cas X.clock (acts := []) hfr happ hPc trivial
  have hq' : vx_Q Qc XC mc ms free a (U.calling g mk a) o s₂ := hq
  rw [State.frames_setTop' g h.top] at hend
  obtain ⟨g₀, hg0⟩ := Option.isSome_iff_exists.mp h.top
  obtain ⟨r, hr⟩ := State.topJava?_eq_some.mp hg0
  have hr' : (({ U with heap := s₂.heap, slotsUsed := s₂.slotsUsed } : State).setVm s₂.vm).frames = .java g₀ :: r := hr
  rcases hq' with ⟨hqc, L, hfe, hL⟩ | ⟨q, rfl, E, ce, L, hx, hce, hcv, hcl, hW₂, hsm, hL⟩
  · obtain ⟨⟨v, rfl⟩, hW₂, e2, q2, q3, q4, q5, q6⟩ := id hfe
    have e3 : s₂ = ({ (U.calling g mk a).setFrames s₂.frames with heap := s₂.heap, slotsUsed := s₂.slotsUsed } : State).setVm s₂.vm := by
      have : s₂ = ({ s₂ with vm := (U.calling g mk a).vm } : State).setVm s₂.vm := rfl
      rw [e2] at this
      exact this
    obtain ⟨c₂, i₂, len₂, hc₂, hd₂, hf₂⟩ := hend
    have hW' : U.WarmedH s₂.vm := hW₂
    have hcc : c₂ = c := by
      have h1 : s₂.code? g.method = U.code? g.method := by
        rw [State.code?_eq, State.code?_eq, hW'.alike.method?]
      exact Option.some.inj (hc₂.symm.trans (h1.trans h.code))
    subst hcc
    have hlen : len₂ = len := by rw [hdg] at hd₂; cases hd₂; rfl
    subst hlen
    have hs₂ : s₂ = (({ U with heap := s₂.heap, slotsUsed := s₂.slotsUsed } : State).setVm s₂.vm).setTop { g with pc := g.pc + len₂, stack := v.toList ++ g.stack } := by
      refine e3.trans ?_
      rw [hf₂, State.calling_eq h.top, State.setFrames_setFrames, State.setTop_of_frames _ hr', hr]
      rfl
    have hsame : U.sameButNew ({ U with heap := s₂.heap, slotsUsed := s₂.slotsUsed } : State) L mc ms := by
      refine ⟨?_, q2, q3, q4, q5, q6⟩
      obtain ⟨t, ht, -⟩ := State.frames_cons hr
      show ({ U with heap := s₂.heap, slotsUsed := s₂.slotsUsed } : State) = { U.setFrames U.frames with heap := s₂.heap, slotsUsed := s₂.slotsUsed }
      rw [State.setFrames_self ht]
    subst hg
    refine Or.inl ⟨v, ⟨(({ U with heap := s₂.heap, slotsUsed := s₂.slotsUsed } : State).setVm s₂.vm), Ls ++ L, c0 + mc, s0 + ms⟩,
      ⟨X.admits, X.cas, X.clock, X.frames, X.room, X.hears, X.method, X.code, (X.here.setHeapUsed s₂.heap s₂.slotsUsed).setVm hW'.alike, X.tail, State.WarmedH.trans X.warmed hW', X.limits, X.bytes, X.same.trans (hsame.setVm s.vm)⟩,
      ⟨g, mk, s₂, L, rfl, rfl, hqc, rfl, hL, rfl, rfl⟩, ?_⟩
    show Steps p.tables e below _ ((({ U with heap := s₂.heap, slotsUsed := s₂.slotsUsed } : State).setVm s₂.vm).setTop { g with pc := g.pc + len₂, stack := v.toList ++ g.stack })
    rw [← hs₂]
    exact hsteps
  · obtain ⟨e2, q2, q3, q4, q5, q6⟩ := id hsm
    have e3 : s₂ = ({ (U.calling g mk a).setFrames s₂.frames with heap := s₂.heap, slotsUsed := s₂.slotsUsed } : State).setVm s₂.vm := by
      have : s₂ = ({ s₂ with vm := (U.calling g mk a).vm } : State).setVm s₂.vm := rfl
      rw [e2] at this
      exact this
    have hf₂ : s₂.frames = .throwing q :: .java g :: U.frames.tail := hend
    have hW' : U.WarmedH s₂.vm := hW₂
    have hs₂ : s₂ = ((({ U with heap := s₂.heap, slotsUsed := s₂.slotsUsed } : State).setVm s₂.vm).setTop g).pushFrame (.throwing q) := by
      refine e3.trans ?_
      rw [hf₂, State.calling_eq h.top, State.setFrames_setFrames, State.pushFrame, State.frames_setTop _ hr', State.setTop_of_frames _ hr', State.setFrames_setFrames, hr]
      rfl
    have hsame : U.sameButNew ({ U with heap := s₂.heap, slotsUsed := s₂.slotsUsed } : State) L mc ms := by
      refine ⟨?_, q2, q3, q4, q5, q6⟩
      obtain ⟨t, ht, -⟩ := State.frames_cons hr
      show ({ U with heap := s₂.heap, slotsUsed := s₂.slotsUsed } : State) = { U.setFrames U.frames with heap := s₂.heap, slotsUsed := s₂.slotsUsed }
      rw [State.setFrames_self ht]
    subst hg
    refine Or.inr ⟨q, ⟨(({ U with heap := s₂.heap, slotsUsed := s₂.slotsUsed } : State).setVm s₂.vm), Ls ++ L, c0 + mc, s0 + ms⟩,
      ⟨X.admits, X.cas, X.clock, X.frames, X.room, X.hears, X.method, X.code, (X.here.setHeapUsed s₂.heap s₂.slotsUsed).setVm hW'.alike, X.tail, State.WarmedH.trans X.warmed hW', X.limits, X.bytes, X.same.trans (hsame.setVm s.vm)⟩,
      ⟨g, mk, s₂, L, E, ce, rfl, rfl, hx, hce, hcv, hcl, rfl, hL, rfl, rfl⟩, ?_⟩
    show Steps p.tables e below _ (((({ U with heap := s₂.heap, slotsUsed := s₂.slotsUsed } : State).setVm s₂.vm).setTop g).pushFrame (.throwing q))
    rw [← hs₂]
    exact hsteps
end
variable {p : Program} {l : Launch} {e : Env} {R : Room} {s : State} {m : MethodId} {args : Array Value} {below : List Frame} {meth : Method} {c : Code} {T : State} {H : Heap} {locs : List Loc} {cells slots : Nat}
theorem vx_callVX (X : Stand p l e R s m args below meth c T locs cells slots) (hexec : p.tables.exec = Jvm.exec) {own C : String} {index : Nat} {y : MethodName} {bytes : ByteArray} {maxL : Nat} {ret : Option FieldType} {hh : List (Nat × Nat × Nat × Nat)}
    (hown : s.vm.findClass own = some m.cls) (hlink : (Cond.methodLink own index y).before args s = true) (hinst : (Cond.instanceMethod y).before args s = true) (hsel : (Cond.selects C y y).before args s = true)
    (hcode : (Cond.codeWith y bytes maxL ret hh).before args s = true) (hy : y.cls ≠ "java/lang/invoke/MethodHandle" ∧ y.cls ≠ "java/lang/invoke/VarHandle")
    {W9 : Nat} {Pre : Pt → Array Value → Prop} {Post : Pt → Array Value → Option Value → Pt → Prop} {PostX : Pt → Array Value → Addr → Pt → Prop} (hK : vx_Back l R p e below s args y 3 W9 Pre Post PostX)
    {b : Addr} {cellB : Cell} (hcell : T.heap[b]? = some cellB) (hobj : cellB.vm.isStatics = false) (hcls : s.vm.findClass C = some cellB.cls)
    {g : JFrame} (hg : g.method = m) (hsize : g.locals.size = c.maxLocals) {argsL rest : List Value} (hlen : ∀ sig, parseMethodDescriptor y.desc = some sig → argsL.length = sig.parameters.length)
    (hstack : g.stack = argsL.reverse ++ .ref b :: rest) (hW : 2 * g.monitorRoom + (rest.map fun v => v.category).sum ≤ W9) (hdg : decode c.code g.pc = .ok (.invokevirtual index, 3))
    (hpre : ∀ vm₁, s.WarmedH vm₁ → Pre ⟨T.setVm vm₁, locs, cells, slots⟩ (Value.ref b :: argsL).toArray) :
    (∃ (v : Option Value) (vm₁ : Vm) (B : Pt), s.WarmedH vm₁ ∧ Stand p l e R s m args below meth c B.U B.locs B.cells B.slots ∧ Post ⟨T.setVm vm₁, locs, cells, slots⟩ (Value.ref b :: argsL).toArray v B ∧
      ∀ target, Steps p.tables e below (B.U.setTop { g with pc := g.pc + 3, stack := v.toList ++ rest }) target → Steps p.tables e below (T.setTop g) target) ∨
    (∃ (q : Addr) (vm₁ : Vm) (B : Pt), s.WarmedH vm₁ ∧ Stand p l e R s m args below meth c B.U B.locs B.cells B.slots ∧ PostX ⟨T.setVm vm₁, locs, cells, slots⟩ (Value.ref b :: argsL).toArray q B ∧
      Steps p.tables e below (T.setTop g) ((B.U.setTop { g with stack := rest }).pushFrame (.throwing q))) := by
  obtain ⟨mk, methM, hnamed, hmethM, hstM, habM⟩ := Cond.instanceMethod_spec hinst
  obtain ⟨m8, methM', cM, hn8, hmethM', -, -, -, -, -, -, hsigM⟩ := Cond.codeWith_spec hcode
  cases Option.some.inj (hn8.symm.trans hnamed)
  cases hmethM.symm.trans hmethM'
  obtain ⟨c2, r2, m2, q1, q2, q3, q4, kP, hkP, hkPi⟩ := Cond.selects_spec hsel
  cases hcls.symm.trans q1
  cases (State.methodFound?_of_named hnamed hy).symm.trans q2
  cases hnamed.symm.trans q3
  have hselP : selectMethod e.platform s.vm cellB.cls mk = .method mk := by rw [Launch.admits_selectMethod X.admits]; exact q4
  obtain ⟨vm₁, X₁, hstep₁⟩ := X.invokevirtual hexec hown hlink hnamed hmethM hstM hkP hkPi hy (a := b) (cell := cellB) hcell
    (fun z h => by rw [h] at hobj; cases hobj) hselP hmethM habM hkP hkPi (g := g) hg (argsL := argsL) (rest := rest) (hlen _ hsigM) hstack hdg
  rcases hK m meth c ⟨T.setVm vm₁, locs, cells, slots⟩ { g with stack := rest } (.invokevirtual index) mk (Value.ref b :: argsL).toArray X₁ hg hsize hdg hW (X₁.named hnamed) (hpre vm₁ X₁.warmed) with ⟨v, B, X', hpost, hsteps⟩ | ⟨q, B, X', hpost, hsteps⟩
  · exact Or.inl ⟨v, vm₁, B, X₁.warmed, X', hpost, fun target h => hstep₁ _ fun acts => by rw [doInvoke_state]; exact hsteps.trans h⟩
  · exact Or.inr ⟨q, vm₁, B, X₁.warmed, X', hpost, hstep₁ _ fun acts => by rw [doInvoke_state]; exact hsteps⟩
theorem vx_callSX (X : Stand p l e R s m args below meth c T locs cells slots) (hexec : p.tables.exec = Jvm.exec) {own : String} {index : Nat} {y : MethodName} {bytes : ByteArray} {maxL : Nat} {ret : Option FieldType} {hh : List (Nat × Nat × Nat × Nat)}
    (hown : s.vm.findClass own = some m.cls) (hlink : (Cond.methodLink own index y).before args s = true) (hstat : (Cond.static y).before args s = true) (hinit : (Cond.initialized y.cls).before args s = true)
    (hcode : (Cond.codeWith y bytes maxL ret hh).before args s = true) (hy : y.cls ≠ "java/lang/invoke/MethodHandle" ∧ y.cls ≠ "java/lang/invoke/VarHandle")
    {W9 : Nat} {Pre : Pt → Array Value → Prop} {Post : Pt → Array Value → Option Value → Pt → Prop} {PostX : Pt → Array Value → Addr → Pt → Prop} (hK : vx_Back l R p e below s args y 3 W9 Pre Post PostX)
    {g : JFrame} (hg : g.method = m) (hsize : g.locals.size = c.maxLocals) {argsL rest : List Value} (hlen : ∀ sig, parseMethodDescriptor y.desc = some sig → argsL.length = sig.parameters.length)
    (hstack : g.stack = argsL.reverse ++ rest) (hW : 2 * g.monitorRoom + (rest.map fun v => v.category).sum ≤ W9) (hdg : decode c.code g.pc = .ok (.invokestatic index, 3))
    (hpre : ∀ vm₁, s.WarmedH vm₁ → Pre ⟨T.setVm vm₁, locs, cells, slots⟩ argsL.toArray) :
    (∃ (v : Option Value) (vm₁ : Vm) (B : Pt), s.WarmedH vm₁ ∧ Stand p l e R s m args below meth c B.U B.locs B.cells B.slots ∧ Post ⟨T.setVm vm₁, locs, cells, slots⟩ argsL.toArray v B ∧
      ∀ target, Steps p.tables e below (B.U.setTop { g with pc := g.pc + 3, stack := v.toList ++ rest }) target → Steps p.tables e below (T.setTop g) target) ∨
    (∃ (q : Addr) (vm₁ : Vm) (B : Pt), s.WarmedH vm₁ ∧ Stand p l e R s m args below meth c B.U B.locs B.cells B.slots ∧ PostX ⟨T.setVm vm₁, locs, cells, slots⟩ argsL.toArray q B ∧
      Steps p.tables e below (T.setTop g) ((B.U.setTop { g with stack := rest }).pushFrame (.throwing q))) := by
  obtain ⟨mk, methM, cM, hnamed, hmethM, -, -, -, -, -, -, hsigM⟩ := Cond.codeWith_spec hcode
  have hstatic : methM.isStatic = true := Cond.static_spec hnamed hmethM hstat
  obtain ⟨kP, hkP, -⟩ := className_of_methodNamed hnamed
  have hinitP : kP.init = .initialized := Cond.initialized_spec (findClass_of_methodNamed hnamed) hkP hinit
  obtain ⟨vm₁, X₁, hstep₁⟩ := X.invokestatic hexec hown hlink hnamed hmethM hstatic hkP hinitP hy (g := g) hg (argsL := argsL) (rest := rest) (hlen _ hsigM) hstack hdg
  rcases hK m meth c ⟨T.setVm vm₁, locs, cells, slots⟩ { g with stack := rest } (.invokestatic index) mk argsL.toArray X₁ hg hsize hdg hW (X₁.named hnamed) (hpre vm₁ X₁.warmed) with ⟨v, B, X', hpost, hsteps⟩ | ⟨q, B, X', hpost, hsteps⟩
  · exact Or.inl ⟨v, vm₁, B, X₁.warmed, X', hpost, fun target h => hstep₁ _ fun acts => by rw [doInvoke_state]; exact hsteps.trans h⟩
  · exact Or.inr ⟨q, vm₁, B, X₁.warmed, X', hpost, hstep₁ _ fun acts => by rw [doInvoke_state]; exact hsteps⟩
theorem vx_callVW (X : Stand p l e R s m args below meth c T locs cells slots) (hexec : p.tables.exec = Jvm.exec) {own C : String} {index : Nat} {y : MethodName} {bytes : ByteArray} {maxL : Nat} {ret : Option FieldType} {hh : List (Nat × Nat × Nat × Nat)}
    (hown : s.vm.findClass own = some m.cls) (hlink : (Cond.methodLink own index y).before args s = true) (hinst : (Cond.instanceMethod y).before args s = true) (hsel : (Cond.selects C y y).before args s = true)
    (hcode : (Cond.codeWith y bytes maxL ret hh).before args s = true) (hy : y.cls ≠ "java/lang/invoke/MethodHandle" ∧ y.cls ≠ "java/lang/invoke/VarHandle")
    {W9 : Nat} {Pre : Pt → Array Value → Prop} {Post : Pt → Array Value → Option Value → Pt → Prop} (hK : Back l R p e below s args y 3 W9 Pre Post)
    {b : Addr} {cellB : Cell} (hcell : T.heap[b]? = some cellB) (hobj : cellB.vm.isStatics = false) (hcls : s.vm.findClass C = some cellB.cls)
    {g : JFrame} (hg : g.method = m) (hsize : g.locals.size = c.maxLocals) {argsL rest : List Value} (hlen : ∀ sig, parseMethodDescriptor y.desc = some sig → argsL.length = sig.parameters.length)
    (hstack : g.stack = argsL.reverse ++ .ref b :: rest) (hW : 2 * g.monitorRoom + (rest.map fun v => v.category).sum ≤ W9) (hdg : decode c.code g.pc = .ok (.invokevirtual index, 3))
    (hpre : ∀ vm₁, s.WarmedH vm₁ → Pre ⟨T.setVm vm₁, locs, cells, slots⟩ (Value.ref b :: argsL).toArray) :
    ∃ (v : Option Value) (vm₁ : Vm) (B : Pt), s.WarmedH vm₁ ∧ Stand p l e R s m args below meth c B.U B.locs B.cells B.slots ∧ Post ⟨T.setVm vm₁, locs, cells, slots⟩ (Value.ref b :: argsL).toArray v B ∧
      ∀ target, Steps p.tables e below (B.U.setTop { g with pc := g.pc + 3, stack := v.toList ++ rest }) target → Steps p.tables e below (T.setTop g) target := by
  obtain ⟨mk, methM, hnamed, hmethM, hstM, habM⟩ := Cond.instanceMethod_spec hinst
  obtain ⟨m8, methM', cM, hn8, hmethM', -, -, -, -, -, -, hsigM⟩ := Cond.codeWith_spec hcode
  cases Option.some.inj (hn8.symm.trans hnamed)
  cases hmethM.symm.trans hmethM'
  obtain ⟨c2, r2, m2, q1, q2, q3, q4, kP, hkP, hkPi⟩ := Cond.selects_spec hsel
  cases hcls.symm.trans q1
  cases (State.methodFound?_of_named hnamed hy).symm.trans q2
  cases hnamed.symm.trans q3
  have hselP : selectMethod e.platform s.vm cellB.cls mk = .method mk := by rw [Launch.admits_selectMethod X.admits]; exact q4
  obtain ⟨vm₁, X₁, hstep₁⟩ := X.invokevirtual hexec hown hlink hnamed hmethM hstM hkP hkPi hy (a := b) (cell := cellB) hcell
    (fun z h => by rw [h] at hobj; cases hobj) hselP hmethM habM hkP hkPi (g := g) hg (argsL := argsL) (rest := rest) (hlen _ hsigM) hstack hdg
  obtain ⟨v, B, X', hpost, hsteps⟩ := hK m meth c ⟨T.setVm vm₁, locs, cells, slots⟩ { g with stack := rest } (.invokevirtual index) mk (Value.ref b :: argsL).toArray X₁ hg hsize hdg hW (X₁.named hnamed) (hpre vm₁ X₁.warmed)
  exact ⟨v, vm₁, B, X₁.warmed, X', hpost, fun target h => hstep₁ _ fun acts => by rw [doInvoke_state]; exact hsteps.trans h⟩
abbrev vx_CVW (R : Room) (s : State) (args : Array Value) (own C : String) (index : Nat) (y : MethodName) (bytes : ByteArray) (maxL : Nat) (ret : Option FieldType) (hh : List (Nat × Nat × Nat × Nat)) (ws : List Cond) (rm : Room) (mc ms n : Nat) : Prop :=
  (rm.cells = mc ∧ rm.slots = ms ∧ rm.frames + 1 ≤ R.frames ∧ 8 + (maxL + 11) + rm.locals ≤ R.locals ∧ (∀ w ∈ ws, ∀ (a' : Array Value) (U : State), s.WarmedH U.vm → w.before a' U = true) ∧ Cond.codeWith y bytes maxL ret hh ∈ ws) ∧
  (Cond.codeWith y bytes maxL ret hh).before args s = true ∧ (Cond.initialized y.cls).before args s = true ∧ (y.cls ≠ "java/lang/invoke/MethodHandle" ∧ y.cls ≠ "java/lang/invoke/VarHandle") ∧
  (∀ sig, parseMethodDescriptor y.desc = some sig → n = sig.parameters.length) ∧ (Cond.methodLink own index y).before args s = true ∧ (Cond.instanceMethod y).before args s = true ∧ (Cond.selects C y y).before args s = true
theorem vx_cwVW {own C : String} {index maxL mc ms : Nat} {y : MethodName} {bytes : ByteArray} {ret : Option FieldType} {hh : List (Nat × Nat × Nat × Nat)} {Ts ws ws' : List Cond} {rm : Room} (n : Nat) (ht : ∀ w ∈ Ts, w.before args s = true) (hT : GoodIn Ts (wsV own index C y ws)) (hw : ws = Cond.codeWith y bytes maxL ret hh :: ws') (hrc : rm.cells = mc) (hrs : rm.slots = ms)
    (hd : y.cls = C ∧ y.cls ≠ "java/lang/invoke/MethodHandle" ∧ y.cls ≠ "java/lang/invoke/VarHandle" ∧ (parseMethodDescriptor y.desc).map (fun d => d.parameters.length) = some n) (hR : rm.frames + 1 ≤ R.frames ∧ 8 + (maxL + 11) + rm.locals ≤ R.locals) :
    vx_CVW R s args own C index y bytes maxL ret hh ws rm mc ms n := by
  obtain ⟨hC, hd⟩ := hd
  subst hC
  have ok : ∀ w ∈ wsV own index y.cls y ws, w.before args s = true := fun w h => ht w (hT w h).1
  have hG : GoodIn Ts ws := fun w h => hT w (by unfold wsV; exact List.mem_append_right _ h)
  have hc : Cond.codeWith y bytes maxL ret hh ∈ ws := by rw [hw]; exact List.mem_cons_self
  refine ⟨⟨hrc, hrs, hR.1, hR.2, pay_in ht hG, hc⟩, ht _ (hG _ hc).1, ok _ (by simp [wsV]), ⟨hd.1, hd.2.1⟩, fun sig h => ?_, ok _ (by simp [wsV]), ok _ (by simp [wsV]), ok _ (by simp [wsV])⟩
  have h2 := hd.2.2
  rw [h] at h2
  exact (Option.some.inj h2).symm
theorem vx_runVW {y : MethodName} {bytes cc : ByteArray} {maxL nL mc ms n index : Nat} {ret : Option FieldType} {hh : List (Nat × Nat × Nat × Nat)} {ws : List Cond} {rm : Room} {Pc : Array Value → State → Prop} {Qc : Array Value → State → Outcome → State → Prop} {free : Addr → Prop} {Ts : List Cond} {own C : String} {b : Addr} {As rest : List Value} {g : JFrame}
    (S : CallFix p m c cc nL s args Ts own) (hM : Met l y ws rm Pc Qc mc ms free) (cw : vx_CVW R s args own C index y bytes maxL ret hh ws rm mc ms n) (hp : PreV s H C b Pc As)
    (hg : g.method = m) (hn : As.length = n) (hsize : g.locals.size = nL) (hstack : g.stack = As.reverse ++ .ref b :: rest) (hW : 2 * g.monitorRoom + (rest.map fun v => v.category).sum ≤ 8) (hdg : decode cc g.pc = .ok (.invokevirtual index, 3)) (hf : cells + mc ≤ R.cells ∧ slots + ms ≤ R.slots) :
    va_Run p l e R s m args below meth c H locs cells slots mc ms g rest (Qc (Value.ref b :: As).toArray) free := by
  obtain ⟨⟨hrc, hrs, hfr, hlo, hws, hcw⟩, hcode, hini, hy, hlen, hl, hin, hse⟩ := cw
  have hK : Back l R p e below s args y 3 8 (PreOf R mc ms Pc) (PostOf Qc mc ms free) := va_backW (hh := hh) (bytes := bytes) (maxL := maxL) (ret := ret) hM hp.1 hrc hrs hfr hlo hws hcw (fun a' U hW => word_at hW (Or.inl (by first | rfl | simp [Cond.onTables, Cond.keeps, Cond.steady])) hini)
  obtain ⟨hx, hb, hml, ho, -⟩ := S
  obtain ⟨-, ⟨cellB, hcB, hoB, hclB⟩, hPc⟩ := hp
  intro T hT X
  obtain ⟨v, vm₁, ⟨U', l2, c2, s2⟩, hW₁, X', ⟨g', mk, t, L, e1, e2, hq, h1, hL, h2, h3⟩, st⟩ := vx_callVW X hx (C := C) (hh := hh) (bytes := bytes) (maxL := maxL) (ret := ret) ho hl hin hse hcode hy hK (by rw [hT]; exact hcB) hoB hclB hg (hsize.trans hml.symm) (argsL := As) (rest := rest) (fun sig h => hn.trans (hlen sig h)) hstack hW (by rw [hb]; exact hdg)
    (fun vm₁ hW₁ => ⟨hf.1, hf.2, hPc (T.setVm vm₁) hT hW₁⟩)
  dsimp only [Pt.U, Pt.locs, Pt.cells, Pt.slots] at X' e1 e2 h1 h2 h3 st
  subst h1; subst h2; subst h3
  exact ⟨v, (T.setVm vm₁).calling g' mk (Value.ref b :: As).toArray, t, U', L, hT, X', hL, e1, e2, hq, st⟩
section
variable {y : MethodName} {bytes cc : ByteArray} {maxL nL mc ms n index : Nat} {ret : Option FieldType} {ws : List Cond} {rm : Room} {Pc : Array Value → State → Prop} {Qc : Array Value → State → Outcome → State → Prop} {XC : String → State → State → Prop} {free : Addr → Prop} {Ts : List Cond} {own C : String} {b : Addr} {As rest : List Value} {g : JFrame}
theorem vx_runVX {hh : List (Nat × Nat × Nat × Nat)} (S : CallFix p m c cc nL s args Ts own) (hM : vx_Met l y ws rm Pc Qc XC mc ms free) (cw : vx_CVW R s args own C index y bytes maxL ret hh ws rm mc ms n) (hp : PreV s H C b Pc As)
    (hg : g.method = m) (hn : As.length = n) (hsize : g.locals.size = nL) (hstack : g.stack = As.reverse ++ .ref b :: rest) (hW : 2 * g.monitorRoom + (rest.map fun v => v.category).sum ≤ 8) (hdg : decode cc g.pc = .ok (.invokevirtual index, 3)) (hf : cells + mc ≤ R.cells ∧ slots + ms ≤ R.slots) :
    vx_Run p l e R s m args below meth c H locs cells slots mc ms g rest (Qc (Value.ref b :: As).toArray) XC free := by
  obtain ⟨⟨hrc, hrs, hfr, hlo, hws, hcw⟩, hcode, hini, hy, hlen, hl, hin, hse⟩ := cw
  have hK : vx_Back l R p e below s args y 3 8 (PreOf R mc ms Pc) (PostOf Qc mc ms free) (vx_Post XC mc ms free) := vx_backW (hh := hh) (bytes := bytes) (maxL := maxL) (ret := ret) hM hp.1 hrc hrs hfr hlo hws hcw (fun a' U hW => word_at hW (Or.inl (by first | rfl | simp [Cond.onTables, Cond.keeps, Cond.steady])) hini)
  obtain ⟨hx, hb, hml, ho, -⟩ := S
  obtain ⟨-, ⟨cellB, hcB, hoB, hclB⟩, hPc⟩ := hp
  intro T hT X
  rcases vx_callVX X hx (C := C) (hh := hh) (bytes := bytes) (maxL := maxL) (ret := ret) ho hl hin hse hcode hy hK (by rw [hT]; exact hcB) hoB hclB hg (hsize.trans hml.symm) (argsL := As) (rest := rest) (fun sig h => hn.trans (hlen sig h)) hstack hW (by rw [hb]; exact hdg)
    (fun vm₁ hW₁ => ⟨hf.1, hf.2, hPc (T.setVm vm₁) hT hW₁⟩) with ⟨v, vm₁, ⟨U', l2, c2, s2⟩, hW₁, X', ⟨g', mk, t, L, e1, e2, hq, h1, hL, h2, h3⟩, st⟩ | ⟨q, vm₁, ⟨U', l2, c2, s2⟩, hW₁, X', ⟨g', mk, t, L, E, ce, e1, e2, hq, hce, hcv, hcl, h1, hL, h2, h3⟩, st⟩
  · dsimp only [Pt.U, Pt.locs, Pt.cells, Pt.slots] at X' e1 e2 h1 h2 h3 st
    subst h1; subst h2; subst h3
    exact Or.inl ⟨v, (T.setVm vm₁).calling g' mk (Value.ref b :: As).toArray, t, U', L, hT, X', hL, e1, e2, hq, st⟩
  · dsimp only [Pt.U, Pt.locs, Pt.cells, Pt.slots] at X' e1 e2 h1 h2 h3 st hcl
    subst h1; subst h2; subst h3
    exact Or.inr ⟨q, (T.setVm vm₁).calling g' mk (Value.ref b :: As).toArray, t, U', L, E, ce, hT, X', hL, e1, e2, hq, hce, hcv, vx_cls hW₁ hcl, st⟩
theorem vx_runSX {hh : List (Nat × Nat × Nat × Nat)} (S : CallFix p m c cc nL s args Ts own) (hM : vx_Met l y ws rm Pc Qc XC mc ms free) (cw : vx_CSW R s args own index y bytes maxL ret hh ws rm mc ms n) (hp : PreS s H Pc As)
    (hg : g.method = m) (hn : As.length = n) (hsize : g.locals.size = nL) (hstack : g.stack = As.reverse ++ rest) (hW : 2 * g.monitorRoom + (rest.map fun v => v.category).sum ≤ 8) (hdg : decode cc g.pc = .ok (.invokestatic index, 3)) (hf : cells + mc ≤ R.cells ∧ slots + ms ≤ R.slots) :
    vx_Run p l e R s m args below meth c H locs cells slots mc ms g rest (Qc As.toArray) XC free := by
  obtain ⟨⟨hrc, hrs, hfr, hlo, hws, hcw⟩, hcode, hini, hy, hlen, hl, hstt⟩ := cw
  have hK : vx_Back l R p e below s args y 3 8 (PreOf R mc ms Pc) (PostOf Qc mc ms free) (vx_Post XC mc ms free) := vx_backW (hh := hh) (bytes := bytes) (maxL := maxL) (ret := ret) hM hp.1 hrc hrs hfr hlo hws hcw (fun a' U hW => word_at hW (Or.inl (by first | rfl | simp [Cond.onTables, Cond.keeps, Cond.steady])) hini)
  obtain ⟨hx, hb, hml, ho, -⟩ := S
  intro T hT X
  rcases vx_callSX X hx (hh := hh) (bytes := bytes) (maxL := maxL) (ret := ret) ho hl hstt hini hcode hy hK hg (hsize.trans hml.symm) (argsL := As) (rest := rest) (fun sig h => hn.trans (hlen sig h)) hstack hW (by rw [hb]; exact hdg)
    (fun vm₁ hW₁ => ⟨hf.1, hf.2, hp.2 (T.setVm vm₁) hT hW₁⟩) with ⟨v, vm₁, ⟨U', l2, c2, s2⟩, hW₁, X', ⟨g', mk, t, L, e1, e2, hq, h1, hL, h2, h3⟩, st⟩ | ⟨q, vm₁, ⟨U', l2, c2, s2⟩, hW₁, X', ⟨g', mk, t, L, E, ce, e1, e2, hq, hce, hcv, hcl, h1, hL, h2, h3⟩, st⟩
  · dsimp only [Pt.U, Pt.locs, Pt.cells, Pt.slots] at X' e1 e2 h1 h2 h3 st
    subst h1; subst h2; subst h3
    exact Or.inl ⟨v, (T.setVm vm₁).calling g' mk As.toArray, t, U', L, hT, X', hL, e1, e2, hq, st⟩
  · dsimp only [Pt.U, Pt.locs, Pt.cells, Pt.slots] at X' e1 e2 h1 h2 h3 st hcl
    subst h1; subst h2; subst h3
    exact Or.inr ⟨q, (T.setVm vm₁).calling g' mk As.toArray, t, U', L, E, ce, hT, X', hL, e1, e2, hq, hce, hcv, vx_cls hW₁ hcl, st⟩
end
end VXH
theorem vx_ofWH {l : Launch} {y : MethodName} {ws ws' : List Cond} {rm : Room} {Pc : Array Value → State → Prop} {Qc : Array Value → State → Outcome → State → Prop} {XC : String → State → State → Prop} {mc ms : Nat} {free : Addr → Prop} {cc : ByteArray} {maxL : Nat} {ret : Option FieldType} {hh : List (Nat × Nat × Nat × Nat)}
    (hy : plainName y.cls = true) (hw : ws = Cond.codeWith y cc maxL ret hh :: ws')
    (body : ∀ p e s m args below meth c s₁, BodyLoose p l y (headSpec ws rm) cc maxL ret e s m args below meth c s₁ → c.maxLocals = maxL → Pc args s →
      W p l e (headSpec ws rm).room s m args below meth c s.heap [] 0 0 (vx_MQ below Qc XC args s mc ms free) (entryFrame m args maxL)) : vx_Met l y ws rm Pc Qc XC mc ms free := by
  refine MetFree.of_bodyS (code := cc) (maxLocals := maxL) (ret := ret) hy ?_ ?_
  · intro args s m h hn
    obtain ⟨m9, meth, c, hn9, h1, h2, h3, h4, -, h5, h6, -⟩ := Cond.codeWith_spec (atoms_spec (ws := ws) h _ (by rw [hw]; exact List.mem_cons_self))
    cases hn.symm.trans hn9
    exact ⟨meth, c, h1, h2, h3, h4, h5, h6⟩
  · intro p e s m args below meth c s₁ B hml hP _
    have hh0 : s₁.heap = s.heap := by rw [B.state]; rfl
    obtain ⟨t, a1, o, b1, b2, b3⟩ := body p e s m args below meth c s₁ B hml hP s₁ hh0 (Stand.of_body B)
    exact ⟨t, o, a1, b1, b2, b3⟩
/-! ===== END ===== -/

/-! ===== BEGIN printed: names, fields, word lists, decode rows ===== -/
def RX0 : String := "GearBrake$Wheel"
def TX0 : u_T := fun k => match k with
  | 0 => ("GearBrake$Wheel", "speed", "J", false)
  | 1 => ("GearBrake$Wheel", "lost", "Z", false)
  | 2 => ("GearBrake$Wheel", "phase", "I", false)
  | 3 => ("GearBrake$Wheel", "pressure", "J", false)
  | 4 => ("GearBrake$Wheel", "bound", "J", false)
  | _ => ("GearBrake$Wheel", "model", "D", false)
def tyX0 : Nat → FieldType := fun k => match k with
  | 0 => .long
  | 1 => .boolean
  | 2 => .int
  | 3 => .long
  | 4 => .long
  | _ => .double
abbrev wsX00 : List Cond := u_ws RX0 TX0 6
theorem nmX0 : ∀ a, a < 6 → ∀ b, b < 6 → a ≠ b → (TX0 a).2.1 ≠ (TX0 b).2.1 := by decide +kernel
theorem tyX0_ok : ∀ k, k < 6 → parseFieldDescriptor (TX0 k).2.2.1 = some (tyX0 k) := by decide +kernel
abbrev cX0_init : ByteArray := prog_2_method_1_code
def yX0_init : MethodName := ⟨RX0, "<init>", "()V"⟩
abbrev cX0_brake : ByteArray := prog_2_method_2_code
def yX0_brake : MethodName := ⟨RX0, "brake", "(JJZ)V"⟩
abbrev cX0_nextPhase : ByteArray := prog_2_method_3_code
def yX0_nextPhase : MethodName := ⟨RX0, "nextPhase", "(JJ)I"⟩
abbrev cX0_wantedPressure : ByteArray := prog_2_method_4_code
def yX0_wantedPressure : MethodName := ⟨RX0, "wantedPressure", "(J)J"⟩
abbrev cX0_press : ByteArray := prog_2_method_5_code
def yX0_press : MethodName := ⟨RX0, "press", "(J)V"⟩
abbrev cX0_followModel : ByteArray := prog_2_method_6_code
def yX0_followModel : MethodName := ⟨RX0, "followModel", "()V"⟩
def RX1 : String := "GearBrake"
def TX1 : u_T := fun k => match k with
  | 0 => ("GearBrake", "wheels", "[LGearBrake$Wheel;", true)
  | 1 => ("GearBrake", "reference", "J", false)
  | 2 => ("GearBrake", "held", "Z", false)
  | 3 => ("GearBrake", "gear", "I", false)
  | 4 => ("GearBrake", "steps", "I", false)
  | _ => ("GearBrake", "nextShift", "I", false)
def tyX1 : Nat → FieldType := fun k => match k with
  | 0 => .array (.object "GearBrake$Wheel")
  | 1 => .long
  | 2 => .boolean
  | 3 => .int
  | 4 => .int
  | _ => .int
abbrev wsX10 : List Cond := u_ws RX1 TX1 6
theorem nmX1 : ∀ a, a < 6 → ∀ b, b < 6 → a ≠ b → (TX1 a).2.1 ≠ (TX1 b).2.1 := by decide +kernel
theorem tyX1_ok : ∀ k, k < 6 → parseFieldDescriptor (TX1 k).2.2.1 = some (tyX1 k) := by decide +kernel
abbrev cX1_init : ByteArray := prog_1_method_1_code
def yX1_init : MethodName := ⟨RX1, "<init>", "(I)V"⟩
abbrev cX1_wheel : ByteArray := prog_1_method_2_code
def yX1_wheel : MethodName := ⟨RX1, "wheel", "(IJ)I"⟩
abbrev cX1_step : ByteArray := prog_1_method_3_code
def yX1_step : MethodName := ⟨RX1, "step", "(JJ)I"⟩
abbrev cX1_phase : ByteArray := prog_1_method_4_code
def yX1_phase : MethodName := ⟨RX1, "phase", "(I)I"⟩
abbrev cX1_pressure : ByteArray := prog_1_method_5_code
def yX1_pressure : MethodName := ⟨RX1, "pressure", "(I)J"⟩
abbrev cX1_yaw : ByteArray := prog_1_method_6_code
def yX1_yaw : MethodName := ⟨RX1, "yaw", "(JJ)I"⟩
abbrev cX1_slip : ByteArray := prog_1_method_7_code
def yX1_slip : MethodName := ⟨RX1, "slip", "(II)J"⟩
abbrev cX1_gear : ByteArray := prog_1_method_8_code
def yX1_gear : MethodName := ⟨RX1, "gear", "()I"⟩
abbrev cX1_lost : ByteArray := prog_1_method_9_code
def yX1_lost : MethodName := ⟨RX1, "lost", "(IZ)I"⟩
abbrev cX1_hold : ByteArray := prog_1_method_10_code
def yX1_hold : MethodName := ⟨RX1, "hold", "(Z)I"⟩
abbrev cX1_wish : ByteArray := prog_1_method_11_code
def yX1_wish : MethodName := ⟨RX1, "wish", "(I)I"⟩
abbrev cX1_reference : ByteArray := prog_1_method_12_code
def yX1_reference : MethodName := ⟨RX1, "reference", "()J"⟩
abbrev cX1_plant : ByteArray := prog_1_method_13_code
def yX1_plant : MethodName := ⟨RX1, "plant", "(I)D"⟩
abbrev cX1_bound : ByteArray := prog_1_method_14_code
def yX1_bound : MethodName := ⟨RX1, "bound", "(IJ)I"⟩
abbrev cX1_mode : ByteArray := prog_1_method_15_code
def yX1_mode : MethodName := ⟨RX1, "mode", "()I"⟩
abbrev cX1_isWithin : ByteArray := prog_1_method_16_code
def yX1_isWithin : MethodName := ⟨RX1, "isWithin", "(JJJ)Z"⟩
abbrev cX1_find : ByteArray := prog_1_method_17_code
def yX1_find : MethodName := ⟨RX1, "find", "(I)LGearBrake$Wheel;"⟩
abbrev cX1_countLost : ByteArray := prog_1_method_18_code
def yX1_countLost : MethodName := ⟨RX1, "countLost", "()I"⟩
abbrev cX1_nextReference : ByteArray := prog_1_method_19_code
def yX1_nextReference : MethodName := ⟨RX1, "nextReference", "(J)J"⟩
abbrev cX1_greatestSpeed : ByteArray := prog_1_method_20_code
def yX1_greatestSpeed : MethodName := ⟨RX1, "greatestSpeed", "()J"⟩
abbrev cX1_shift : ByteArray := prog_1_method_21_code
def yX1_shift : MethodName := ⟨RX1, "shift", "(J)V"⟩
abbrev cX1_change : ByteArray := prog_1_method_22_code
def yX1_change : MethodName := ⟨RX1, "change", "(II)V"⟩
abbrev cX1_commonDivisor : ByteArray := prog_1_method_23_code
def yX1_commonDivisor : MethodName := ⟨RX1, "commonDivisor", "(JJ)J"⟩
def RX2 : String := "GearBrakeModel"
def TX2 : u_T := fun k => match k with
  | 0 => ("GearBrakeModel", "thrown", "I", false)
  | 1 => ("GearBrakeModel", "wheels", "I", false)
  | 2 => ("GearBrakeModel", "speeds", "[J", true)
  | 3 => ("GearBrakeModel", "losts", "[Z", true)
  | 4 => ("GearBrakeModel", "phases", "[I", true)
  | 5 => ("GearBrakeModel", "pressures", "[J", true)
  | 6 => ("GearBrakeModel", "bounds", "[J", true)
  | 7 => ("GearBrakeModel", "models", "[D", true)
  | 8 => ("GearBrakeModel", "reference", "J", false)
  | 9 => ("GearBrakeModel", "gear", "I", false)
  | 10 => ("GearBrakeModel", "holds", "Z", false)
  | 11 => ("GearBrakeModel", "steps", "I", false)
  | 12 => ("GearBrakeModel", "changed", "I", false)
  | _ => ("GearBrakeModel", "rest", "I", false)
def tyX2 : Nat → FieldType := fun k => match k with
  | 0 => .int
  | 1 => .int
  | 2 => .array .long
  | 3 => .array .boolean
  | 4 => .array .int
  | 5 => .array .long
  | 6 => .array .long
  | 7 => .array .double
  | 8 => .long
  | 9 => .int
  | 10 => .boolean
  | 11 => .int
  | 12 => .int
  | _ => .int
abbrev wsX20 : List Cond := u_ws RX2 TX2 14
theorem nmX2 : ∀ a, a < 14 → ∀ b, b < 14 → a ≠ b → (TX2 a).2.1 ≠ (TX2 b).2.1 := by decide +kernel
theorem tyX2_ok : ∀ k, k < 14 → parseFieldDescriptor (TX2 k).2.2.1 = some (tyX2 k) := by decide +kernel
abbrev cX2_init : ByteArray := prog_4_method_1_code
def yX2_init : MethodName := ⟨RX2, "<init>", "(I)V"⟩
abbrev cX2_thrown : ByteArray := prog_4_method_2_code
def yX2_thrown : MethodName := ⟨RX2, "thrown", "()I"⟩
abbrev cX2_noWheel : ByteArray := prog_4_method_3_code
def yX2_noWheel : MethodName := ⟨RX2, "noWheel", "(I)Z"⟩
abbrev cX2_wheel : ByteArray := prog_4_method_4_code
def yX2_wheel : MethodName := ⟨RX2, "wheel", "(IJ)I"⟩
abbrev cX2_lostOnes : ByteArray := prog_4_method_5_code
def yX2_lostOnes : MethodName := ⟨RX2, "lostOnes", "()I"⟩
abbrev cX2_refer : ByteArray := prog_4_method_6_code
def yX2_refer : MethodName := ⟨RX2, "refer", "(J)V"⟩
abbrev cX2_phaseOf : ByteArray := prog_4_method_7_code
def yX2_phaseOf : MethodName := ⟨RX2, "phaseOf", "(IJ)I"⟩
abbrev cX2_pressureOf : ByteArray := prog_4_method_8_code
def yX2_pressureOf : MethodName := ⟨RX2, "pressureOf", "(IJ)J"⟩
abbrev cX2_step : ByteArray := prog_4_method_9_code
def yX2_step : MethodName := ⟨RX2, "step", "(JJ)I"⟩
abbrev cX2_turn : ByteArray := prog_4_method_10_code
def yX2_turn : MethodName := ⟨RX2, "turn", "(II)V"⟩
abbrev cX2_phase : ByteArray := prog_4_method_11_code
def yX2_phase : MethodName := ⟨RX2, "phase", "(I)I"⟩
abbrev cX2_pressure : ByteArray := prog_4_method_12_code
def yX2_pressure : MethodName := ⟨RX2, "pressure", "(I)J"⟩
abbrev cX2_yaw : ByteArray := prog_4_method_13_code
def yX2_yaw : MethodName := ⟨RX2, "yaw", "(JJ)I"⟩
abbrev cX2_slip : ByteArray := prog_4_method_14_code
def yX2_slip : MethodName := ⟨RX2, "slip", "(II)J"⟩
abbrev cX2_gear : ByteArray := prog_4_method_15_code
def yX2_gear : MethodName := ⟨RX2, "gear", "()I"⟩
abbrev cX2_lost : ByteArray := prog_4_method_16_code
def yX2_lost : MethodName := ⟨RX2, "lost", "(IZ)I"⟩
abbrev cX2_hold : ByteArray := prog_4_method_17_code
def yX2_hold : MethodName := ⟨RX2, "hold", "(Z)I"⟩
abbrev cX2_wish : ByteArray := prog_4_method_18_code
def yX2_wish : MethodName := ⟨RX2, "wish", "(I)I"⟩
abbrev cX2_reference : ByteArray := prog_4_method_19_code
def yX2_reference : MethodName := ⟨RX2, "reference", "()J"⟩
abbrev cX2_plant : ByteArray := prog_4_method_20_code
def yX2_plant : MethodName := ⟨RX2, "plant", "(I)D"⟩
abbrev cX2_bound : ByteArray := prog_4_method_21_code
def yX2_bound : MethodName := ⟨RX2, "bound", "(IJ)I"⟩
abbrev cX2_mode : ByteArray := prog_4_method_22_code
def yX2_mode : MethodName := ⟨RX2, "mode", "()I"⟩
def RJ9 : String := "java/lang/Math"
def TJ9 : u_T := fun k => match k with
  | _ => ("", "", "", false)
def tyJ9 : Nat → FieldType := fun k => match k with
  | _ => .int
abbrev wsJ90 : List Cond := u_ws RJ9 TJ9 0
theorem nmJ9 : ∀ a, a < 0 → ∀ b, b < 0 → a ≠ b → (TJ9 a).2.1 ≠ (TJ9 b).2.1 := by decide +kernel
theorem tyJ9_ok : ∀ k, k < 0 → parseFieldDescriptor (TJ9 k).2.2.1 = some (tyJ9 k) := by decide +kernel
abbrev cJ9_abs_067f4 : ByteArray := prog_7_method_61_code
def yJ9_abs_067f4 : MethodName := ⟨RJ9, "abs", "(J)J"⟩
abbrev cJ9_max_f86c9 : ByteArray := prog_7_method_66_code
def yJ9_max_f86c9 : MethodName := ⟨RJ9, "max", "(JJ)J"⟩
abbrev cJ9_min_f86c9 : ByteArray := prog_7_method_70_code
def yJ9_min_f86c9 : MethodName := ⟨RJ9, "min", "(JJ)J"⟩
def RJ0 : String := "java/lang/String"
def TJ0 : u_T := fun k => match k with
  | _ => ("", "", "", false)
def tyJ0 : Nat → FieldType := fun k => match k with
  | _ => .int
abbrev wsJ00 : List Cond := u_ws RJ0 TJ0 0
theorem nmJ0 : ∀ a, a < 0 → ∀ b, b < 0 → a ≠ b → (TJ0 a).2.1 ≠ (TJ0 b).2.1 := by decide +kernel
theorem tyJ0_ok : ∀ k, k < 0 → parseFieldDescriptor (TJ0 k).2.2.1 = some (tyJ0 k) := by decide +kernel
def RL : String := "GearBrakeLaw"
abbrev cL_cell : ByteArray := method_2_code
def yL_cell : MethodName := ⟨RL, "cell", "([II)I"⟩
abbrev cL_slip : ByteArray := method_3_code
def yL_slip : MethodName := ⟨RL, "slip", "(LGearBrake;II[J)I"⟩
abbrev cL_law : ByteArray := code
def yL_law : MethodName := ⟨RL, "law", "([I)Z"⟩
def wsX0_init : List Cond := .code yX0_init cX0_init 1 none :: ([.methodLink RX0 3 objectInit, .instanceMethod objectInit, .code objectInit ⟨#[0xb1]⟩ 1 none, .fieldLink RX0 9 "GearBrake$Wheel" "phase" "I", .constantLong RX0 15 (100), .fieldLink RX0 17 "GearBrake$Wheel" "bound" "J"] ++ wsX00)
def wsX0_nextPhase : List Cond := .code yX0_nextPhase cX0_nextPhase 6 (some .int) :: ([.fieldLink RX0 41 "GearBrake$Wheel" "lost" "Z", .constantLong RX0 15 (100), .fieldLink RX0 45 "GearBrake$Wheel" "speed" "J", .constantLong RX0 48 (80), .constantLong RX0 50 (90), .fieldLink RX0 9 "GearBrake$Wheel" "phase" "I", .fieldLink RX0 52 "GearBrake$Wheel" "pressure" "J"] ++ wsX00)
def wsX0_wantedPressure : List Cond := .code yX0_wantedPressure cX0_wantedPressure 3 (some .long) :: ([.fieldLink RX0 9 "GearBrake$Wheel" "phase" "I", .fieldLink RX0 52 "GearBrake$Wheel" "pressure" "J", .constantLong RX0 55 (10), .methodLink RX0 31 Lib.MathLoose.max_long.x, .static Lib.MathLoose.max_long.x, .initialized "java/lang/Math", .code Lib.MathLoose.max_long.x Lib.MathLoose.max_long.code 4 (some .long), .constantLong RX0 57 (5), .methodLink RX0 59 Lib.MathLoose.min_long.x, .static Lib.MathLoose.min_long.x, .code Lib.MathLoose.min_long.x Lib.MathLoose.min_long.code 4 (some .long)] ++ wsX00)
def wsX0_press : List Cond := .code yX0_press cX0_press 3 none :: ([.fieldLink RX0 17 "GearBrake$Wheel" "bound" "J", .methodLink RX0 59 Lib.MathLoose.min_long.x, .static Lib.MathLoose.min_long.x, .initialized "java/lang/Math", .code Lib.MathLoose.min_long.x Lib.MathLoose.min_long.code 4 (some .long), .fieldLink RX0 52 "GearBrake$Wheel" "pressure" "J"] ++ wsX00)
def wsX0_brake_r1 : List Cond := [Cond.fieldLink RX0 9 "GearBrake$Wheel" "phase" "I", Cond.constantLong RX0 29 (30), Cond.methodLink RX0 31 Lib.MathLoose.max_long.x, Cond.static Lib.MathLoose.max_long.x, Cond.initialized "java/lang/Math", Cond.code Lib.MathLoose.max_long.x Lib.MathLoose.max_long.code 4 (some .long), Cond.methodLink RX0 21 yX0_nextPhase, Cond.instanceMethod yX0_nextPhase, Cond.selects RX0 yX0_nextPhase yX0_nextPhase, Cond.initialized RX0, Cond.code yX0_nextPhase cX0_nextPhase 6 (some .int), Cond.fieldLink RX0 41 "GearBrake$Wheel" "lost" "Z", Cond.constantLong RX0 15 (100), Cond.fieldLink RX0 45 "GearBrake$Wheel" "speed" "J", Cond.constantLong RX0 48 (80), Cond.constantLong RX0 50 (90), Cond.fieldLink RX0 52 "GearBrake$Wheel" "pressure" "J", Cond.methodLink RX0 25 yX0_wantedPressure, Cond.instanceMethod yX0_wantedPressure, Cond.selects RX0 yX0_wantedPressure yX0_wantedPressure, Cond.code yX0_wantedPressure cX0_wantedPressure 3 (some .long), Cond.constantLong RX0 55 (10), Cond.constantLong RX0 57 (5), Cond.methodLink RX0 59 Lib.MathLoose.min_long.x]
def wsX0_brake_r2 : List Cond := [Cond.static Lib.MathLoose.min_long.x, Cond.code Lib.MathLoose.min_long.x Lib.MathLoose.min_long.code 4 (some .long), Cond.methodLink RX0 37 yX0_press, Cond.instanceMethod yX0_press, Cond.selects RX0 yX0_press yX0_press, Cond.code yX0_press cX0_press 3 none, Cond.fieldLink RX0 17 "GearBrake$Wheel" "bound" "J"]
def wsX0_brake : List Cond := .code yX0_brake cX0_brake 8 none :: ((wsX0_brake_r1 ++ wsX0_brake_r2) ++ wsX00)
def wsX0_followModel : List Cond := .code yX0_followModel cX0_followModel 5 none :: ([.fieldLink RX0 62 "GearBrake$Wheel" "model" "D", .constantDouble RX0 66 (4593671619917905920), .fieldLink RX0 45 "GearBrake$Wheel" "speed" "J", .constantDouble RX0 68 (4589168020290535424), .fieldLink RX0 52 "GearBrake$Wheel" "pressure" "J"] ++ wsX00)
def wsX1_init : List Cond := .code yX1_init cX1_init 4 none :: ([.methodLink RX1 1 objectInit, .instanceMethod objectInit, .code objectInit ⟨#[0xb1]⟩ 1 none, .classLink RX1 9 RX0, .fieldLink RX1 11 "GearBrake" "wheels" "[LGearBrake$Wheel;", .instantiable RX0 6, .initialized RX0, .fieldLink RX1 16 "GearBrake" "gear" "I", .instanceMethod yX0_init, .code yX0_init cX0_init 1 none, .methodLink RX0 3 objectInit, .fieldLink RX0 9 "GearBrake$Wheel" "phase" "I", .constantLong RX0 15 (100), .fieldLink RX0 17 "GearBrake$Wheel" "bound" "J"] ++ wsX10 ++ wsX00)
def wsX1_find : List Cond := .code yX1_find cX1_find 2 (some (.object "GearBrake$Wheel")) :: ([.fieldLink RX1 11 "GearBrake" "wheels" "[LGearBrake$Wheel;"] ++ wsX10)
def wsX1_isWithin : List Cond := .code yX1_isWithin cX1_isWithin 6 (some .boolean) :: ([])
def wsX1_wheel : List Cond := .code yX1_wheel cX1_wheel 5 (some .int) :: ([.constantLong RX1 24 (1000), .methodLink RX1 20 yX1_find, .instanceMethod yX1_find, .selects RX1 yX1_find yX1_find, .initialized RX1, .code yX1_find cX1_find 2 (some (.object "GearBrake$Wheel")), .fieldLink RX1 11 "GearBrake" "wheels" "[LGearBrake$Wheel;", .methodLink RX1 26 yX1_isWithin, .static yX1_isWithin, .code yX1_isWithin cX1_isWithin 6 (some .boolean)] ++ wsX00 ++ wsX10)
def wsX1_countLost : List Cond := .code yX1_countLost cX1_countLost 3 (some .int) :: ([.fieldLink RX1 11 "GearBrake" "wheels" "[LGearBrake$Wheel;"] ++ wsX10 ++ wsX00)
def wsX1_greatestSpeed : List Cond := .code yX1_greatestSpeed cX1_greatestSpeed 4 (some .long) :: ([.fieldLink RX1 11 "GearBrake" "wheels" "[LGearBrake$Wheel;", .methodLink RX1 122 Lib.MathLoose.max_long.x, .static Lib.MathLoose.max_long.x, .initialized "java/lang/Math", .code Lib.MathLoose.max_long.x Lib.MathLoose.max_long.code 4 (some .long)] ++ wsX10 ++ wsX00)
def wsX1_nextReference : List Cond := .code yX1_nextReference cX1_nextReference 7 (some .long) :: ([.fieldLink RX1 47 "GearBrake" "reference" "J", .constantLong RX1 120 (3), .methodLink RX1 122 Lib.MathLoose.max_long.x, .static Lib.MathLoose.max_long.x, .initialized "java/lang/Math", .code Lib.MathLoose.max_long.x Lib.MathLoose.max_long.code 4 (some .long), .fieldLink RX1 11 "GearBrake" "wheels" "[LGearBrake$Wheel;", .methodLink RX1 82 yX1_countLost, .instanceMethod yX1_countLost, .selects RX1 yX1_countLost yX1_countLost, .initialized RX1, .code yX1_countLost cX1_countLost 3 (some .int), .methodLink RX1 125 yX1_greatestSpeed, .instanceMethod yX1_greatestSpeed, .selects RX1 yX1_greatestSpeed yX1_greatestSpeed, .code yX1_greatestSpeed cX1_greatestSpeed 4 (some .long)] ++ wsX10 ++ wsX00)
def wsX1_change : List Cond := .code yX1_change cX1_change 3 none :: ([.fieldLink RX1 16 "GearBrake" "gear" "I", .fieldLink RX1 40 "GearBrake" "steps" "I", .fieldLink RX1 129 "GearBrake" "nextShift" "I"] ++ wsX10)
def wsX1_shift : List Cond := .code yX1_shift cX1_shift 3 none :: ([.fieldLink RX1 40 "GearBrake" "steps" "I", .fieldLink RX1 129 "GearBrake" "nextShift" "I", .fieldLink RX1 16 "GearBrake" "gear" "I", .fieldLink RX1 47 "GearBrake" "reference" "J", .constantLong RX1 61 (20), .constantLong RX1 105 (10), .methodLink RX1 122 Lib.MathLoose.max_long.x, .static Lib.MathLoose.max_long.x, .initialized "java/lang/Math", .code Lib.MathLoose.max_long.x Lib.MathLoose.max_long.code 4 (some .long), .methodLink RX1 107 yX1_change, .instanceMethod yX1_change, .selects RX1 yX1_change yX1_change, .initialized RX1, .code yX1_change cX1_change 3 none] ++ wsX10)
def wsX1_step_r1 : List Cond := [Cond.constantLong RX1 34 (100), Cond.constantLong RX1 36 (-30), Cond.constantLong RX1 38 (30), Cond.fieldLink RX1 40 "GearBrake" "steps" "I", Cond.fieldLink RX1 47 "GearBrake" "reference" "J", Cond.fieldLink RX1 11 "GearBrake" "wheels" "[LGearBrake$Wheel;", Cond.fieldLink RX1 50 "GearBrake" "held" "Z", Cond.constantLong RX1 61 (20), Cond.fieldLink RX1 16 "GearBrake" "gear" "I", Cond.methodLink RX1 26 yX1_isWithin, Cond.static yX1_isWithin, Cond.initialized RX1, Cond.code yX1_isWithin cX1_isWithin 6 (some .boolean), Cond.methodLink RX1 43 yX1_nextReference, Cond.instanceMethod yX1_nextReference, Cond.selects RX1 yX1_nextReference yX1_nextReference, Cond.code yX1_nextReference cX1_nextReference 7 (some .long), Cond.constantLong RX1 120 (3), Cond.methodLink RX1 122 Lib.MathLoose.max_long.x, Cond.static Lib.MathLoose.max_long.x, Cond.initialized "java/lang/Math", Cond.code Lib.MathLoose.max_long.x Lib.MathLoose.max_long.code 4 (some .long), Cond.methodLink RX1 82 yX1_countLost, Cond.instanceMethod yX1_countLost]
def wsX1_step_r2 : List Cond := [Cond.selects RX1 yX1_countLost yX1_countLost, Cond.code yX1_countLost cX1_countLost 3 (some .int), Cond.methodLink RX1 125 yX1_greatestSpeed, Cond.instanceMethod yX1_greatestSpeed, Cond.selects RX1 yX1_greatestSpeed yX1_greatestSpeed, Cond.code yX1_greatestSpeed cX1_greatestSpeed 4 (some .long), Cond.instanceMethod yX0_brake, Cond.initialized RX0, Cond.selects RX0 yX0_brake yX0_brake, Cond.code yX0_brake cX0_brake 8 none, Cond.fieldLink RX0 9 "GearBrake$Wheel" "phase" "I", Cond.constantLong RX0 29 (30), Cond.methodLink RX0 31 Lib.MathLoose.max_long.x, Cond.methodLink RX0 21 yX0_nextPhase, Cond.instanceMethod yX0_nextPhase, Cond.selects RX0 yX0_nextPhase yX0_nextPhase, Cond.code yX0_nextPhase cX0_nextPhase 6 (some .int), Cond.fieldLink RX0 41 "GearBrake$Wheel" "lost" "Z", Cond.constantLong RX0 15 (100), Cond.fieldLink RX0 45 "GearBrake$Wheel" "speed" "J", Cond.constantLong RX0 48 (80), Cond.constantLong RX0 50 (90), Cond.fieldLink RX0 52 "GearBrake$Wheel" "pressure" "J", Cond.methodLink RX0 25 yX0_wantedPressure]
def wsX1_step_r3 : List Cond := [Cond.instanceMethod yX0_wantedPressure, Cond.selects RX0 yX0_wantedPressure yX0_wantedPressure, Cond.code yX0_wantedPressure cX0_wantedPressure 3 (some .long), Cond.constantLong RX0 55 (10), Cond.constantLong RX0 57 (5), Cond.methodLink RX0 59 Lib.MathLoose.min_long.x, Cond.static Lib.MathLoose.min_long.x, Cond.code Lib.MathLoose.min_long.x Lib.MathLoose.min_long.code 4 (some .long), Cond.methodLink RX0 37 yX0_press, Cond.instanceMethod yX0_press, Cond.selects RX0 yX0_press yX0_press, Cond.code yX0_press cX0_press 3 none, Cond.fieldLink RX0 17 "GearBrake$Wheel" "bound" "J", Cond.instanceMethod yX0_followModel, Cond.selects RX0 yX0_followModel yX0_followModel, Cond.code yX0_followModel cX0_followModel 5 none, Cond.fieldLink RX0 62 "GearBrake$Wheel" "model" "D", Cond.constantDouble RX0 66 (4593671619917905920), Cond.constantDouble RX0 68 (4589168020290535424), Cond.methodLink RX1 63 yX1_shift, Cond.instanceMethod yX1_shift, Cond.selects RX1 yX1_shift yX1_shift, Cond.code yX1_shift cX1_shift 3 none, Cond.fieldLink RX1 129 "GearBrake" "nextShift" "I"]
def wsX1_step_r4 : List Cond := [Cond.constantLong RX1 105 (10), Cond.methodLink RX1 107 yX1_change, Cond.instanceMethod yX1_change, Cond.selects RX1 yX1_change yX1_change, Cond.code yX1_change cX1_change 3 none]
def wsX1_step : List Cond := .code yX1_step cX1_step 6 (some .int) :: ((wsX1_step_r1 ++ (wsX1_step_r2 ++ (wsX1_step_r3 ++ wsX1_step_r4))) ++ wsX10 ++ wsX00)
def wsX1_phase : List Cond := .code yX1_phase cX1_phase 3 (some .int) :: ([.methodLink RX1 20 yX1_find, .instanceMethod yX1_find, .selects RX1 yX1_find yX1_find, .initialized RX1, .code yX1_find cX1_find 2 (some (.object "GearBrake$Wheel")), .fieldLink RX1 11 "GearBrake" "wheels" "[LGearBrake$Wheel;"] ++ wsX00 ++ wsX10)
def wsX1_pressure : List Cond := .code yX1_pressure cX1_pressure 3 (some .long) :: ([.constantLong RX1 70 (-1), .methodLink RX1 20 yX1_find, .instanceMethod yX1_find, .selects RX1 yX1_find yX1_find, .initialized RX1, .code yX1_find cX1_find 2 (some (.object "GearBrake$Wheel")), .fieldLink RX1 11 "GearBrake" "wheels" "[LGearBrake$Wheel;"] ++ wsX00 ++ wsX10)
def wsX1_yaw_r1 : List Cond := [Cond.constantLong RX1 75 (-1000), Cond.constantLong RX1 24 (1000), Cond.methodLink RX1 77 Lib.MathLoose.abs_long.x, Cond.static Lib.MathLoose.abs_long.x, Cond.initialized "java/lang/Math", Cond.code Lib.MathLoose.abs_long.x Lib.MathLoose.abs_long.code 2 (some .long), Cond.constantLong RX1 61 (20), Cond.methodLink RX1 26 yX1_isWithin, Cond.static yX1_isWithin, Cond.initialized RX1, Cond.code yX1_isWithin cX1_isWithin 6 (some .boolean), Cond.methodLink RX1 82 yX1_countLost, Cond.instanceMethod yX1_countLost, Cond.selects RX1 yX1_countLost yX1_countLost, Cond.code yX1_countLost cX1_countLost 3 (some .int), Cond.fieldLink RX1 11 "GearBrake" "wheels" "[LGearBrake$Wheel;", Cond.methodLink RX1 20 yX1_find, Cond.instanceMethod yX1_find, Cond.selects RX1 yX1_find yX1_find, Cond.code yX1_find cX1_find 2 (some (.object "GearBrake$Wheel")), Cond.instanceMethod yX0_press, Cond.initialized RX0, Cond.selects RX0 yX0_press yX0_press, Cond.code yX0_press cX0_press 3 none]
def wsX1_yaw_r2 : List Cond := [Cond.fieldLink RX0 17 "GearBrake$Wheel" "bound" "J", Cond.methodLink RX0 59 Lib.MathLoose.min_long.x, Cond.static Lib.MathLoose.min_long.x, Cond.code Lib.MathLoose.min_long.x Lib.MathLoose.min_long.code 4 (some .long), Cond.fieldLink RX0 52 "GearBrake$Wheel" "pressure" "J"]
def wsX1_yaw : List Cond := .code yX1_yaw cX1_yaw 7 (some .int) :: ((wsX1_yaw_r1 ++ wsX1_yaw_r2) ++ wsX00 ++ wsX10)
def wsX1_commonDivisor : List Cond := .code yX1_commonDivisor cX1_commonDivisor 11 (some .long) :: ([.methodLink RX1 122 Lib.MathLoose.max_long.x, .static Lib.MathLoose.max_long.x, .initialized "java/lang/Math", .code Lib.MathLoose.max_long.x Lib.MathLoose.max_long.code 4 (some .long)])
def wsX1_slip : List Cond := .code yX1_slip cX1_slip 8 (some .long) :: ([.classLink RX1 89 "java/lang/ArithmeticException", .initialized "java/lang/ArithmeticException", .fieldLink RX1 47 "GearBrake" "reference" "J", .methodLink RX1 77 Lib.MathLoose.abs_long.x, .static Lib.MathLoose.abs_long.x, .initialized "java/lang/Math", .code Lib.MathLoose.abs_long.x Lib.MathLoose.abs_long.code 2 (some .long), .methodLink RX1 20 yX1_find, .instanceMethod yX1_find, .selects RX1 yX1_find yX1_find, .initialized RX1, .code yX1_find cX1_find 2 (some (.object "GearBrake$Wheel")), .fieldLink RX1 11 "GearBrake" "wheels" "[LGearBrake$Wheel;", .methodLink RX1 96 yX1_commonDivisor, .static yX1_commonDivisor, .code yX1_commonDivisor cX1_commonDivisor 11 (some .long), .methodLink RX1 122 Lib.MathLoose.max_long.x, .static Lib.MathLoose.max_long.x, .code Lib.MathLoose.max_long.x Lib.MathLoose.max_long.code 4 (some .long)] ++ wsX10 ++ wsX00 ++ (vx_atS RX1 93 "java/lang/ArithmeticException" ["java/lang/RuntimeException", "java/lang/Exception"]).filter goodWord)
def wsX1_gear : List Cond := .code yX1_gear cX1_gear 1 (some .int) :: ([.fieldLink RX1 16 "GearBrake" "gear" "I"] ++ wsX10)
def wsX1_lost : List Cond := .code yX1_lost cX1_lost 4 (some .int) :: ([.methodLink RX1 20 yX1_find, .instanceMethod yX1_find, .selects RX1 yX1_find yX1_find, .initialized RX1, .code yX1_find cX1_find 2 (some (.object "GearBrake$Wheel")), .fieldLink RX1 11 "GearBrake" "wheels" "[LGearBrake$Wheel;", .methodLink RX1 82 yX1_countLost, .instanceMethod yX1_countLost, .selects RX1 yX1_countLost yX1_countLost, .code yX1_countLost cX1_countLost 3 (some .int)] ++ wsX00 ++ wsX10)
def wsX1_hold : List Cond := .code yX1_hold cX1_hold 2 (some .int) :: ([.fieldLink RX1 50 "GearBrake" "held" "Z", .fieldLink RX1 47 "GearBrake" "reference" "J"] ++ wsX10)
def wsX1_wish : List Cond := .code yX1_wish cX1_wish 6 (some .int) :: ([.constantLong RX1 103 (6), .constantLong RX1 61 (20), .constantLong RX1 105 (10), .constantLong RX1 38 (30), .fieldLink RX1 47 "GearBrake" "reference" "J", .methodLink RX1 26 yX1_isWithin, .static yX1_isWithin, .initialized RX1, .code yX1_isWithin cX1_isWithin 6 (some .boolean), .methodLink RX1 107 yX1_change, .instanceMethod yX1_change, .selects RX1 yX1_change yX1_change, .code yX1_change cX1_change 3 none, .fieldLink RX1 16 "GearBrake" "gear" "I", .fieldLink RX1 40 "GearBrake" "steps" "I", .fieldLink RX1 129 "GearBrake" "nextShift" "I"] ++ wsX10)
def wsX1_reference : List Cond := .code yX1_reference cX1_reference 1 (some .long) :: ([.fieldLink RX1 47 "GearBrake" "reference" "J"] ++ wsX10)
def wsX1_plant : List Cond := .code yX1_plant cX1_plant 3 (some .double) :: ([.methodLink RX1 20 yX1_find, .instanceMethod yX1_find, .selects RX1 yX1_find yX1_find, .initialized RX1, .code yX1_find cX1_find 2 (some (.object "GearBrake$Wheel")), .fieldLink RX1 11 "GearBrake" "wheels" "[LGearBrake$Wheel;"] ++ wsX00 ++ wsX10)
def wsX1_bound : List Cond := .code yX1_bound cX1_bound 5 (some .int) :: ([.constantLong RX1 115 (200), .methodLink RX1 20 yX1_find, .instanceMethod yX1_find, .selects RX1 yX1_find yX1_find, .initialized RX1, .code yX1_find cX1_find 2 (some (.object "GearBrake$Wheel")), .fieldLink RX1 11 "GearBrake" "wheels" "[LGearBrake$Wheel;", .methodLink RX1 26 yX1_isWithin, .static yX1_isWithin, .code yX1_isWithin cX1_isWithin 6 (some .boolean), .instanceMethod yX0_press, .initialized RX0, .selects RX0 yX0_press yX0_press, .code yX0_press cX0_press 3 none, .fieldLink RX0 17 "GearBrake$Wheel" "bound" "J", .methodLink RX0 59 Lib.MathLoose.min_long.x, .static Lib.MathLoose.min_long.x, .initialized "java/lang/Math", .code Lib.MathLoose.min_long.x Lib.MathLoose.min_long.code 4 (some .long), .fieldLink RX0 52 "GearBrake$Wheel" "pressure" "J"] ++ wsX00 ++ wsX10)
def wsX1_mode : List Cond := .code yX1_mode cX1_mode 1 (some .int) :: ([.fieldLink RX1 50 "GearBrake" "held" "Z", .methodLink RX1 82 yX1_countLost, .instanceMethod yX1_countLost, .selects RX1 yX1_countLost yX1_countLost, .initialized RX1, .code yX1_countLost cX1_countLost 3 (some .int), .fieldLink RX1 11 "GearBrake" "wheels" "[LGearBrake$Wheel;"] ++ wsX10 ++ wsX00)
def wsX2_init : List Cond := .code yX2_init cX2_init 3 none :: ([.methodLink RX2 1 objectInit, .instanceMethod objectInit, .code objectInit ⟨#[0xb1]⟩ 1 none, .arrayClass .long, .fieldLink RX2 7 "GearBrakeModel" "speeds" "[J", .arrayClass .boolean, .fieldLink RX2 13 "GearBrakeModel" "losts" "[Z", .arrayClass .int, .fieldLink RX2 17 "GearBrakeModel" "phases" "[I", .fieldLink RX2 21 "GearBrakeModel" "pressures" "[J", .fieldLink RX2 24 "GearBrakeModel" "bounds" "[J", .arrayClass .double, .fieldLink RX2 27 "GearBrakeModel" "models" "[D", .fieldLink RX2 31 "GearBrakeModel" "gear" "I", .fieldLink RX2 35 "GearBrakeModel" "wheels" "I", .constantLong RX2 38 (100)] ++ wsX20)
def wsX2_thrown : List Cond := .code yX2_thrown cX2_thrown 1 (some .int) :: ([.fieldLink RX2 40 "GearBrakeModel" "thrown" "I"] ++ wsX20)
def wsX2_noWheel : List Cond := .code yX2_noWheel cX2_noWheel 2 (some .boolean) :: ([.fieldLink RX2 35 "GearBrakeModel" "wheels" "I"] ++ wsX20)
def wsX2_wheel : List Cond := .code yX2_wheel cX2_wheel 4 (some .int) :: ([.fieldLink RX2 40 "GearBrakeModel" "thrown" "I", .constantLong RX2 47 (1000), .fieldLink RX2 7 "GearBrakeModel" "speeds" "[J", .methodLink RX2 43 yX2_noWheel, .instanceMethod yX2_noWheel, .selects RX2 yX2_noWheel yX2_noWheel, .initialized RX2, .code yX2_noWheel cX2_noWheel 2 (some .boolean), .fieldLink RX2 35 "GearBrakeModel" "wheels" "I"] ++ wsX20)
def wsX2_lostOnes : List Cond := .code yX2_lostOnes cX2_lostOnes 3 (some .int) :: ([.fieldLink RX2 35 "GearBrakeModel" "wheels" "I", .fieldLink RX2 13 "GearBrakeModel" "losts" "[Z"] ++ wsX20)
def wsX2_refer : List Cond := .code yX2_refer cX2_refer 8 none :: ([.fieldLink RX2 35 "GearBrakeModel" "wheels" "I", .fieldLink RX2 13 "GearBrakeModel" "losts" "[Z", .fieldLink RX2 7 "GearBrakeModel" "speeds" "[J", .fieldLink RX2 53 "GearBrakeModel" "reference" "J", .constantLong RX2 57 (3), .methodLink RX2 49 yX2_lostOnes, .instanceMethod yX2_lostOnes, .selects RX2 yX2_lostOnes yX2_lostOnes, .initialized RX2, .code yX2_lostOnes cX2_lostOnes 3 (some .int)] ++ wsX20)
def wsX2_phaseOf : List Cond := .code yX2_phaseOf cX2_phaseOf 5 (some .int) :: ([.fieldLink RX2 13 "GearBrakeModel" "losts" "[Z", .fieldLink RX2 53 "GearBrakeModel" "reference" "J", .constantLong RX2 38 (100), .fieldLink RX2 7 "GearBrakeModel" "speeds" "[J", .constantLong RX2 59 (80), .constantLong RX2 61 (90), .fieldLink RX2 17 "GearBrakeModel" "phases" "[I", .fieldLink RX2 21 "GearBrakeModel" "pressures" "[J"] ++ wsX20)
def wsX2_pressureOf : List Cond := .code yX2_pressureOf cX2_pressureOf 6 (some .long) :: ([.fieldLink RX2 21 "GearBrakeModel" "pressures" "[J", .fieldLink RX2 17 "GearBrakeModel" "phases" "[I", .constantLong RX2 63 (10), .constantLong RX2 65 (5), .fieldLink RX2 67 "GearBrakeModel" "holds" "Z", .constantLong RX2 71 (30), .fieldLink RX2 24 "GearBrakeModel" "bounds" "[J"] ++ wsX20)
def wsX2_turn : List Cond := .code yX2_turn cX2_turn 3 none :: ([.fieldLink RX2 31 "GearBrakeModel" "gear" "I", .fieldLink RX2 75 "GearBrakeModel" "steps" "I", .fieldLink RX2 96 "GearBrakeModel" "changed" "I", .fieldLink RX2 99 "GearBrakeModel" "rest" "I"] ++ wsX20)
def wsX2_step_r1 : List Cond := [Cond.fieldLink RX2 40 "GearBrakeModel" "thrown" "I", Cond.constantLong RX2 38 (100), Cond.constantLong RX2 73 (-30), Cond.constantLong RX2 71 (30), Cond.fieldLink RX2 75 "GearBrakeModel" "steps" "I", Cond.fieldLink RX2 35 "GearBrakeModel" "wheels" "I", Cond.fieldLink RX2 17 "GearBrakeModel" "phases" "[I", Cond.fieldLink RX2 21 "GearBrakeModel" "pressures" "[J", Cond.fieldLink RX2 27 "GearBrakeModel" "models" "[D", Cond.constantDouble RX2 90 (4593671619917905920), Cond.fieldLink RX2 7 "GearBrakeModel" "speeds" "[J", Cond.constantDouble RX2 92 (4589168020290535424), Cond.fieldLink RX2 67 "GearBrakeModel" "holds" "Z", Cond.fieldLink RX2 53 "GearBrakeModel" "reference" "J", Cond.constantLong RX2 94 (20), Cond.fieldLink RX2 96 "GearBrakeModel" "changed" "I", Cond.fieldLink RX2 99 "GearBrakeModel" "rest" "I", Cond.fieldLink RX2 31 "GearBrakeModel" "gear" "I", Cond.constantLong RX2 63 (10), Cond.methodLink RX2 78 yX2_refer, Cond.instanceMethod yX2_refer, Cond.selects RX2 yX2_refer yX2_refer, Cond.initialized RX2, Cond.code yX2_refer cX2_refer 8 none]
def wsX2_step_r2 : List Cond := [Cond.fieldLink RX2 13 "GearBrakeModel" "losts" "[Z", Cond.constantLong RX2 57 (3), Cond.methodLink RX2 49 yX2_lostOnes, Cond.instanceMethod yX2_lostOnes, Cond.selects RX2 yX2_lostOnes yX2_lostOnes, Cond.code yX2_lostOnes cX2_lostOnes 3 (some .int), Cond.methodLink RX2 82 yX2_phaseOf, Cond.instanceMethod yX2_phaseOf, Cond.selects RX2 yX2_phaseOf yX2_phaseOf, Cond.code yX2_phaseOf cX2_phaseOf 5 (some .int), Cond.constantLong RX2 59 (80), Cond.constantLong RX2 61 (90), Cond.methodLink RX2 86 yX2_pressureOf, Cond.instanceMethod yX2_pressureOf, Cond.selects RX2 yX2_pressureOf yX2_pressureOf, Cond.code yX2_pressureOf cX2_pressureOf 6 (some .long), Cond.constantLong RX2 65 (5), Cond.fieldLink RX2 24 "GearBrakeModel" "bounds" "[J", Cond.methodLink RX2 102 yX2_turn, Cond.instanceMethod yX2_turn, Cond.selects RX2 yX2_turn yX2_turn, Cond.code yX2_turn cX2_turn 3 none]
def wsX2_step : List Cond := .code yX2_step cX2_step 8 (some .int) :: ((wsX2_step_r1 ++ wsX2_step_r2) ++ wsX20)
def wsX2_phase : List Cond := .code yX2_phase cX2_phase 2 (some .int) :: ([.fieldLink RX2 40 "GearBrakeModel" "thrown" "I", .fieldLink RX2 17 "GearBrakeModel" "phases" "[I", .methodLink RX2 43 yX2_noWheel, .instanceMethod yX2_noWheel, .selects RX2 yX2_noWheel yX2_noWheel, .initialized RX2, .code yX2_noWheel cX2_noWheel 2 (some .boolean), .fieldLink RX2 35 "GearBrakeModel" "wheels" "I"] ++ wsX20)
def wsX2_pressure : List Cond := .code yX2_pressure cX2_pressure 2 (some .long) :: ([.fieldLink RX2 40 "GearBrakeModel" "thrown" "I", .constantLong RX2 106 (-1), .fieldLink RX2 21 "GearBrakeModel" "pressures" "[J", .methodLink RX2 43 yX2_noWheel, .instanceMethod yX2_noWheel, .selects RX2 yX2_noWheel yX2_noWheel, .initialized RX2, .code yX2_noWheel cX2_noWheel 2 (some .boolean), .fieldLink RX2 35 "GearBrakeModel" "wheels" "I"] ++ wsX20)
def wsX2_yaw : List Cond := .code yX2_yaw cX2_yaw 8 (some .int) :: ([.fieldLink RX2 40 "GearBrakeModel" "thrown" "I", .constantLong RX2 108 (-1000), .constantLong RX2 47 (1000), .constantLong RX2 94 (20), .fieldLink RX2 21 "GearBrakeModel" "pressures" "[J", .fieldLink RX2 24 "GearBrakeModel" "bounds" "[J", .methodLink RX2 49 yX2_lostOnes, .instanceMethod yX2_lostOnes, .selects RX2 yX2_lostOnes yX2_lostOnes, .initialized RX2, .code yX2_lostOnes cX2_lostOnes 3 (some .int), .fieldLink RX2 35 "GearBrakeModel" "wheels" "I", .fieldLink RX2 13 "GearBrakeModel" "losts" "[Z"] ++ wsX20)
def wsX2_slip : List Cond := .code yX2_slip cX2_slip 11 (some .long) :: ([.fieldLink RX2 40 "GearBrakeModel" "thrown" "I", .fieldLink RX2 53 "GearBrakeModel" "reference" "J", .fieldLink RX2 7 "GearBrakeModel" "speeds" "[J", .methodLink RX2 43 yX2_noWheel, .instanceMethod yX2_noWheel, .selects RX2 yX2_noWheel yX2_noWheel, .initialized RX2, .code yX2_noWheel cX2_noWheel 2 (some .boolean), .fieldLink RX2 35 "GearBrakeModel" "wheels" "I"] ++ wsX20)
def wsX2_gear : List Cond := .code yX2_gear cX2_gear 1 (some .int) :: ([.fieldLink RX2 40 "GearBrakeModel" "thrown" "I", .fieldLink RX2 31 "GearBrakeModel" "gear" "I"] ++ wsX20)
def wsX2_lost : List Cond := .code yX2_lost cX2_lost 3 (some .int) :: ([.fieldLink RX2 40 "GearBrakeModel" "thrown" "I", .fieldLink RX2 13 "GearBrakeModel" "losts" "[Z", .methodLink RX2 43 yX2_noWheel, .instanceMethod yX2_noWheel, .selects RX2 yX2_noWheel yX2_noWheel, .initialized RX2, .code yX2_noWheel cX2_noWheel 2 (some .boolean), .fieldLink RX2 35 "GearBrakeModel" "wheels" "I", .methodLink RX2 49 yX2_lostOnes, .instanceMethod yX2_lostOnes, .selects RX2 yX2_lostOnes yX2_lostOnes, .code yX2_lostOnes cX2_lostOnes 3 (some .int)] ++ wsX20)
def wsX2_hold : List Cond := .code yX2_hold cX2_hold 2 (some .int) :: ([.fieldLink RX2 40 "GearBrakeModel" "thrown" "I", .fieldLink RX2 67 "GearBrakeModel" "holds" "Z", .fieldLink RX2 53 "GearBrakeModel" "reference" "J"] ++ wsX20)
def wsX2_wish : List Cond := .code yX2_wish cX2_wish 2 (some .int) :: ([.fieldLink RX2 40 "GearBrakeModel" "thrown" "I", .fieldLink RX2 53 "GearBrakeModel" "reference" "J", .constantLong RX2 94 (20), .constantLong RX2 63 (10), .constantLong RX2 71 (30), .methodLink RX2 102 yX2_turn, .instanceMethod yX2_turn, .selects RX2 yX2_turn yX2_turn, .initialized RX2, .code yX2_turn cX2_turn 3 none, .fieldLink RX2 31 "GearBrakeModel" "gear" "I", .fieldLink RX2 75 "GearBrakeModel" "steps" "I", .fieldLink RX2 96 "GearBrakeModel" "changed" "I", .fieldLink RX2 99 "GearBrakeModel" "rest" "I"] ++ wsX20)
def wsX2_reference : List Cond := .code yX2_reference cX2_reference 1 (some .long) :: ([.fieldLink RX2 40 "GearBrakeModel" "thrown" "I", .fieldLink RX2 53 "GearBrakeModel" "reference" "J"] ++ wsX20)
def wsX2_plant : List Cond := .code yX2_plant cX2_plant 2 (some .double) :: ([.fieldLink RX2 40 "GearBrakeModel" "thrown" "I", .fieldLink RX2 27 "GearBrakeModel" "models" "[D", .methodLink RX2 43 yX2_noWheel, .instanceMethod yX2_noWheel, .selects RX2 yX2_noWheel yX2_noWheel, .initialized RX2, .code yX2_noWheel cX2_noWheel 2 (some .boolean), .fieldLink RX2 35 "GearBrakeModel" "wheels" "I"] ++ wsX20)
def wsX2_bound : List Cond := .code yX2_bound cX2_bound 4 (some .int) :: ([.fieldLink RX2 40 "GearBrakeModel" "thrown" "I", .constantLong RX2 110 (200), .fieldLink RX2 24 "GearBrakeModel" "bounds" "[J", .fieldLink RX2 21 "GearBrakeModel" "pressures" "[J", .methodLink RX2 43 yX2_noWheel, .instanceMethod yX2_noWheel, .selects RX2 yX2_noWheel yX2_noWheel, .initialized RX2, .code yX2_noWheel cX2_noWheel 2 (some .boolean), .fieldLink RX2 35 "GearBrakeModel" "wheels" "I"] ++ wsX20)
def wsX2_mode : List Cond := .code yX2_mode cX2_mode 1 (some .int) :: ([.fieldLink RX2 40 "GearBrakeModel" "thrown" "I", .fieldLink RX2 67 "GearBrakeModel" "holds" "Z", .methodLink RX2 49 yX2_lostOnes, .instanceMethod yX2_lostOnes, .selects RX2 yX2_lostOnes yX2_lostOnes, .initialized RX2, .code yX2_lostOnes cX2_lostOnes 3 (some .int), .fieldLink RX2 35 "GearBrakeModel" "wheels" "I", .fieldLink RX2 13 "GearBrakeModel" "losts" "[Z"] ++ wsX20)
def wsJ9_abs_067f4 : List Cond := .code yJ9_abs_067f4 cJ9_abs_067f4 2 (some .long) :: ([])
def wsJ9_max_f86c9 : List Cond := .code yJ9_max_f86c9 cJ9_max_f86c9 4 (some .long) :: ([])
def wsJ9_min_f86c9 : List Cond := .code yJ9_min_f86c9 cJ9_min_f86c9 4 (some .long) :: ([])
def wsL_cell : List Cond := .code yL_cell cL_cell 2 (some .int) :: ([])
def wsL_slip : List Cond := .codeWith yL_slip cL_slip 5 (some .int) [(0, 9, 12, 13)] :: ([.classLink RL 13 "java/lang/ArithmeticException", .methodLink RL 7 yX1_slip, .instanceMethod yX1_slip, .selects RX1 yX1_slip yX1_slip, .initialized RX1, .code yX1_slip cX1_slip 8 (some .long), .classLink RX1 89 "java/lang/ArithmeticException", .initialized "java/lang/ArithmeticException", .fieldLink RX1 47 "GearBrake" "reference" "J", .methodLink RX1 77 Lib.MathLoose.abs_long.x, .static Lib.MathLoose.abs_long.x, .initialized "java/lang/Math", .code Lib.MathLoose.abs_long.x Lib.MathLoose.abs_long.code 2 (some .long), .methodLink RX1 20 yX1_find, .instanceMethod yX1_find, .selects RX1 yX1_find yX1_find, .code yX1_find cX1_find 2 (some (.object "GearBrake$Wheel")), .fieldLink RX1 11 "GearBrake" "wheels" "[LGearBrake$Wheel;", .methodLink RX1 96 yX1_commonDivisor, .static yX1_commonDivisor, .code yX1_commonDivisor cX1_commonDivisor 11 (some .long), .methodLink RX1 122 Lib.MathLoose.max_long.x, .static Lib.MathLoose.max_long.x, .code Lib.MathLoose.max_long.x Lib.MathLoose.max_long.code 4 (some .long)] ++ wsX10 ++ wsX00 ++ (vx_atS RX1 93 "java/lang/ArithmeticException" ["java/lang/RuntimeException", "java/lang/Exception"]).filter goodWord)
def wsL_law0_r1 : List Cond := [Cond.classLink RL 8 RX1, Cond.instantiable RX1 6, Cond.initialized RX1, Cond.classLink RL 24 RX2, Cond.instantiable RX2 14, Cond.initialized RX2, Cond.arrayClass .long, Cond.constantLong RL 27 (4294967295), Cond.methodLink RL 15 yL_cell, Cond.static yL_cell, Cond.initialized RL, Cond.code yL_cell cL_cell 2 (some .int), Cond.methodLink RL 21 yX1_init, Cond.instanceMethod yX1_init, Cond.code yX1_init cX1_init 4 none, Cond.methodLink RX1 1 objectInit, Cond.instanceMethod objectInit, Cond.code objectInit ⟨#[0xb1]⟩ 1 none, Cond.classLink RX1 9 RX0, Cond.fieldLink RX1 11 "GearBrake" "wheels" "[LGearBrake$Wheel;", Cond.instantiable RX0 6, Cond.initialized RX0, Cond.fieldLink RX1 16 "GearBrake" "gear" "I", Cond.instanceMethod yX0_init]
def wsL_law0_r2 : List Cond := [Cond.code yX0_init cX0_init 1 none, Cond.methodLink RX0 3 objectInit, Cond.fieldLink RX0 9 "GearBrake$Wheel" "phase" "I", Cond.constantLong RX0 15 (100), Cond.fieldLink RX0 17 "GearBrake$Wheel" "bound" "J", Cond.methodLink RL 26 yX2_init, Cond.instanceMethod yX2_init, Cond.code yX2_init cX2_init 3 none, Cond.methodLink RX2 1 objectInit, Cond.fieldLink RX2 7 "GearBrakeModel" "speeds" "[J", Cond.arrayClass .boolean, Cond.fieldLink RX2 13 "GearBrakeModel" "losts" "[Z", Cond.arrayClass .int, Cond.fieldLink RX2 17 "GearBrakeModel" "phases" "[I", Cond.fieldLink RX2 21 "GearBrakeModel" "pressures" "[J", Cond.fieldLink RX2 24 "GearBrakeModel" "bounds" "[J", Cond.arrayClass .double, Cond.fieldLink RX2 27 "GearBrakeModel" "models" "[D", Cond.fieldLink RX2 31 "GearBrakeModel" "gear" "I", Cond.fieldLink RX2 35 "GearBrakeModel" "wheels" "I", Cond.constantLong RX2 38 (100), Cond.methodLink RL 29 yX1_wheel, Cond.instanceMethod yX1_wheel, Cond.selects RX1 yX1_wheel yX1_wheel]
def wsL_law0_r3 : List Cond := [Cond.code yX1_wheel cX1_wheel 5 (some .int), Cond.constantLong RX1 24 (1000), Cond.methodLink RX1 20 yX1_find, Cond.instanceMethod yX1_find, Cond.selects RX1 yX1_find yX1_find, Cond.code yX1_find cX1_find 2 (some (.object "GearBrake$Wheel")), Cond.methodLink RX1 26 yX1_isWithin, Cond.static yX1_isWithin, Cond.code yX1_isWithin cX1_isWithin 6 (some .boolean), Cond.methodLink RL 33 yX2_wheel, Cond.instanceMethod yX2_wheel, Cond.selects RX2 yX2_wheel yX2_wheel, Cond.code yX2_wheel cX2_wheel 4 (some .int), Cond.fieldLink RX2 40 "GearBrakeModel" "thrown" "I", Cond.constantLong RX2 47 (1000), Cond.methodLink RX2 43 yX2_noWheel, Cond.instanceMethod yX2_noWheel, Cond.selects RX2 yX2_noWheel yX2_noWheel, Cond.code yX2_noWheel cX2_noWheel 2 (some .boolean), Cond.methodLink RL 34 yX1_step, Cond.instanceMethod yX1_step, Cond.selects RX1 yX1_step yX1_step, Cond.code yX1_step cX1_step 6 (some .int), Cond.constantLong RX1 34 (100)]
def wsL_law0_r4 : List Cond := [Cond.constantLong RX1 36 (-30), Cond.constantLong RX1 38 (30), Cond.fieldLink RX1 40 "GearBrake" "steps" "I", Cond.fieldLink RX1 47 "GearBrake" "reference" "J", Cond.fieldLink RX1 50 "GearBrake" "held" "Z", Cond.constantLong RX1 61 (20), Cond.methodLink RX1 43 yX1_nextReference, Cond.instanceMethod yX1_nextReference, Cond.selects RX1 yX1_nextReference yX1_nextReference, Cond.code yX1_nextReference cX1_nextReference 7 (some .long), Cond.constantLong RX1 120 (3), Cond.methodLink RX1 122 Lib.MathLoose.max_long.x, Cond.static Lib.MathLoose.max_long.x, Cond.initialized "java/lang/Math", Cond.code Lib.MathLoose.max_long.x Lib.MathLoose.max_long.code 4 (some .long), Cond.methodLink RX1 82 yX1_countLost, Cond.instanceMethod yX1_countLost, Cond.selects RX1 yX1_countLost yX1_countLost, Cond.code yX1_countLost cX1_countLost 3 (some .int), Cond.methodLink RX1 125 yX1_greatestSpeed, Cond.instanceMethod yX1_greatestSpeed, Cond.selects RX1 yX1_greatestSpeed yX1_greatestSpeed, Cond.code yX1_greatestSpeed cX1_greatestSpeed 4 (some .long), Cond.instanceMethod yX0_brake]
def wsL_law0_r5 : List Cond := [Cond.selects RX0 yX0_brake yX0_brake, Cond.code yX0_brake cX0_brake 8 none, Cond.constantLong RX0 29 (30), Cond.methodLink RX0 31 Lib.MathLoose.max_long.x, Cond.methodLink RX0 21 yX0_nextPhase, Cond.instanceMethod yX0_nextPhase, Cond.selects RX0 yX0_nextPhase yX0_nextPhase, Cond.code yX0_nextPhase cX0_nextPhase 6 (some .int), Cond.fieldLink RX0 41 "GearBrake$Wheel" "lost" "Z", Cond.fieldLink RX0 45 "GearBrake$Wheel" "speed" "J", Cond.constantLong RX0 48 (80), Cond.constantLong RX0 50 (90), Cond.fieldLink RX0 52 "GearBrake$Wheel" "pressure" "J", Cond.methodLink RX0 25 yX0_wantedPressure, Cond.instanceMethod yX0_wantedPressure, Cond.selects RX0 yX0_wantedPressure yX0_wantedPressure, Cond.code yX0_wantedPressure cX0_wantedPressure 3 (some .long), Cond.constantLong RX0 55 (10), Cond.constantLong RX0 57 (5), Cond.methodLink RX0 59 Lib.MathLoose.min_long.x, Cond.static Lib.MathLoose.min_long.x, Cond.code Lib.MathLoose.min_long.x Lib.MathLoose.min_long.code 4 (some .long), Cond.methodLink RX0 37 yX0_press, Cond.instanceMethod yX0_press]
def wsL_law0_r6 : List Cond := [Cond.selects RX0 yX0_press yX0_press, Cond.code yX0_press cX0_press 3 none, Cond.instanceMethod yX0_followModel, Cond.selects RX0 yX0_followModel yX0_followModel, Cond.code yX0_followModel cX0_followModel 5 none, Cond.fieldLink RX0 62 "GearBrake$Wheel" "model" "D", Cond.constantDouble RX0 66 (4593671619917905920), Cond.constantDouble RX0 68 (4589168020290535424), Cond.methodLink RX1 63 yX1_shift, Cond.instanceMethod yX1_shift, Cond.selects RX1 yX1_shift yX1_shift, Cond.code yX1_shift cX1_shift 3 none, Cond.fieldLink RX1 129 "GearBrake" "nextShift" "I", Cond.constantLong RX1 105 (10), Cond.methodLink RX1 107 yX1_change, Cond.instanceMethod yX1_change, Cond.selects RX1 yX1_change yX1_change, Cond.code yX1_change cX1_change 3 none, Cond.methodLink RL 38 yX2_step, Cond.instanceMethod yX2_step, Cond.selects RX2 yX2_step yX2_step, Cond.code yX2_step cX2_step 8 (some .int), Cond.constantLong RX2 73 (-30), Cond.constantLong RX2 71 (30)]
def wsL_law0_r7 : List Cond := [Cond.fieldLink RX2 75 "GearBrakeModel" "steps" "I", Cond.constantDouble RX2 90 (4593671619917905920), Cond.constantDouble RX2 92 (4589168020290535424), Cond.fieldLink RX2 67 "GearBrakeModel" "holds" "Z", Cond.fieldLink RX2 53 "GearBrakeModel" "reference" "J", Cond.constantLong RX2 94 (20), Cond.fieldLink RX2 96 "GearBrakeModel" "changed" "I", Cond.fieldLink RX2 99 "GearBrakeModel" "rest" "I", Cond.constantLong RX2 63 (10), Cond.methodLink RX2 78 yX2_refer, Cond.instanceMethod yX2_refer, Cond.selects RX2 yX2_refer yX2_refer, Cond.code yX2_refer cX2_refer 8 none, Cond.constantLong RX2 57 (3), Cond.methodLink RX2 49 yX2_lostOnes, Cond.instanceMethod yX2_lostOnes, Cond.selects RX2 yX2_lostOnes yX2_lostOnes, Cond.code yX2_lostOnes cX2_lostOnes 3 (some .int), Cond.methodLink RX2 82 yX2_phaseOf, Cond.instanceMethod yX2_phaseOf, Cond.selects RX2 yX2_phaseOf yX2_phaseOf, Cond.code yX2_phaseOf cX2_phaseOf 5 (some .int), Cond.constantLong RX2 59 (80), Cond.constantLong RX2 61 (90)]
def wsL_law0_r8 : List Cond := [Cond.methodLink RX2 86 yX2_pressureOf, Cond.instanceMethod yX2_pressureOf, Cond.selects RX2 yX2_pressureOf yX2_pressureOf, Cond.code yX2_pressureOf cX2_pressureOf 6 (some .long), Cond.constantLong RX2 65 (5), Cond.methodLink RX2 102 yX2_turn, Cond.instanceMethod yX2_turn, Cond.selects RX2 yX2_turn yX2_turn, Cond.code yX2_turn cX2_turn 3 none, Cond.methodLink RL 39 yX1_phase, Cond.instanceMethod yX1_phase, Cond.selects RX1 yX1_phase yX1_phase, Cond.code yX1_phase cX1_phase 3 (some .int), Cond.methodLink RL 43 yX2_phase, Cond.instanceMethod yX2_phase, Cond.selects RX2 yX2_phase yX2_phase, Cond.code yX2_phase cX2_phase 2 (some .int), Cond.methodLink RL 44 yX1_pressure, Cond.instanceMethod yX1_pressure, Cond.selects RX1 yX1_pressure yX1_pressure, Cond.code yX1_pressure cX1_pressure 3 (some .long), Cond.constantLong RX1 70 (-1), Cond.methodLink RL 48 yX2_pressure, Cond.instanceMethod yX2_pressure]
def wsL_law0_r9 : List Cond := [Cond.selects RX2 yX2_pressure yX2_pressure, Cond.code yX2_pressure cX2_pressure 2 (some .long), Cond.constantLong RX2 106 (-1), Cond.methodLink RL 49 yX1_yaw, Cond.instanceMethod yX1_yaw, Cond.selects RX1 yX1_yaw yX1_yaw, Cond.code yX1_yaw cX1_yaw 7 (some .int), Cond.constantLong RX1 75 (-1000), Cond.methodLink RX1 77 Lib.MathLoose.abs_long.x, Cond.static Lib.MathLoose.abs_long.x, Cond.code Lib.MathLoose.abs_long.x Lib.MathLoose.abs_long.code 2 (some .long), Cond.methodLink RL 52 yX2_yaw, Cond.instanceMethod yX2_yaw, Cond.selects RX2 yX2_yaw yX2_yaw, Cond.code yX2_yaw cX2_yaw 8 (some .int), Cond.constantLong RX2 108 (-1000), Cond.methodLink RL 53 yL_slip, Cond.static yL_slip, Cond.codeWith yL_slip cL_slip 5 (some .int) [(0, 9, 12, 13)], Cond.classLink RL 13 "java/lang/ArithmeticException", Cond.methodLink RL 7 yX1_slip, Cond.instanceMethod yX1_slip, Cond.selects RX1 yX1_slip yX1_slip, Cond.code yX1_slip cX1_slip 8 (some .long)]
def wsL_law0_r10 : List Cond := [Cond.classLink RX1 89 "java/lang/ArithmeticException", Cond.initialized "java/lang/ArithmeticException", Cond.methodLink RX1 96 yX1_commonDivisor, Cond.static yX1_commonDivisor, Cond.code yX1_commonDivisor cX1_commonDivisor 11 (some .long), Cond.methodLink RL 56 yX2_slip, Cond.instanceMethod yX2_slip, Cond.selects RX2 yX2_slip yX2_slip, Cond.code yX2_slip cX2_slip 11 (some .long), Cond.methodLink RL 57 yX2_thrown, Cond.instanceMethod yX2_thrown, Cond.selects RX2 yX2_thrown yX2_thrown, Cond.code yX2_thrown cX2_thrown 1 (some .int), Cond.methodLink RL 61 yX1_gear, Cond.instanceMethod yX1_gear, Cond.selects RX1 yX1_gear yX1_gear, Cond.code yX1_gear cX1_gear 1 (some .int), Cond.methodLink RL 64 yX2_gear, Cond.instanceMethod yX2_gear, Cond.selects RX2 yX2_gear yX2_gear, Cond.code yX2_gear cX2_gear 1 (some .int), Cond.methodLink RL 65 yX1_lost, Cond.instanceMethod yX1_lost, Cond.selects RX1 yX1_lost yX1_lost]
def wsL_law0_r11 : List Cond := [Cond.code yX1_lost cX1_lost 4 (some .int), Cond.methodLink RL 69 yX2_lost, Cond.instanceMethod yX2_lost, Cond.selects RX2 yX2_lost yX2_lost, Cond.code yX2_lost cX2_lost 3 (some .int), Cond.methodLink RL 70 yX1_hold, Cond.instanceMethod yX1_hold, Cond.selects RX1 yX1_hold yX1_hold, Cond.code yX1_hold cX1_hold 2 (some .int), Cond.methodLink RL 74 yX2_hold, Cond.instanceMethod yX2_hold, Cond.selects RX2 yX2_hold yX2_hold, Cond.code yX2_hold cX2_hold 2 (some .int), Cond.methodLink RL 75 yX1_wish, Cond.instanceMethod yX1_wish, Cond.selects RX1 yX1_wish yX1_wish, Cond.code yX1_wish cX1_wish 6 (some .int), Cond.constantLong RX1 103 (6), Cond.methodLink RL 78 yX2_wish, Cond.instanceMethod yX2_wish, Cond.selects RX2 yX2_wish yX2_wish, Cond.code yX2_wish cX2_wish 2 (some .int), Cond.methodLink RL 79 yX1_reference, Cond.instanceMethod yX1_reference]
def wsL_law0_r12 : List Cond := [Cond.selects RX1 yX1_reference yX1_reference, Cond.code yX1_reference cX1_reference 1 (some .long), Cond.methodLink RL 83 yX2_reference, Cond.instanceMethod yX2_reference, Cond.selects RX2 yX2_reference yX2_reference, Cond.code yX2_reference cX2_reference 1 (some .long), Cond.methodLink RL 84 yX1_plant, Cond.instanceMethod yX1_plant, Cond.selects RX1 yX1_plant yX1_plant, Cond.code yX1_plant cX1_plant 3 (some .double), Cond.methodLink RL 88 yX2_plant, Cond.instanceMethod yX2_plant, Cond.selects RX2 yX2_plant yX2_plant, Cond.code yX2_plant cX2_plant 2 (some .double), Cond.methodLink RL 89 yX1_bound, Cond.instanceMethod yX1_bound, Cond.selects RX1 yX1_bound yX1_bound, Cond.code yX1_bound cX1_bound 5 (some .int), Cond.constantLong RX1 115 (200), Cond.methodLink RL 92 yX2_bound, Cond.instanceMethod yX2_bound, Cond.selects RX2 yX2_bound yX2_bound, Cond.code yX2_bound cX2_bound 4 (some .int), Cond.constantLong RX2 110 (200)]
def wsL_law0_r13 : List Cond := [Cond.methodLink RL 93 yX1_mode, Cond.instanceMethod yX1_mode, Cond.selects RX1 yX1_mode yX1_mode, Cond.code yX1_mode cX1_mode 1 (some .int), Cond.methodLink RL 96 yX2_mode, Cond.instanceMethod yX2_mode, Cond.selects RX2 yX2_mode yX2_mode, Cond.code yX2_mode cX2_mode 1 (some .int)]
def wsL_law0 : List Cond := (wsL_law0_r1 ++ (wsL_law0_r2 ++ (wsL_law0_r3 ++ (wsL_law0_r4 ++ (wsL_law0_r5 ++ (wsL_law0_r6 ++ (wsL_law0_r7 ++ (wsL_law0_r8 ++ (wsL_law0_r9 ++ (wsL_law0_r10 ++ (wsL_law0_r11 ++ (wsL_law0_r12 ++ wsL_law0_r13)))))))))))) ++ wsX10 ++ wsX20 ++ wsX00 ++ ([] : List Cond)
def wsL_law : List Cond := wsL_law0 ++ (vx_atS RX1 93 "java/lang/ArithmeticException" ["java/lang/RuntimeException", "java/lang/Exception"]).filter goodWord
set_option maxRecDepth 20000 in
theorem wsL_law_in0 : ∀ w ∈ wsL_law0, w ∈ lw_tbl := fun w h => (goodIn_p wsL_law0 [217, 31, 34, 40, 299, 90, 94, 98, 356, 360, 102, 109, 113, 117, 121, 125, 129, 135, 141, 146, 150, 157, 162, 365, 371, 375, 380, 386, 395, 166, 399, 170, 403, 175, 179, 408, 225, 294, 413, 352, 184, 417, 188, 421, 192, 425, 196, 429, 201, 433, 205, 437, 209, 441, 214, 446] (by decide +kernel) (by decide +kernel) w h).1
theorem wsL_law_x0 : ∀ w ∈ (vx_atS RX1 93 "java/lang/ArithmeticException" ["java/lang/RuntimeException", "java/lang/Exception"]).filter goodWord, w ∈ lw_tbl := by decide +kernel
theorem wsL_law_in : ∀ w ∈ wsL_law, w ∈ lw_tbl := fun w h => (List.mem_append.mp h).elim (fun h => wsL_law_in0 w h) (fun h => wsL_law_x0 w h)
theorem inlX0 : ∀ w ∈ wsX00, w ∈ wsL_law := fun _ h => List.mem_append_left _ (List.mem_append_left _ (List.mem_append_right _ h))
theorem inX0 : ∀ w ∈ wsX00, w ∈ lw_tbl := fun w h => wsL_law_in w (inlX0 w h)
theorem inlX1 : ∀ w ∈ wsX10, w ∈ wsL_law := fun _ h => List.mem_append_left _ (List.mem_append_left _ (List.mem_append_left _ (List.mem_append_left _ (List.mem_append_right _ h))))
theorem inX1 : ∀ w ∈ wsX10, w ∈ lw_tbl := fun w h => wsL_law_in w (inlX1 w h)
theorem inlX2 : ∀ w ∈ wsX20, w ∈ wsL_law := fun _ h => List.mem_append_left _ (List.mem_append_left _ (List.mem_append_left _ (List.mem_append_right _ h)))
theorem inX2 : ∀ w ∈ wsX20, w ∈ lw_tbl := fun w h => wsL_law_in w (inlX2 w h)
theorem inJ9 : ∀ w ∈ wsJ90, w ∈ lw_tbl := by decide +kernel
theorem inJ0 : ∀ w ∈ wsJ00, w ∈ lw_tbl := by decide +kernel
theorem dX0_init_0 : decode cX0_init 0 = .ok (.aload_n 0, 1) := by decide +kernel
theorem dX0_init_1 : decode cX0_init 1 = .ok (.invokespecial 3, 3) := by decide +kernel
theorem dX0_init_4 : decode cX0_init 4 = .ok (.aload_n 0, 1) := by decide +kernel
theorem dX0_init_5 : decode cX0_init 5 = .ok (.iconst 0, 1) := by decide +kernel
theorem dX0_init_6 : decode cX0_init 6 = .ok (.putfield 9, 3) := by decide +kernel
theorem dX0_init_9 : decode cX0_init 9 = .ok (.aload_n 0, 1) := by decide +kernel
theorem dX0_init_10 : decode cX0_init 10 = .ok (.ldc2_w 15, 3) := by decide +kernel
theorem dX0_init_13 : decode cX0_init 13 = .ok (.putfield 17, 3) := by decide +kernel
theorem dX0_init_16 : decode cX0_init 16 = .ok (.return_, 1) := by decide +kernel
set_option maxRecDepth 20000 in
theorem ggX0_brake_X0_nextPhase : GoodIn wsX0_brake wsX0_nextPhase := goodIn_r _ [11, 12, 13, 14, 15, 16, 1, 17, 32, 33, 34, 35, 36, 37] (by decide +kernel) (by decide +kernel)
set_option maxRecDepth 20000 in
theorem gX0_brake_X0_nextPhase : GoodIn wsX0_brake (wsV RX0 21 RX0 yX0_nextPhase wsX0_nextPhase) := goodIn_app (goodIn_of _ (by decide +kernel)) ggX0_brake_X0_nextPhase
set_option maxRecDepth 20000 in
theorem ggX0_brake_X0_wantedPressure : GoodIn wsX0_brake wsX0_wantedPressure := goodIn_r _ [21, 1, 17, 22, 3, 4, 5, 6, 23, 24, 25, 26, 32, 33, 34, 35, 36, 37] (by decide +kernel) (by decide +kernel)
set_option maxRecDepth 20000 in
theorem gX0_brake_X0_wantedPressure : GoodIn wsX0_brake (wsV RX0 25 RX0 yX0_wantedPressure wsX0_wantedPressure) := goodIn_app (goodIn_of _ (by decide +kernel)) ggX0_brake_X0_wantedPressure
set_option maxRecDepth 20000 in
theorem ggX0_brake_X0_press : GoodIn wsX0_brake wsX0_press := goodIn_r _ [30, 31, 24, 25, 5, 26, 17, 32, 33, 34, 35, 36, 37] (by decide +kernel) (by decide +kernel)
set_option maxRecDepth 20000 in
theorem gX0_brake_X0_press : GoodIn wsX0_brake (wsV RX0 37 RX0 yX0_press wsX0_press) := goodIn_app (goodIn_of _ (by decide +kernel)) ggX0_brake_X0_press
theorem dX0_brake_0 : decode cX0_brake 0 = .ok (.aload_n 0, 1) := by decide +kernel
theorem dX0_brake_1 : decode cX0_brake 1 = .ok (.aload_n 0, 1) := by decide +kernel
theorem dX0_brake_2 : decode cX0_brake 2 = .ok (.lload_n 1, 1) := by decide +kernel
theorem dX0_brake_3 : decode cX0_brake 3 = .ok (.lload_n 3, 1) := by decide +kernel
theorem dX0_brake_4 : decode cX0_brake 4 = .ok (.invokevirtual 21, 3) := by decide +kernel
theorem dX0_brake_7 : decode cX0_brake 7 = .ok (.putfield 9, 3) := by decide +kernel
theorem dX0_brake_10 : decode cX0_brake 10 = .ok (.aload_n 0, 1) := by decide +kernel
theorem dX0_brake_11 : decode cX0_brake 11 = .ok (.lload_n 1, 1) := by decide +kernel
theorem dX0_brake_12 : decode cX0_brake 12 = .ok (.invokevirtual 25, 3) := by decide +kernel
theorem dX0_brake_15 : decode cX0_brake 15 = .ok (.lstore 6, 2) := by decide +kernel
theorem dX0_brake_17 : decode cX0_brake 17 = .ok (.aload_n 0, 1) := by decide +kernel
theorem dX0_brake_18 : decode cX0_brake 18 = .ok (.iload 5, 2) := by decide +kernel
theorem dX0_brake_20 : decode cX0_brake 20 = .ok (.ifCond .eq 14, 3) := by decide +kernel
theorem dX0_brake_23 : decode cX0_brake 23 = .ok (.lload 6, 2) := by decide +kernel
theorem dX0_brake_25 : decode cX0_brake 25 = .ok (.ldc2_w 29, 3) := by decide +kernel
theorem dX0_brake_28 : decode cX0_brake 28 = .ok (.invokestatic 31, 3) := by decide +kernel
theorem dX0_brake_31 : decode cX0_brake 31 = .ok (.goto 5, 3) := by decide +kernel
theorem dX0_brake_34 : decode cX0_brake 34 = .ok (.lload 6, 2) := by decide +kernel
theorem dX0_brake_36 : decode cX0_brake 36 = .ok (.invokevirtual 37, 3) := by decide +kernel
theorem dX0_brake_39 : decode cX0_brake 39 = .ok (.return_, 1) := by decide +kernel
theorem dX0_nextPhase_0 : decode cX0_nextPhase 0 = .ok (.aload_n 0, 1) := by decide +kernel
theorem dX0_nextPhase_1 : decode cX0_nextPhase 1 = .ok (.getfield 41, 3) := by decide +kernel
theorem dX0_nextPhase_4 : decode cX0_nextPhase 4 = .ok (.ifCond .ne 15, 3) := by decide +kernel
theorem dX0_nextPhase_7 : decode cX0_nextPhase 7 = .ok (.lload_n 3, 1) := by decide +kernel
theorem dX0_nextPhase_8 : decode cX0_nextPhase 8 = .ok (.lconst 0, 1) := by decide +kernel
theorem dX0_nextPhase_9 : decode cX0_nextPhase 9 = .ok (.lcmp, 1) := by decide +kernel
theorem dX0_nextPhase_10 : decode cX0_nextPhase 10 = .ok (.ifCond .eq 9, 3) := by decide +kernel
theorem dX0_nextPhase_13 : decode cX0_nextPhase 13 = .ok (.lload_n 1, 1) := by decide +kernel
theorem dX0_nextPhase_14 : decode cX0_nextPhase 14 = .ok (.lconst 0, 1) := by decide +kernel
theorem dX0_nextPhase_15 : decode cX0_nextPhase 15 = .ok (.lcmp, 1) := by decide +kernel
theorem dX0_nextPhase_16 : decode cX0_nextPhase 16 = .ok (.ifCond .ne 5, 3) := by decide +kernel
theorem dX0_nextPhase_19 : decode cX0_nextPhase 19 = .ok (.iconst 0, 1) := by decide +kernel
theorem dX0_nextPhase_20 : decode cX0_nextPhase 20 = .ok (.ireturn, 1) := by decide +kernel
theorem dX0_nextPhase_21 : decode cX0_nextPhase 21 = .ok (.ldc2_w 15, 3) := by decide +kernel
theorem dX0_nextPhase_24 : decode cX0_nextPhase 24 = .ok (.aload_n 0, 1) := by decide +kernel
theorem dX0_nextPhase_25 : decode cX0_nextPhase 25 = .ok (.getfield 45, 3) := by decide +kernel
theorem dX0_nextPhase_28 : decode cX0_nextPhase 28 = .ok (.lmul, 1) := by decide +kernel
theorem dX0_nextPhase_29 : decode cX0_nextPhase 29 = .ok (.ldc2_w 48, 3) := by decide +kernel
theorem dX0_nextPhase_32 : decode cX0_nextPhase 32 = .ok (.lload_n 3, 1) := by decide +kernel
theorem dX0_nextPhase_33 : decode cX0_nextPhase 33 = .ok (.lmul, 1) := by decide +kernel
theorem dX0_nextPhase_34 : decode cX0_nextPhase 34 = .ok (.lcmp, 1) := by decide +kernel
theorem dX0_nextPhase_35 : decode cX0_nextPhase 35 = .ok (.ifCond .ge 5, 3) := by decide +kernel
theorem dX0_nextPhase_38 : decode cX0_nextPhase 38 = .ok (.iconst 2, 1) := by decide +kernel
theorem dX0_nextPhase_39 : decode cX0_nextPhase 39 = .ok (.ireturn, 1) := by decide +kernel
theorem dX0_nextPhase_40 : decode cX0_nextPhase 40 = .ok (.ldc2_w 15, 3) := by decide +kernel
theorem dX0_nextPhase_43 : decode cX0_nextPhase 43 = .ok (.aload_n 0, 1) := by decide +kernel
theorem dX0_nextPhase_44 : decode cX0_nextPhase 44 = .ok (.getfield 45, 3) := by decide +kernel
theorem dX0_nextPhase_47 : decode cX0_nextPhase 47 = .ok (.lmul, 1) := by decide +kernel
theorem dX0_nextPhase_48 : decode cX0_nextPhase 48 = .ok (.ldc2_w 50, 3) := by decide +kernel
theorem dX0_nextPhase_51 : decode cX0_nextPhase 51 = .ok (.lload_n 3, 1) := by decide +kernel
theorem dX0_nextPhase_52 : decode cX0_nextPhase 52 = .ok (.lmul, 1) := by decide +kernel
theorem dX0_nextPhase_53 : decode cX0_nextPhase 53 = .ok (.lcmp, 1) := by decide +kernel
theorem dX0_nextPhase_54 : decode cX0_nextPhase 54 = .ok (.ifCond .ge 5, 3) := by decide +kernel
theorem dX0_nextPhase_57 : decode cX0_nextPhase 57 = .ok (.iconst 1, 1) := by decide +kernel
theorem dX0_nextPhase_58 : decode cX0_nextPhase 58 = .ok (.ireturn, 1) := by decide +kernel
theorem dX0_nextPhase_59 : decode cX0_nextPhase 59 = .ok (.aload_n 0, 1) := by decide +kernel
theorem dX0_nextPhase_60 : decode cX0_nextPhase 60 = .ok (.getfield 9, 3) := by decide +kernel
theorem dX0_nextPhase_63 : decode cX0_nextPhase 63 = .ok (.iconst 1, 1) := by decide +kernel
theorem dX0_nextPhase_64 : decode cX0_nextPhase 64 = .ok (.if_icmp .eq 28, 3) := by decide +kernel
theorem dX0_nextPhase_67 : decode cX0_nextPhase 67 = .ok (.aload_n 0, 1) := by decide +kernel
theorem dX0_nextPhase_68 : decode cX0_nextPhase 68 = .ok (.getfield 9, 3) := by decide +kernel
theorem dX0_nextPhase_71 : decode cX0_nextPhase 71 = .ok (.iconst 2, 1) := by decide +kernel
theorem dX0_nextPhase_72 : decode cX0_nextPhase 72 = .ok (.if_icmp .eq 20, 3) := by decide +kernel
theorem dX0_nextPhase_75 : decode cX0_nextPhase 75 = .ok (.aload_n 0, 1) := by decide +kernel
theorem dX0_nextPhase_76 : decode cX0_nextPhase 76 = .ok (.getfield 9, 3) := by decide +kernel
theorem dX0_nextPhase_79 : decode cX0_nextPhase 79 = .ok (.iconst 3, 1) := by decide +kernel
theorem dX0_nextPhase_80 : decode cX0_nextPhase 80 = .ok (.if_icmp .ne 16, 3) := by decide +kernel
theorem dX0_nextPhase_83 : decode cX0_nextPhase 83 = .ok (.aload_n 0, 1) := by decide +kernel
theorem dX0_nextPhase_84 : decode cX0_nextPhase 84 = .ok (.getfield 52, 3) := by decide +kernel
theorem dX0_nextPhase_87 : decode cX0_nextPhase 87 = .ok (.lload_n 1, 1) := by decide +kernel
theorem dX0_nextPhase_88 : decode cX0_nextPhase 88 = .ok (.lcmp, 1) := by decide +kernel
theorem dX0_nextPhase_89 : decode cX0_nextPhase 89 = .ok (.ifCond .ge 7, 3) := by decide +kernel
theorem dX0_nextPhase_92 : decode cX0_nextPhase 92 = .ok (.iconst 1, 1) := by decide +kernel
theorem dX0_nextPhase_93 : decode cX0_nextPhase 93 = .ok (.goto 4, 3) := by decide +kernel
theorem dX0_nextPhase_96 : decode cX0_nextPhase 96 = .ok (.iconst 0, 1) := by decide +kernel
theorem dX0_nextPhase_97 : decode cX0_nextPhase 97 = .ok (.istore 5, 2) := by decide +kernel
theorem dX0_nextPhase_99 : decode cX0_nextPhase 99 = .ok (.iload 5, 2) := by decide +kernel
theorem dX0_nextPhase_101 : decode cX0_nextPhase 101 = .ok (.ifCond .eq 7, 3) := by decide +kernel
theorem dX0_nextPhase_104 : decode cX0_nextPhase 104 = .ok (.iconst 3, 1) := by decide +kernel
theorem dX0_nextPhase_105 : decode cX0_nextPhase 105 = .ok (.goto 4, 3) := by decide +kernel
theorem dX0_nextPhase_108 : decode cX0_nextPhase 108 = .ok (.iconst 0, 1) := by decide +kernel
theorem dX0_nextPhase_109 : decode cX0_nextPhase 109 = .ok (.ireturn, 1) := by decide +kernel
theorem dX0_wantedPressure_0 : decode cX0_wantedPressure 0 = .ok (.aload_n 0, 1) := by decide +kernel
theorem dX0_wantedPressure_1 : decode cX0_wantedPressure 1 = .ok (.getfield 9, 3) := by decide +kernel
theorem dX0_wantedPressure_4 : decode cX0_wantedPressure 4 = .ok (.tableswitch 59 1 3 #[28, 33, 46], 28) := by decide +kernel
theorem dX0_wantedPressure_32 : decode cX0_wantedPressure 32 = .ok (.aload_n 0, 1) := by decide +kernel
theorem dX0_wantedPressure_33 : decode cX0_wantedPressure 33 = .ok (.getfield 52, 3) := by decide +kernel
theorem dX0_wantedPressure_36 : decode cX0_wantedPressure 36 = .ok (.lreturn, 1) := by decide +kernel
theorem dX0_wantedPressure_37 : decode cX0_wantedPressure 37 = .ok (.aload_n 0, 1) := by decide +kernel
theorem dX0_wantedPressure_38 : decode cX0_wantedPressure 38 = .ok (.getfield 52, 3) := by decide +kernel
theorem dX0_wantedPressure_41 : decode cX0_wantedPressure 41 = .ok (.ldc2_w 55, 3) := by decide +kernel
theorem dX0_wantedPressure_44 : decode cX0_wantedPressure 44 = .ok (.lsub, 1) := by decide +kernel
theorem dX0_wantedPressure_45 : decode cX0_wantedPressure 45 = .ok (.lconst 0, 1) := by decide +kernel
theorem dX0_wantedPressure_46 : decode cX0_wantedPressure 46 = .ok (.invokestatic 31, 3) := by decide +kernel
theorem dX0_wantedPressure_49 : decode cX0_wantedPressure 49 = .ok (.lreturn, 1) := by decide +kernel
theorem dX0_wantedPressure_50 : decode cX0_wantedPressure 50 = .ok (.aload_n 0, 1) := by decide +kernel
theorem dX0_wantedPressure_51 : decode cX0_wantedPressure 51 = .ok (.getfield 52, 3) := by decide +kernel
theorem dX0_wantedPressure_54 : decode cX0_wantedPressure 54 = .ok (.ldc2_w 57, 3) := by decide +kernel
theorem dX0_wantedPressure_57 : decode cX0_wantedPressure 57 = .ok (.ladd, 1) := by decide +kernel
theorem dX0_wantedPressure_58 : decode cX0_wantedPressure 58 = .ok (.lload_n 1, 1) := by decide +kernel
theorem dX0_wantedPressure_59 : decode cX0_wantedPressure 59 = .ok (.invokestatic 59, 3) := by decide +kernel
theorem dX0_wantedPressure_62 : decode cX0_wantedPressure 62 = .ok (.lreturn, 1) := by decide +kernel
theorem dX0_wantedPressure_63 : decode cX0_wantedPressure 63 = .ok (.lload_n 1, 1) := by decide +kernel
theorem dX0_wantedPressure_64 : decode cX0_wantedPressure 64 = .ok (.lreturn, 1) := by decide +kernel
theorem dX0_press_0 : decode cX0_press 0 = .ok (.aload_n 0, 1) := by decide +kernel
theorem dX0_press_1 : decode cX0_press 1 = .ok (.lload_n 1, 1) := by decide +kernel
theorem dX0_press_2 : decode cX0_press 2 = .ok (.aload_n 0, 1) := by decide +kernel
theorem dX0_press_3 : decode cX0_press 3 = .ok (.getfield 17, 3) := by decide +kernel
theorem dX0_press_6 : decode cX0_press 6 = .ok (.invokestatic 59, 3) := by decide +kernel
theorem dX0_press_9 : decode cX0_press 9 = .ok (.putfield 52, 3) := by decide +kernel
theorem dX0_press_12 : decode cX0_press 12 = .ok (.return_, 1) := by decide +kernel
theorem dX0_followModel_0 : decode cX0_followModel 0 = .ok (.aload_n 0, 1) := by decide +kernel
theorem dX0_followModel_1 : decode cX0_followModel 1 = .ok (.getfield 62, 3) := by decide +kernel
theorem dX0_followModel_4 : decode cX0_followModel 4 = .ok (.ldc2_w 66, 3) := by decide +kernel
theorem dX0_followModel_7 : decode cX0_followModel 7 = .ok (.aload_n 0, 1) := by decide +kernel
theorem dX0_followModel_8 : decode cX0_followModel 8 = .ok (.getfield 45, 3) := by decide +kernel
theorem dX0_followModel_11 : decode cX0_followModel 11 = .ok (.l2d, 1) := by decide +kernel
theorem dX0_followModel_12 : decode cX0_followModel 12 = .ok (.aload_n 0, 1) := by decide +kernel
theorem dX0_followModel_13 : decode cX0_followModel 13 = .ok (.getfield 62, 3) := by decide +kernel
theorem dX0_followModel_16 : decode cX0_followModel 16 = .ok (.dsub, 1) := by decide +kernel
theorem dX0_followModel_17 : decode cX0_followModel 17 = .ok (.dmul, 1) := by decide +kernel
theorem dX0_followModel_18 : decode cX0_followModel 18 = .ok (.dadd, 1) := by decide +kernel
theorem dX0_followModel_19 : decode cX0_followModel 19 = .ok (.dstore_n 1, 1) := by decide +kernel
theorem dX0_followModel_20 : decode cX0_followModel 20 = .ok (.dload_n 1, 1) := by decide +kernel
theorem dX0_followModel_21 : decode cX0_followModel 21 = .ok (.ldc2_w 68, 3) := by decide +kernel
theorem dX0_followModel_24 : decode cX0_followModel 24 = .ok (.aload_n 0, 1) := by decide +kernel
theorem dX0_followModel_25 : decode cX0_followModel 25 = .ok (.getfield 52, 3) := by decide +kernel
theorem dX0_followModel_28 : decode cX0_followModel 28 = .ok (.l2d, 1) := by decide +kernel
theorem dX0_followModel_29 : decode cX0_followModel 29 = .ok (.dmul, 1) := by decide +kernel
theorem dX0_followModel_30 : decode cX0_followModel 30 = .ok (.dsub, 1) := by decide +kernel
theorem dX0_followModel_31 : decode cX0_followModel 31 = .ok (.dstore_n 3, 1) := by decide +kernel
theorem dX0_followModel_32 : decode cX0_followModel 32 = .ok (.aload_n 0, 1) := by decide +kernel
theorem dX0_followModel_33 : decode cX0_followModel 33 = .ok (.dload_n 3, 1) := by decide +kernel
theorem dX0_followModel_34 : decode cX0_followModel 34 = .ok (.dconst 0, 1) := by decide +kernel
theorem dX0_followModel_35 : decode cX0_followModel 35 = .ok (.dcmp .g, 1) := by decide +kernel
theorem dX0_followModel_36 : decode cX0_followModel 36 = .ok (.ifCond .ge 7, 3) := by decide +kernel
theorem dX0_followModel_39 : decode cX0_followModel 39 = .ok (.dconst 0, 1) := by decide +kernel
theorem dX0_followModel_40 : decode cX0_followModel 40 = .ok (.goto 4, 3) := by decide +kernel
theorem dX0_followModel_43 : decode cX0_followModel 43 = .ok (.dload_n 3, 1) := by decide +kernel
theorem dX0_followModel_44 : decode cX0_followModel 44 = .ok (.putfield 62, 3) := by decide +kernel
theorem dX0_followModel_47 : decode cX0_followModel 47 = .ok (.return_, 1) := by decide +kernel
set_option maxRecDepth 20000 in
theorem ggX1_init_X0_init : GoodIn wsX1_init wsX0_init := goodIn_r _ [10, 11, 2, 3, 12, 13, 14, 21, 22, 23, 24, 25, 26] (by decide +kernel) (by decide +kernel)
set_option maxRecDepth 20000 in
theorem gX1_init_X0_init_n15 : GoodIn wsX1_init (wsX0_init) := ggX1_init_X0_init
theorem dX1_init_0 : decode cX1_init 0 = .ok (.aload_n 0, 1) := by decide +kernel
theorem dX1_init_1 : decode cX1_init 1 = .ok (.invokespecial 1, 3) := by decide +kernel
theorem dX1_init_4 : decode cX1_init 4 = .ok (.iload_n 1, 1) := by decide +kernel
theorem dX1_init_5 : decode cX1_init 5 = .ok (.iconst 2, 1) := by decide +kernel
theorem dX1_init_6 : decode cX1_init 6 = .ok (.if_icmp .lt 13, 3) := by decide +kernel
theorem dX1_init_9 : decode cX1_init 9 = .ok (.iload_n 1, 1) := by decide +kernel
theorem dX1_init_10 : decode cX1_init 10 = .ok (.bipush 8, 2) := by decide +kernel
theorem dX1_init_12 : decode cX1_init 12 = .ok (.if_icmp .gt 7, 3) := by decide +kernel
theorem dX1_init_15 : decode cX1_init 15 = .ok (.iconst 1, 1) := by decide +kernel
theorem dX1_init_16 : decode cX1_init 16 = .ok (.goto 4, 3) := by decide +kernel
theorem dX1_init_19 : decode cX1_init 19 = .ok (.iconst 0, 1) := by decide +kernel
theorem dX1_init_20 : decode cX1_init 20 = .ok (.istore_n 2, 1) := by decide +kernel
theorem dX1_init_21 : decode cX1_init 21 = .ok (.aload_n 0, 1) := by decide +kernel
theorem dX1_init_22 : decode cX1_init 22 = .ok (.iload_n 2, 1) := by decide +kernel
theorem dX1_init_23 : decode cX1_init 23 = .ok (.ifCond .eq 7, 3) := by decide +kernel
theorem dX1_init_26 : decode cX1_init 26 = .ok (.iload_n 1, 1) := by decide +kernel
theorem dX1_init_27 : decode cX1_init 27 = .ok (.goto 4, 3) := by decide +kernel
theorem dX1_init_30 : decode cX1_init 30 = .ok (.iconst 4, 1) := by decide +kernel
theorem dX1_init_31 : decode cX1_init 31 = .ok (.anewarray 9, 3) := by decide +kernel
theorem dX1_init_34 : decode cX1_init 34 = .ok (.putfield 11, 3) := by decide +kernel
theorem dX1_init_37 : decode cX1_init 37 = .ok (.iconst 0, 1) := by decide +kernel
theorem dX1_init_38 : decode cX1_init 38 = .ok (.istore_n 3, 1) := by decide +kernel
theorem dX1_init_39 : decode cX1_init 39 = .ok (.iload_n 3, 1) := by decide +kernel
theorem dX1_init_40 : decode cX1_init 40 = .ok (.aload_n 0, 1) := by decide +kernel
theorem dX1_init_41 : decode cX1_init 41 = .ok (.getfield 11, 3) := by decide +kernel
theorem dX1_init_44 : decode cX1_init 44 = .ok (.arraylength, 1) := by decide +kernel
theorem dX1_init_45 : decode cX1_init 45 = .ok (.if_icmp .ge 22, 3) := by decide +kernel
theorem dX1_init_48 : decode cX1_init 48 = .ok (.aload_n 0, 1) := by decide +kernel
theorem dX1_init_49 : decode cX1_init 49 = .ok (.getfield 11, 3) := by decide +kernel
theorem dX1_init_52 : decode cX1_init 52 = .ok (.iload_n 3, 1) := by decide +kernel
theorem dX1_init_53 : decode cX1_init 53 = .ok (.new 9, 3) := by decide +kernel
theorem dX1_init_56 : decode cX1_init 56 = .ok (.dup, 1) := by decide +kernel
theorem dX1_init_57 : decode cX1_init 57 = .ok (.invokespecial 15, 3) := by decide +kernel
theorem dX1_init_60 : decode cX1_init 60 = .ok (.aastore, 1) := by decide +kernel
theorem dX1_init_61 : decode cX1_init 61 = .ok (.iinc 3 1, 3) := by decide +kernel
theorem dX1_init_64 : decode cX1_init 64 = .ok (.goto (-25), 3) := by decide +kernel
theorem dX1_init_67 : decode cX1_init 67 = .ok (.aload_n 0, 1) := by decide +kernel
theorem dX1_init_68 : decode cX1_init 68 = .ok (.iconst 1, 1) := by decide +kernel
theorem dX1_init_69 : decode cX1_init 69 = .ok (.putfield 16, 3) := by decide +kernel
theorem dX1_init_72 : decode cX1_init 72 = .ok (.return_, 1) := by decide +kernel
set_option maxRecDepth 20000 in
theorem ggX1_wheel_X1_find : GoodIn wsX1_wheel wsX1_find := goodIn_r _ [6, 7, 17, 18, 19, 20, 21, 22] (by decide +kernel) (by decide +kernel)
set_option maxRecDepth 20000 in
theorem gX1_wheel_X1_find : GoodIn wsX1_wheel (wsV RX1 20 RX1 yX1_find wsX1_find) := goodIn_app (goodIn_of _ (by decide +kernel)) ggX1_wheel_X1_find
set_option maxRecDepth 20000 in
theorem ggX1_wheel_X1_isWithin : GoodIn wsX1_wheel wsX1_isWithin := goodIn_r _ [10] (by decide +kernel) (by decide +kernel)
set_option maxRecDepth 20000 in
theorem gX1_wheel_X1_isWithin : GoodIn wsX1_wheel (va_wsS RX1 26 yX1_isWithin wsX1_isWithin) := goodIn_app (goodIn_of _ (by decide +kernel)) ggX1_wheel_X1_isWithin
theorem dX1_wheel_0 : decode cX1_wheel 0 = .ok (.aload_n 0, 1) := by decide +kernel
theorem dX1_wheel_1 : decode cX1_wheel 1 = .ok (.iload_n 1, 1) := by decide +kernel
theorem dX1_wheel_2 : decode cX1_wheel 2 = .ok (.invokevirtual 20, 3) := by decide +kernel
theorem dX1_wheel_5 : decode cX1_wheel 5 = .ok (.astore 4, 2) := by decide +kernel
theorem dX1_wheel_7 : decode cX1_wheel 7 = .ok (.aload 4, 2) := by decide +kernel
theorem dX1_wheel_9 : decode cX1_wheel 9 = .ok (.ifnonnull 5, 3) := by decide +kernel
theorem dX1_wheel_12 : decode cX1_wheel 12 = .ok (.iconst (-1), 1) := by decide +kernel
theorem dX1_wheel_13 : decode cX1_wheel 13 = .ok (.ireturn, 1) := by decide +kernel
theorem dX1_wheel_14 : decode cX1_wheel 14 = .ok (.lload_n 2, 1) := by decide +kernel
theorem dX1_wheel_15 : decode cX1_wheel 15 = .ok (.lconst 0, 1) := by decide +kernel
theorem dX1_wheel_16 : decode cX1_wheel 16 = .ok (.ldc2_w 24, 3) := by decide +kernel
theorem dX1_wheel_19 : decode cX1_wheel 19 = .ok (.invokestatic 26, 3) := by decide +kernel
theorem dX1_wheel_22 : decode cX1_wheel 22 = .ok (.ifCond .ne 6, 3) := by decide +kernel
theorem dX1_wheel_25 : decode cX1_wheel 25 = .ok (.bipush (-2), 2) := by decide +kernel
theorem dX1_wheel_27 : decode cX1_wheel 27 = .ok (.ireturn, 1) := by decide +kernel
theorem dX1_wheel_28 : decode cX1_wheel 28 = .ok (.aload 4, 2) := by decide +kernel
theorem dX1_wheel_30 : decode cX1_wheel 30 = .ok (.lload_n 2, 1) := by decide +kernel
theorem dX1_wheel_31 : decode cX1_wheel 31 = .ok (.putfield 30, 3) := by decide +kernel
theorem dX1_wheel_34 : decode cX1_wheel 34 = .ok (.iconst 1, 1) := by decide +kernel
theorem dX1_wheel_35 : decode cX1_wheel 35 = .ok (.ireturn, 1) := by decide +kernel
set_option maxRecDepth 20000 in
theorem ggX1_step_X1_isWithin : GoodIn wsX1_step wsX1_isWithin := goodIn_r _ [13] (by decide +kernel) (by decide +kernel)
set_option maxRecDepth 20000 in
theorem gX1_step_X1_isWithin : GoodIn wsX1_step (va_wsS RX1 26 yX1_isWithin wsX1_isWithin) := goodIn_app (goodIn_of _ (by decide +kernel)) ggX1_step_X1_isWithin
set_option maxRecDepth 20000 in
theorem ggX1_step_X1_nextReference : GoodIn wsX1_step wsX1_nextReference := goodIn_r _ [17, 5, 18, 19, 20, 21, 22, 6, 23, 24, 25, 12, 26, 27, 28, 29, 30, 78, 79, 80, 81, 82, 83, 84, 85, 86, 87, 88, 89] (by decide +kernel) (by decide +kernel)
set_option maxRecDepth 20000 in
theorem gX1_step_X1_nextReference : GoodIn wsX1_step (wsV RX1 43 RX1 yX1_nextReference wsX1_nextReference) := goodIn_app (goodIn_of _ (by decide +kernel)) ggX1_step_X1_nextReference
set_option maxRecDepth 20000 in
theorem ggX1_step_X0_brake : GoodIn wsX1_step wsX0_brake := goodIn_r _ [34, 35, 36, 37, 20, 21, 22, 38, 39, 40, 32, 41, 42, 43, 44, 45, 46, 47, 48, 49, 50, 51, 52, 53, 54, 55, 56, 57, 58, 59, 60, 61, 84, 85, 86, 87, 88, 89] (by decide +kernel) (by decide +kernel)
set_option maxRecDepth 20000 in
theorem gX1_step_X0_brake_n54 : GoodIn wsX1_step (wsX0_brake) := ggX1_step_X0_brake
set_option maxRecDepth 20000 in
theorem ggX1_step_X0_followModel : GoodIn wsX1_step wsX0_followModel := goodIn_r _ [64, 65, 66, 44, 67, 47, 84, 85, 86, 87, 88, 89] (by decide +kernel) (by decide +kernel)
set_option maxRecDepth 20000 in
theorem gX1_step_X0_followModel_n58 : GoodIn wsX1_step (wsX0_followModel) := ggX1_step_X0_followModel
set_option maxRecDepth 20000 in
theorem ggX1_step_X1_shift : GoodIn wsX1_step wsX1_shift := goodIn_r _ [71, 4, 72, 9, 5, 8, 73, 19, 20, 21, 22, 74, 75, 76, 12, 77, 78, 79, 80, 81, 82, 83] (by decide +kernel) (by decide +kernel)
set_option maxRecDepth 20000 in
theorem gX1_step_X1_shift : GoodIn wsX1_step (wsV RX1 63 RX1 yX1_shift wsX1_shift) := goodIn_app (goodIn_of _ (by decide +kernel)) ggX1_step_X1_shift
theorem dX1_step_0 : decode cX1_step 0 = .ok (.lload_n 1, 1) := by decide +kernel
theorem dX1_step_1 : decode cX1_step 1 = .ok (.lconst 0, 1) := by decide +kernel
theorem dX1_step_2 : decode cX1_step 2 = .ok (.ldc2_w 34, 3) := by decide +kernel
theorem dX1_step_5 : decode cX1_step 5 = .ok (.invokestatic 26, 3) := by decide +kernel
theorem dX1_step_8 : decode cX1_step 8 = .ok (.ifCond .eq 16, 3) := by decide +kernel
theorem dX1_step_11 : decode cX1_step 11 = .ok (.lload_n 3, 1) := by decide +kernel
theorem dX1_step_12 : decode cX1_step 12 = .ok (.ldc2_w 36, 3) := by decide +kernel
theorem dX1_step_15 : decode cX1_step 15 = .ok (.ldc2_w 38, 3) := by decide +kernel
theorem dX1_step_18 : decode cX1_step 18 = .ok (.invokestatic 26, 3) := by decide +kernel
theorem dX1_step_21 : decode cX1_step 21 = .ok (.ifCond .ne 6, 3) := by decide +kernel
theorem dX1_step_24 : decode cX1_step 24 = .ok (.bipush (-2), 2) := by decide +kernel
theorem dX1_step_26 : decode cX1_step 26 = .ok (.ireturn, 1) := by decide +kernel
theorem dX1_step_27 : decode cX1_step 27 = .ok (.aload_n 0, 1) := by decide +kernel
theorem dX1_step_28 : decode cX1_step 28 = .ok (.dup, 1) := by decide +kernel
theorem dX1_step_29 : decode cX1_step 29 = .ok (.getfield 40, 3) := by decide +kernel
theorem dX1_step_32 : decode cX1_step 32 = .ok (.iconst 1, 1) := by decide +kernel
theorem dX1_step_33 : decode cX1_step 33 = .ok (.iadd, 1) := by decide +kernel
theorem dX1_step_34 : decode cX1_step 34 = .ok (.putfield 40, 3) := by decide +kernel
theorem dX1_step_37 : decode cX1_step 37 = .ok (.aload_n 0, 1) := by decide +kernel
theorem dX1_step_38 : decode cX1_step 38 = .ok (.aload_n 0, 1) := by decide +kernel
theorem dX1_step_39 : decode cX1_step 39 = .ok (.lload_n 1, 1) := by decide +kernel
theorem dX1_step_40 : decode cX1_step 40 = .ok (.invokevirtual 43, 3) := by decide +kernel
theorem dX1_step_43 : decode cX1_step 43 = .ok (.putfield 47, 3) := by decide +kernel
theorem dX1_step_46 : decode cX1_step 46 = .ok (.iconst 0, 1) := by decide +kernel
theorem dX1_step_47 : decode cX1_step 47 = .ok (.istore 5, 2) := by decide +kernel
theorem dX1_step_49 : decode cX1_step 49 = .ok (.iload 5, 2) := by decide +kernel
theorem dX1_step_51 : decode cX1_step 51 = .ok (.aload_n 0, 1) := by decide +kernel
theorem dX1_step_52 : decode cX1_step 52 = .ok (.getfield 11, 3) := by decide +kernel
theorem dX1_step_55 : decode cX1_step 55 = .ok (.arraylength, 1) := by decide +kernel
theorem dX1_step_56 : decode cX1_step 56 = .ok (.if_icmp .ge 38, 3) := by decide +kernel
theorem dX1_step_59 : decode cX1_step 59 = .ok (.aload_n 0, 1) := by decide +kernel
theorem dX1_step_60 : decode cX1_step 60 = .ok (.getfield 11, 3) := by decide +kernel
theorem dX1_step_63 : decode cX1_step 63 = .ok (.iload 5, 2) := by decide +kernel
theorem dX1_step_65 : decode cX1_step 65 = .ok (.aaload, 1) := by decide +kernel
theorem dX1_step_66 : decode cX1_step 66 = .ok (.lload_n 1, 1) := by decide +kernel
theorem dX1_step_67 : decode cX1_step 67 = .ok (.aload_n 0, 1) := by decide +kernel
theorem dX1_step_68 : decode cX1_step 68 = .ok (.getfield 47, 3) := by decide +kernel
theorem dX1_step_71 : decode cX1_step 71 = .ok (.aload_n 0, 1) := by decide +kernel
theorem dX1_step_72 : decode cX1_step 72 = .ok (.getfield 50, 3) := by decide +kernel
theorem dX1_step_75 : decode cX1_step 75 = .ok (.invokevirtual 54, 3) := by decide +kernel
theorem dX1_step_78 : decode cX1_step 78 = .ok (.aload_n 0, 1) := by decide +kernel
theorem dX1_step_79 : decode cX1_step 79 = .ok (.getfield 11, 3) := by decide +kernel
theorem dX1_step_82 : decode cX1_step 82 = .ok (.iload 5, 2) := by decide +kernel
theorem dX1_step_84 : decode cX1_step 84 = .ok (.aaload, 1) := by decide +kernel
theorem dX1_step_85 : decode cX1_step 85 = .ok (.invokevirtual 58, 3) := by decide +kernel
theorem dX1_step_88 : decode cX1_step 88 = .ok (.iinc 5 1, 3) := by decide +kernel
theorem dX1_step_91 : decode cX1_step 91 = .ok (.goto (-42), 3) := by decide +kernel
theorem dX1_step_94 : decode cX1_step 94 = .ok (.aload_n 0, 1) := by decide +kernel
theorem dX1_step_95 : decode cX1_step 95 = .ok (.getfield 47, 3) := by decide +kernel
theorem dX1_step_98 : decode cX1_step 98 = .ok (.ldc2_w 61, 3) := by decide +kernel
theorem dX1_step_101 : decode cX1_step 101 = .ok (.lcmp, 1) := by decide +kernel
theorem dX1_step_102 : decode cX1_step 102 = .ok (.ifCond .le 8, 3) := by decide +kernel
theorem dX1_step_105 : decode cX1_step 105 = .ok (.aload_n 0, 1) := by decide +kernel
theorem dX1_step_106 : decode cX1_step 106 = .ok (.iconst 0, 1) := by decide +kernel
theorem dX1_step_107 : decode cX1_step 107 = .ok (.putfield 50, 3) := by decide +kernel
theorem dX1_step_110 : decode cX1_step 110 = .ok (.aload_n 0, 1) := by decide +kernel
theorem dX1_step_111 : decode cX1_step 111 = .ok (.lload_n 3, 1) := by decide +kernel
theorem dX1_step_112 : decode cX1_step 112 = .ok (.invokevirtual 63, 3) := by decide +kernel
theorem dX1_step_115 : decode cX1_step 115 = .ok (.aload_n 0, 1) := by decide +kernel
theorem dX1_step_116 : decode cX1_step 116 = .ok (.getfield 16, 3) := by decide +kernel
theorem dX1_step_119 : decode cX1_step 119 = .ok (.ireturn, 1) := by decide +kernel
set_option maxRecDepth 20000 in
theorem ggX1_phase_X1_find : GoodIn wsX1_phase wsX1_find := goodIn_r _ [5, 6, 13, 14, 15, 16, 17, 18] (by decide +kernel) (by decide +kernel)
set_option maxRecDepth 20000 in
theorem gX1_phase_X1_find : GoodIn wsX1_phase (wsV RX1 20 RX1 yX1_find wsX1_find) := goodIn_app (goodIn_of _ (by decide +kernel)) ggX1_phase_X1_find
theorem dX1_phase_0 : decode cX1_phase 0 = .ok (.aload_n 0, 1) := by decide +kernel
theorem dX1_phase_1 : decode cX1_phase 1 = .ok (.iload_n 1, 1) := by decide +kernel
theorem dX1_phase_2 : decode cX1_phase 2 = .ok (.invokevirtual 20, 3) := by decide +kernel
theorem dX1_phase_5 : decode cX1_phase 5 = .ok (.astore_n 2, 1) := by decide +kernel
theorem dX1_phase_6 : decode cX1_phase 6 = .ok (.aload_n 2, 1) := by decide +kernel
theorem dX1_phase_7 : decode cX1_phase 7 = .ok (.ifnonnull 7, 3) := by decide +kernel
theorem dX1_phase_10 : decode cX1_phase 10 = .ok (.iconst (-1), 1) := by decide +kernel
theorem dX1_phase_11 : decode cX1_phase 11 = .ok (.goto 7, 3) := by decide +kernel
theorem dX1_phase_14 : decode cX1_phase 14 = .ok (.aload_n 2, 1) := by decide +kernel
theorem dX1_phase_15 : decode cX1_phase 15 = .ok (.getfield 67, 3) := by decide +kernel
theorem dX1_phase_18 : decode cX1_phase 18 = .ok (.ireturn, 1) := by decide +kernel
set_option maxRecDepth 20000 in
theorem ggX1_pressure_X1_find : GoodIn wsX1_pressure wsX1_find := goodIn_r _ [6, 7, 14, 15, 16, 17, 18, 19] (by decide +kernel) (by decide +kernel)
set_option maxRecDepth 20000 in
theorem gX1_pressure_X1_find : GoodIn wsX1_pressure (wsV RX1 20 RX1 yX1_find wsX1_find) := goodIn_app (goodIn_of _ (by decide +kernel)) ggX1_pressure_X1_find
theorem dX1_pressure_0 : decode cX1_pressure 0 = .ok (.aload_n 0, 1) := by decide +kernel
theorem dX1_pressure_1 : decode cX1_pressure 1 = .ok (.iload_n 1, 1) := by decide +kernel
theorem dX1_pressure_2 : decode cX1_pressure 2 = .ok (.invokevirtual 20, 3) := by decide +kernel
theorem dX1_pressure_5 : decode cX1_pressure 5 = .ok (.astore_n 2, 1) := by decide +kernel
theorem dX1_pressure_6 : decode cX1_pressure 6 = .ok (.aload_n 2, 1) := by decide +kernel
theorem dX1_pressure_7 : decode cX1_pressure 7 = .ok (.ifnonnull 9, 3) := by decide +kernel
theorem dX1_pressure_10 : decode cX1_pressure 10 = .ok (.ldc2_w 70, 3) := by decide +kernel
theorem dX1_pressure_13 : decode cX1_pressure 13 = .ok (.goto 7, 3) := by decide +kernel
theorem dX1_pressure_16 : decode cX1_pressure 16 = .ok (.aload_n 2, 1) := by decide +kernel
theorem dX1_pressure_17 : decode cX1_pressure 17 = .ok (.getfield 72, 3) := by decide +kernel
theorem dX1_pressure_20 : decode cX1_pressure 20 = .ok (.lreturn, 1) := by decide +kernel
set_option maxRecDepth 20000 in
theorem ggX1_yaw_X1_isWithin : GoodIn wsX1_yaw wsX1_isWithin := goodIn_r _ [11] (by decide +kernel) (by decide +kernel)
set_option maxRecDepth 20000 in
theorem gX1_yaw_X1_isWithin : GoodIn wsX1_yaw (va_wsS RX1 26 yX1_isWithin wsX1_isWithin) := goodIn_app (goodIn_of _ (by decide +kernel)) ggX1_yaw_X1_isWithin
set_option maxRecDepth 20000 in
theorem ggX1_yaw_X1_countLost : GoodIn wsX1_yaw wsX1_countLost := goodIn_r _ [15, 16, 36, 37, 38, 39, 40, 41, 30, 31, 32, 33, 34, 35] (by decide +kernel) (by decide +kernel)
set_option maxRecDepth 20000 in
theorem gX1_yaw_X1_countLost : GoodIn wsX1_yaw (wsV RX1 82 RX1 yX1_countLost wsX1_countLost) := goodIn_app (goodIn_of _ (by decide +kernel)) ggX1_yaw_X1_countLost
set_option maxRecDepth 20000 in
theorem ggX1_yaw_X1_find : GoodIn wsX1_yaw wsX1_find := goodIn_r _ [20, 16, 36, 37, 38, 39, 40, 41] (by decide +kernel) (by decide +kernel)
set_option maxRecDepth 20000 in
theorem gX1_yaw_X1_find : GoodIn wsX1_yaw (wsV RX1 20 RX1 yX1_find wsX1_find) := goodIn_app (goodIn_of _ (by decide +kernel)) ggX1_yaw_X1_find
set_option maxRecDepth 20000 in
theorem ggX1_yaw_X0_press : GoodIn wsX1_yaw wsX0_press := goodIn_r _ [24, 25, 26, 27, 5, 28, 29, 30, 31, 32, 33, 34, 35] (by decide +kernel) (by decide +kernel)
set_option maxRecDepth 20000 in
theorem gX1_yaw_X0_press_n86 : GoodIn wsX1_yaw (wsX0_press) := ggX1_yaw_X0_press
theorem dX1_yaw_0 : decode cX1_yaw 0 = .ok (.lload_n 1, 1) := by decide +kernel
theorem dX1_yaw_1 : decode cX1_yaw 1 = .ok (.ldc2_w 75, 3) := by decide +kernel
theorem dX1_yaw_4 : decode cX1_yaw 4 = .ok (.ldc2_w 24, 3) := by decide +kernel
theorem dX1_yaw_7 : decode cX1_yaw 7 = .ok (.invokestatic 26, 3) := by decide +kernel
theorem dX1_yaw_10 : decode cX1_yaw 10 = .ok (.ifCond .eq 16, 3) := by decide +kernel
theorem dX1_yaw_13 : decode cX1_yaw 13 = .ok (.lload_n 3, 1) := by decide +kernel
theorem dX1_yaw_14 : decode cX1_yaw 14 = .ok (.ldc2_w 75, 3) := by decide +kernel
theorem dX1_yaw_17 : decode cX1_yaw 17 = .ok (.ldc2_w 24, 3) := by decide +kernel
theorem dX1_yaw_20 : decode cX1_yaw 20 = .ok (.invokestatic 26, 3) := by decide +kernel
theorem dX1_yaw_23 : decode cX1_yaw 23 = .ok (.ifCond .ne 6, 3) := by decide +kernel
theorem dX1_yaw_26 : decode cX1_yaw 26 = .ok (.bipush (-2), 2) := by decide +kernel
theorem dX1_yaw_28 : decode cX1_yaw 28 = .ok (.ireturn, 1) := by decide +kernel
theorem dX1_yaw_29 : decode cX1_yaw 29 = .ok (.lload_n 1, 1) := by decide +kernel
theorem dX1_yaw_30 : decode cX1_yaw 30 = .ok (.lload_n 3, 1) := by decide +kernel
theorem dX1_yaw_31 : decode cX1_yaw 31 = .ok (.lsub, 1) := by decide +kernel
theorem dX1_yaw_32 : decode cX1_yaw 32 = .ok (.invokestatic 77, 3) := by decide +kernel
theorem dX1_yaw_35 : decode cX1_yaw 35 = .ok (.ldc2_w 61, 3) := by decide +kernel
theorem dX1_yaw_38 : decode cX1_yaw 38 = .ok (.lcmp, 1) := by decide +kernel
theorem dX1_yaw_39 : decode cX1_yaw 39 = .ok (.ifCond .le 10, 3) := by decide +kernel
theorem dX1_yaw_42 : decode cX1_yaw 42 = .ok (.aload_n 0, 1) := by decide +kernel
theorem dX1_yaw_43 : decode cX1_yaw 43 = .ok (.invokevirtual 82, 3) := by decide +kernel
theorem dX1_yaw_46 : decode cX1_yaw 46 = .ok (.ifCond .le 5, 3) := by decide +kernel
theorem dX1_yaw_49 : decode cX1_yaw 49 = .ok (.iconst 0, 1) := by decide +kernel
theorem dX1_yaw_50 : decode cX1_yaw 50 = .ok (.ireturn, 1) := by decide +kernel
theorem dX1_yaw_51 : decode cX1_yaw 51 = .ok (.lload_n 1, 1) := by decide +kernel
theorem dX1_yaw_52 : decode cX1_yaw 52 = .ok (.lload_n 3, 1) := by decide +kernel
theorem dX1_yaw_53 : decode cX1_yaw 53 = .ok (.lcmp, 1) := by decide +kernel
theorem dX1_yaw_54 : decode cX1_yaw 54 = .ok (.ifCond .le 7, 3) := by decide +kernel
theorem dX1_yaw_57 : decode cX1_yaw 57 = .ok (.iconst 2, 1) := by decide +kernel
theorem dX1_yaw_58 : decode cX1_yaw 58 = .ok (.goto 4, 3) := by decide +kernel
theorem dX1_yaw_61 : decode cX1_yaw 61 = .ok (.iconst 1, 1) := by decide +kernel
theorem dX1_yaw_62 : decode cX1_yaw 62 = .ok (.istore 5, 2) := by decide +kernel
theorem dX1_yaw_64 : decode cX1_yaw 64 = .ok (.aload_n 0, 1) := by decide +kernel
theorem dX1_yaw_65 : decode cX1_yaw 65 = .ok (.iload 5, 2) := by decide +kernel
theorem dX1_yaw_67 : decode cX1_yaw 67 = .ok (.invokevirtual 20, 3) := by decide +kernel
theorem dX1_yaw_70 : decode cX1_yaw 70 = .ok (.astore 6, 2) := by decide +kernel
theorem dX1_yaw_72 : decode cX1_yaw 72 = .ok (.aload 6, 2) := by decide +kernel
theorem dX1_yaw_74 : decode cX1_yaw 74 = .ok (.ifnonnull 5, 3) := by decide +kernel
theorem dX1_yaw_77 : decode cX1_yaw 77 = .ok (.iconst 0, 1) := by decide +kernel
theorem dX1_yaw_78 : decode cX1_yaw 78 = .ok (.ireturn, 1) := by decide +kernel
theorem dX1_yaw_79 : decode cX1_yaw 79 = .ok (.aload 6, 2) := by decide +kernel
theorem dX1_yaw_81 : decode cX1_yaw 81 = .ok (.aload 6, 2) := by decide +kernel
theorem dX1_yaw_83 : decode cX1_yaw 83 = .ok (.getfield 72, 3) := by decide +kernel
theorem dX1_yaw_86 : decode cX1_yaw 86 = .ok (.ldc2_w 61, 3) := by decide +kernel
theorem dX1_yaw_89 : decode cX1_yaw 89 = .ok (.ladd, 1) := by decide +kernel
theorem dX1_yaw_90 : decode cX1_yaw 90 = .ok (.invokevirtual 86, 3) := by decide +kernel
theorem dX1_yaw_93 : decode cX1_yaw 93 = .ok (.iload 5, 2) := by decide +kernel
theorem dX1_yaw_95 : decode cX1_yaw 95 = .ok (.ireturn, 1) := by decide +kernel
set_option maxRecDepth 20000 in
theorem ggX1_slip_X1_find : GoodIn wsX1_slip wsX1_find := goodIn_r _ [12, 13, 20, 21, 22, 23, 24, 25] (by decide +kernel) (by decide +kernel)
set_option maxRecDepth 20000 in
theorem gX1_slip_X1_find : GoodIn wsX1_slip (wsV RX1 20 RX1 yX1_find wsX1_find) := goodIn_app (goodIn_of _ (by decide +kernel)) ggX1_slip_X1_find
set_option maxRecDepth 20000 in
theorem ggX1_slip_X1_commonDivisor : GoodIn wsX1_slip wsX1_commonDivisor := goodIn_r _ [16, 17, 18, 6, 19] (by decide +kernel) (by decide +kernel)
set_option maxRecDepth 20000 in
theorem gX1_slip_X1_commonDivisor : GoodIn wsX1_slip (va_wsS RX1 96 yX1_commonDivisor wsX1_commonDivisor) := goodIn_app (goodIn_of _ (by decide +kernel)) ggX1_slip_X1_commonDivisor
theorem dX1_slip_0 : decode cX1_slip 0 = .ok (.aload_n 0, 1) := by decide +kernel
theorem dX1_slip_1 : decode cX1_slip 1 = .ok (.iload_n 1, 1) := by decide +kernel
theorem dX1_slip_2 : decode cX1_slip 2 = .ok (.invokevirtual 20, 3) := by decide +kernel
theorem dX1_slip_5 : decode cX1_slip 5 = .ok (.astore_n 3, 1) := by decide +kernel
theorem dX1_slip_6 : decode cX1_slip 6 = .ok (.aload_n 3, 1) := by decide +kernel
theorem dX1_slip_7 : decode cX1_slip 7 = .ok (.ifnonnull 5, 3) := by decide +kernel
theorem dX1_slip_10 : decode cX1_slip 10 = .ok (.lconst 0, 1) := by decide +kernel
theorem dX1_slip_11 : decode cX1_slip 11 = .ok (.lreturn, 1) := by decide +kernel
theorem dX1_slip_12 : decode cX1_slip 12 = .ok (.aload_n 0, 1) := by decide +kernel
theorem dX1_slip_13 : decode cX1_slip 13 = .ok (.getfield 47, 3) := by decide +kernel
theorem dX1_slip_16 : decode cX1_slip 16 = .ok (.lconst 0, 1) := by decide +kernel
theorem dX1_slip_17 : decode cX1_slip 17 = .ok (.lcmp, 1) := by decide +kernel
theorem dX1_slip_18 : decode cX1_slip 18 = .ok (.ifCond .ne 13, 3) := by decide +kernel
theorem dX1_slip_21 : decode cX1_slip 21 = .ok (.new 89, 3) := by decide +kernel
theorem dX1_slip_24 : decode cX1_slip 24 = .ok (.dup, 1) := by decide +kernel
theorem dX1_slip_25 : decode cX1_slip 25 = .ok (.ldc 91, 2) := by decide +kernel
theorem dX1_slip_27 : decode cX1_slip 27 = .ok (.invokespecial 93, 3) := by decide +kernel
theorem dX1_slip_30 : decode cX1_slip 30 = .ok (.athrow, 1) := by decide +kernel
theorem dX1_slip_31 : decode cX1_slip 31 = .ok (.aload_n 0, 1) := by decide +kernel
theorem dX1_slip_32 : decode cX1_slip 32 = .ok (.getfield 47, 3) := by decide +kernel
theorem dX1_slip_35 : decode cX1_slip 35 = .ok (.aload_n 3, 1) := by decide +kernel
theorem dX1_slip_36 : decode cX1_slip 36 = .ok (.getfield 30, 3) := by decide +kernel
theorem dX1_slip_39 : decode cX1_slip 39 = .ok (.lsub, 1) := by decide +kernel
theorem dX1_slip_40 : decode cX1_slip 40 = .ok (.lstore 4, 2) := by decide +kernel
theorem dX1_slip_42 : decode cX1_slip 42 = .ok (.lload 4, 2) := by decide +kernel
theorem dX1_slip_44 : decode cX1_slip 44 = .ok (.invokestatic 77, 3) := by decide +kernel
theorem dX1_slip_47 : decode cX1_slip 47 = .ok (.aload_n 0, 1) := by decide +kernel
theorem dX1_slip_48 : decode cX1_slip 48 = .ok (.getfield 47, 3) := by decide +kernel
theorem dX1_slip_51 : decode cX1_slip 51 = .ok (.invokestatic 96, 3) := by decide +kernel
theorem dX1_slip_54 : decode cX1_slip 54 = .ok (.lstore 6, 2) := by decide +kernel
theorem dX1_slip_56 : decode cX1_slip 56 = .ok (.iload_n 2, 1) := by decide +kernel
theorem dX1_slip_57 : decode cX1_slip 57 = .ok (.ifCond .ne 8, 3) := by decide +kernel
theorem dX1_slip_60 : decode cX1_slip 60 = .ok (.lload 4, 2) := by decide +kernel
theorem dX1_slip_62 : decode cX1_slip 62 = .ok (.goto 7, 3) := by decide +kernel
theorem dX1_slip_65 : decode cX1_slip 65 = .ok (.aload_n 0, 1) := by decide +kernel
theorem dX1_slip_66 : decode cX1_slip 66 = .ok (.getfield 47, 3) := by decide +kernel
theorem dX1_slip_69 : decode cX1_slip 69 = .ok (.lload 6, 2) := by decide +kernel
theorem dX1_slip_71 : decode cX1_slip 71 = .ok (.ldiv, 1) := by decide +kernel
theorem dX1_slip_72 : decode cX1_slip 72 = .ok (.lreturn, 1) := by decide +kernel
theorem dX1_gear_0 : decode cX1_gear 0 = .ok (.aload_n 0, 1) := by decide +kernel
theorem dX1_gear_1 : decode cX1_gear 1 = .ok (.getfield 16, 3) := by decide +kernel
theorem dX1_gear_4 : decode cX1_gear 4 = .ok (.ireturn, 1) := by decide +kernel
set_option maxRecDepth 20000 in
theorem ggX1_lost_X1_find : GoodIn wsX1_lost wsX1_find := goodIn_r _ [5, 6, 17, 18, 19, 20, 21, 22] (by decide +kernel) (by decide +kernel)
set_option maxRecDepth 20000 in
theorem gX1_lost_X1_find : GoodIn wsX1_lost (wsV RX1 20 RX1 yX1_find wsX1_find) := goodIn_app (goodIn_of _ (by decide +kernel)) ggX1_lost_X1_find
set_option maxRecDepth 20000 in
theorem ggX1_lost_X1_countLost : GoodIn wsX1_lost wsX1_countLost := goodIn_r _ [10, 6, 17, 18, 19, 20, 21, 22, 11, 12, 13, 14, 15, 16] (by decide +kernel) (by decide +kernel)
set_option maxRecDepth 20000 in
theorem gX1_lost_X1_countLost : GoodIn wsX1_lost (wsV RX1 82 RX1 yX1_countLost wsX1_countLost) := goodIn_app (goodIn_of _ (by decide +kernel)) ggX1_lost_X1_countLost
theorem dX1_lost_0 : decode cX1_lost 0 = .ok (.aload_n 0, 1) := by decide +kernel
theorem dX1_lost_1 : decode cX1_lost 1 = .ok (.iload_n 1, 1) := by decide +kernel
theorem dX1_lost_2 : decode cX1_lost 2 = .ok (.invokevirtual 20, 3) := by decide +kernel
theorem dX1_lost_5 : decode cX1_lost 5 = .ok (.astore_n 3, 1) := by decide +kernel
theorem dX1_lost_6 : decode cX1_lost 6 = .ok (.aload_n 3, 1) := by decide +kernel
theorem dX1_lost_7 : decode cX1_lost 7 = .ok (.ifnonnull 5, 3) := by decide +kernel
theorem dX1_lost_10 : decode cX1_lost 10 = .ok (.iconst (-1), 1) := by decide +kernel
theorem dX1_lost_11 : decode cX1_lost 11 = .ok (.ireturn, 1) := by decide +kernel
theorem dX1_lost_12 : decode cX1_lost 12 = .ok (.aload_n 3, 1) := by decide +kernel
theorem dX1_lost_13 : decode cX1_lost 13 = .ok (.iload_n 2, 1) := by decide +kernel
theorem dX1_lost_14 : decode cX1_lost 14 = .ok (.putfield 100, 3) := by decide +kernel
theorem dX1_lost_17 : decode cX1_lost 17 = .ok (.aload_n 0, 1) := by decide +kernel
theorem dX1_lost_18 : decode cX1_lost 18 = .ok (.invokevirtual 82, 3) := by decide +kernel
theorem dX1_lost_21 : decode cX1_lost 21 = .ok (.ireturn, 1) := by decide +kernel
theorem dX1_hold_0 : decode cX1_hold 0 = .ok (.aload_n 0, 1) := by decide +kernel
theorem dX1_hold_1 : decode cX1_hold 1 = .ok (.iload_n 1, 1) := by decide +kernel
theorem dX1_hold_2 : decode cX1_hold 2 = .ok (.ifCond .eq 23, 3) := by decide +kernel
theorem dX1_hold_5 : decode cX1_hold 5 = .ok (.aload_n 0, 1) := by decide +kernel
theorem dX1_hold_6 : decode cX1_hold 6 = .ok (.getfield 50, 3) := by decide +kernel
theorem dX1_hold_9 : decode cX1_hold 9 = .ok (.ifCond .ne 12, 3) := by decide +kernel
theorem dX1_hold_12 : decode cX1_hold 12 = .ok (.aload_n 0, 1) := by decide +kernel
theorem dX1_hold_13 : decode cX1_hold 13 = .ok (.getfield 47, 3) := by decide +kernel
theorem dX1_hold_16 : decode cX1_hold 16 = .ok (.lconst 0, 1) := by decide +kernel
theorem dX1_hold_17 : decode cX1_hold 17 = .ok (.lcmp, 1) := by decide +kernel
theorem dX1_hold_18 : decode cX1_hold 18 = .ok (.ifCond .ne 7, 3) := by decide +kernel
theorem dX1_hold_21 : decode cX1_hold 21 = .ok (.iconst 1, 1) := by decide +kernel
theorem dX1_hold_22 : decode cX1_hold 22 = .ok (.goto 4, 3) := by decide +kernel
theorem dX1_hold_25 : decode cX1_hold 25 = .ok (.iconst 0, 1) := by decide +kernel
theorem dX1_hold_26 : decode cX1_hold 26 = .ok (.putfield 50, 3) := by decide +kernel
theorem dX1_hold_29 : decode cX1_hold 29 = .ok (.aload_n 0, 1) := by decide +kernel
theorem dX1_hold_30 : decode cX1_hold 30 = .ok (.getfield 50, 3) := by decide +kernel
theorem dX1_hold_33 : decode cX1_hold 33 = .ok (.ifCond .eq 7, 3) := by decide +kernel
theorem dX1_hold_36 : decode cX1_hold 36 = .ok (.iconst 1, 1) := by decide +kernel
theorem dX1_hold_37 : decode cX1_hold 37 = .ok (.goto 4, 3) := by decide +kernel
theorem dX1_hold_40 : decode cX1_hold 40 = .ok (.iconst 0, 1) := by decide +kernel
theorem dX1_hold_41 : decode cX1_hold 41 = .ok (.ireturn, 1) := by decide +kernel
set_option maxRecDepth 20000 in
theorem ggX1_wish_X1_isWithin : GoodIn wsX1_wish wsX1_isWithin := goodIn_r _ [9] (by decide +kernel) (by decide +kernel)
set_option maxRecDepth 20000 in
theorem gX1_wish_X1_isWithin : GoodIn wsX1_wish (va_wsS RX1 26 yX1_isWithin wsX1_isWithin) := goodIn_app (goodIn_of _ (by decide +kernel)) ggX1_wish_X1_isWithin
set_option maxRecDepth 20000 in
theorem ggX1_wish_X1_change : GoodIn wsX1_wish wsX1_change := goodIn_r _ [13, 14, 15, 16, 17, 18, 19, 20, 21, 22] (by decide +kernel) (by decide +kernel)
set_option maxRecDepth 20000 in
theorem gX1_wish_X1_change : GoodIn wsX1_wish (wsV RX1 107 RX1 yX1_change wsX1_change) := goodIn_app (goodIn_of _ (by decide +kernel)) ggX1_wish_X1_change
theorem dX1_wish_0 : decode cX1_wish 0 = .ok (.iload_n 1, 1) := by decide +kernel
theorem dX1_wish_1 : decode cX1_wish 1 = .ok (.i2l, 1) := by decide +kernel
theorem dX1_wish_2 : decode cX1_wish 2 = .ok (.lconst 1, 1) := by decide +kernel
theorem dX1_wish_3 : decode cX1_wish 3 = .ok (.ldc2_w 103, 3) := by decide +kernel
theorem dX1_wish_6 : decode cX1_wish 6 = .ok (.invokestatic 26, 3) := by decide +kernel
theorem dX1_wish_9 : decode cX1_wish 9 = .ok (.ifCond .ne 6, 3) := by decide +kernel
theorem dX1_wish_12 : decode cX1_wish 12 = .ok (.bipush (-2), 2) := by decide +kernel
theorem dX1_wish_14 : decode cX1_wish 14 = .ok (.ireturn, 1) := by decide +kernel
theorem dX1_wish_15 : decode cX1_wish 15 = .ok (.ldc2_w 61, 3) := by decide +kernel
theorem dX1_wish_18 : decode cX1_wish 18 = .ok (.iload_n 1, 1) := by decide +kernel
theorem dX1_wish_19 : decode cX1_wish 19 = .ok (.iconst 1, 1) := by decide +kernel
theorem dX1_wish_20 : decode cX1_wish 20 = .ok (.isub, 1) := by decide +kernel
theorem dX1_wish_21 : decode cX1_wish 21 = .ok (.i2l, 1) := by decide +kernel
theorem dX1_wish_22 : decode cX1_wish 22 = .ok (.lmul, 1) := by decide +kernel
theorem dX1_wish_23 : decode cX1_wish 23 = .ok (.ldc2_w 105, 3) := by decide +kernel
theorem dX1_wish_26 : decode cX1_wish 26 = .ok (.lsub, 1) := by decide +kernel
theorem dX1_wish_27 : decode cX1_wish 27 = .ok (.lstore_n 2, 1) := by decide +kernel
theorem dX1_wish_28 : decode cX1_wish 28 = .ok (.ldc2_w 61, 3) := by decide +kernel
theorem dX1_wish_31 : decode cX1_wish 31 = .ok (.iload_n 1, 1) := by decide +kernel
theorem dX1_wish_32 : decode cX1_wish 32 = .ok (.i2l, 1) := by decide +kernel
theorem dX1_wish_33 : decode cX1_wish 33 = .ok (.lmul, 1) := by decide +kernel
theorem dX1_wish_34 : decode cX1_wish 34 = .ok (.ldc2_w 38, 3) := by decide +kernel
theorem dX1_wish_37 : decode cX1_wish 37 = .ok (.ladd, 1) := by decide +kernel
theorem dX1_wish_38 : decode cX1_wish 38 = .ok (.lstore 4, 2) := by decide +kernel
theorem dX1_wish_40 : decode cX1_wish 40 = .ok (.aload_n 0, 1) := by decide +kernel
theorem dX1_wish_41 : decode cX1_wish 41 = .ok (.getfield 47, 3) := by decide +kernel
theorem dX1_wish_44 : decode cX1_wish 44 = .ok (.lload_n 2, 1) := by decide +kernel
theorem dX1_wish_45 : decode cX1_wish 45 = .ok (.lload 4, 2) := by decide +kernel
theorem dX1_wish_47 : decode cX1_wish 47 = .ok (.invokestatic 26, 3) := by decide +kernel
theorem dX1_wish_50 : decode cX1_wish 50 = .ok (.ifCond .ne 5, 3) := by decide +kernel
theorem dX1_wish_53 : decode cX1_wish 53 = .ok (.iconst 0, 1) := by decide +kernel
theorem dX1_wish_54 : decode cX1_wish 54 = .ok (.ireturn, 1) := by decide +kernel
theorem dX1_wish_55 : decode cX1_wish 55 = .ok (.aload_n 0, 1) := by decide +kernel
theorem dX1_wish_56 : decode cX1_wish 56 = .ok (.iload_n 1, 1) := by decide +kernel
theorem dX1_wish_57 : decode cX1_wish 57 = .ok (.bipush 10, 2) := by decide +kernel
theorem dX1_wish_59 : decode cX1_wish 59 = .ok (.invokevirtual 107, 3) := by decide +kernel
theorem dX1_wish_62 : decode cX1_wish 62 = .ok (.iconst 1, 1) := by decide +kernel
theorem dX1_wish_63 : decode cX1_wish 63 = .ok (.ireturn, 1) := by decide +kernel
theorem dX1_reference_0 : decode cX1_reference 0 = .ok (.aload_n 0, 1) := by decide +kernel
theorem dX1_reference_1 : decode cX1_reference 1 = .ok (.getfield 47, 3) := by decide +kernel
theorem dX1_reference_4 : decode cX1_reference 4 = .ok (.lreturn, 1) := by decide +kernel
set_option maxRecDepth 20000 in
theorem ggX1_plant_X1_find : GoodIn wsX1_plant wsX1_find := goodIn_r _ [5, 6, 13, 14, 15, 16, 17, 18] (by decide +kernel) (by decide +kernel)
set_option maxRecDepth 20000 in
theorem gX1_plant_X1_find : GoodIn wsX1_plant (wsV RX1 20 RX1 yX1_find wsX1_find) := goodIn_app (goodIn_of _ (by decide +kernel)) ggX1_plant_X1_find
theorem dX1_plant_0 : decode cX1_plant 0 = .ok (.aload_n 0, 1) := by decide +kernel
theorem dX1_plant_1 : decode cX1_plant 1 = .ok (.iload_n 1, 1) := by decide +kernel
theorem dX1_plant_2 : decode cX1_plant 2 = .ok (.invokevirtual 20, 3) := by decide +kernel
theorem dX1_plant_5 : decode cX1_plant 5 = .ok (.astore_n 2, 1) := by decide +kernel
theorem dX1_plant_6 : decode cX1_plant 6 = .ok (.aload_n 2, 1) := by decide +kernel
theorem dX1_plant_7 : decode cX1_plant 7 = .ok (.ifnonnull 7, 3) := by decide +kernel
theorem dX1_plant_10 : decode cX1_plant 10 = .ok (.dconst 0, 1) := by decide +kernel
theorem dX1_plant_11 : decode cX1_plant 11 = .ok (.goto 7, 3) := by decide +kernel
theorem dX1_plant_14 : decode cX1_plant 14 = .ok (.aload_n 2, 1) := by decide +kernel
theorem dX1_plant_15 : decode cX1_plant 15 = .ok (.getfield 111, 3) := by decide +kernel
theorem dX1_plant_18 : decode cX1_plant 18 = .ok (.dreturn, 1) := by decide +kernel
set_option maxRecDepth 20000 in
theorem ggX1_bound_X1_find : GoodIn wsX1_bound wsX1_find := goodIn_r _ [6, 7, 27, 28, 29, 30, 31, 32] (by decide +kernel) (by decide +kernel)
set_option maxRecDepth 20000 in
theorem gX1_bound_X1_find : GoodIn wsX1_bound (wsV RX1 20 RX1 yX1_find wsX1_find) := goodIn_app (goodIn_of _ (by decide +kernel)) ggX1_bound_X1_find
set_option maxRecDepth 20000 in
theorem ggX1_bound_X1_isWithin : GoodIn wsX1_bound wsX1_isWithin := goodIn_r _ [10] (by decide +kernel) (by decide +kernel)
set_option maxRecDepth 20000 in
theorem gX1_bound_X1_isWithin : GoodIn wsX1_bound (va_wsS RX1 26 yX1_isWithin wsX1_isWithin) := goodIn_app (goodIn_of _ (by decide +kernel)) ggX1_bound_X1_isWithin
set_option maxRecDepth 20000 in
theorem ggX1_bound_X0_press : GoodIn wsX1_bound wsX0_press := goodIn_r _ [14, 15, 16, 17, 18, 19, 20, 21, 22, 23, 24, 25, 26] (by decide +kernel) (by decide +kernel)
set_option maxRecDepth 20000 in
theorem gX1_bound_X0_press_n86 : GoodIn wsX1_bound (wsX0_press) := ggX1_bound_X0_press
theorem dX1_bound_0 : decode cX1_bound 0 = .ok (.aload_n 0, 1) := by decide +kernel
theorem dX1_bound_1 : decode cX1_bound 1 = .ok (.iload_n 1, 1) := by decide +kernel
theorem dX1_bound_2 : decode cX1_bound 2 = .ok (.invokevirtual 20, 3) := by decide +kernel
theorem dX1_bound_5 : decode cX1_bound 5 = .ok (.astore 4, 2) := by decide +kernel
theorem dX1_bound_7 : decode cX1_bound 7 = .ok (.aload 4, 2) := by decide +kernel
theorem dX1_bound_9 : decode cX1_bound 9 = .ok (.ifnonnull 5, 3) := by decide +kernel
theorem dX1_bound_12 : decode cX1_bound 12 = .ok (.iconst (-1), 1) := by decide +kernel
theorem dX1_bound_13 : decode cX1_bound 13 = .ok (.ireturn, 1) := by decide +kernel
theorem dX1_bound_14 : decode cX1_bound 14 = .ok (.lload_n 2, 1) := by decide +kernel
theorem dX1_bound_15 : decode cX1_bound 15 = .ok (.lconst 0, 1) := by decide +kernel
theorem dX1_bound_16 : decode cX1_bound 16 = .ok (.ldc2_w 115, 3) := by decide +kernel
theorem dX1_bound_19 : decode cX1_bound 19 = .ok (.invokestatic 26, 3) := by decide +kernel
theorem dX1_bound_22 : decode cX1_bound 22 = .ok (.ifCond .ne 6, 3) := by decide +kernel
theorem dX1_bound_25 : decode cX1_bound 25 = .ok (.bipush (-2), 2) := by decide +kernel
theorem dX1_bound_27 : decode cX1_bound 27 = .ok (.ireturn, 1) := by decide +kernel
theorem dX1_bound_28 : decode cX1_bound 28 = .ok (.aload 4, 2) := by decide +kernel
theorem dX1_bound_30 : decode cX1_bound 30 = .ok (.lload_n 2, 1) := by decide +kernel
theorem dX1_bound_31 : decode cX1_bound 31 = .ok (.putfield 117, 3) := by decide +kernel
theorem dX1_bound_34 : decode cX1_bound 34 = .ok (.aload 4, 2) := by decide +kernel
theorem dX1_bound_36 : decode cX1_bound 36 = .ok (.aload 4, 2) := by decide +kernel
theorem dX1_bound_38 : decode cX1_bound 38 = .ok (.getfield 72, 3) := by decide +kernel
theorem dX1_bound_41 : decode cX1_bound 41 = .ok (.invokevirtual 86, 3) := by decide +kernel
theorem dX1_bound_44 : decode cX1_bound 44 = .ok (.iconst 1, 1) := by decide +kernel
theorem dX1_bound_45 : decode cX1_bound 45 = .ok (.ireturn, 1) := by decide +kernel
set_option maxRecDepth 20000 in
theorem ggX1_mode_X1_countLost : GoodIn wsX1_mode wsX1_countLost := goodIn_r _ [6, 7, 8, 9, 10, 11, 12, 13, 14, 15, 16, 17, 18, 19] (by decide +kernel) (by decide +kernel)
set_option maxRecDepth 20000 in
theorem gX1_mode_X1_countLost : GoodIn wsX1_mode (wsV RX1 82 RX1 yX1_countLost wsX1_countLost) := goodIn_app (goodIn_of _ (by decide +kernel)) ggX1_mode_X1_countLost
theorem dX1_mode_0 : decode cX1_mode 0 = .ok (.aload_n 0, 1) := by decide +kernel
theorem dX1_mode_1 : decode cX1_mode 1 = .ok (.getfield 50, 3) := by decide +kernel
theorem dX1_mode_4 : decode cX1_mode 4 = .ok (.ifCond .eq 5, 3) := by decide +kernel
theorem dX1_mode_7 : decode cX1_mode 7 = .ok (.iconst 2, 1) := by decide +kernel
theorem dX1_mode_8 : decode cX1_mode 8 = .ok (.ireturn, 1) := by decide +kernel
theorem dX1_mode_9 : decode cX1_mode 9 = .ok (.aload_n 0, 1) := by decide +kernel
theorem dX1_mode_10 : decode cX1_mode 10 = .ok (.invokevirtual 82, 3) := by decide +kernel
theorem dX1_mode_13 : decode cX1_mode 13 = .ok (.ifCond .le 7, 3) := by decide +kernel
theorem dX1_mode_16 : decode cX1_mode 16 = .ok (.iconst 1, 1) := by decide +kernel
theorem dX1_mode_17 : decode cX1_mode 17 = .ok (.goto 4, 3) := by decide +kernel
theorem dX1_mode_20 : decode cX1_mode 20 = .ok (.iconst 0, 1) := by decide +kernel
theorem dX1_mode_21 : decode cX1_mode 21 = .ok (.ireturn, 1) := by decide +kernel
theorem dX1_isWithin_0 : decode cX1_isWithin 0 = .ok (.lload_n 0, 1) := by decide +kernel
theorem dX1_isWithin_1 : decode cX1_isWithin 1 = .ok (.lload_n 2, 1) := by decide +kernel
theorem dX1_isWithin_2 : decode cX1_isWithin 2 = .ok (.lcmp, 1) := by decide +kernel
theorem dX1_isWithin_3 : decode cX1_isWithin 3 = .ok (.ifCond .lt 14, 3) := by decide +kernel
theorem dX1_isWithin_6 : decode cX1_isWithin 6 = .ok (.lload_n 0, 1) := by decide +kernel
theorem dX1_isWithin_7 : decode cX1_isWithin 7 = .ok (.lload 4, 2) := by decide +kernel
theorem dX1_isWithin_9 : decode cX1_isWithin 9 = .ok (.lcmp, 1) := by decide +kernel
theorem dX1_isWithin_10 : decode cX1_isWithin 10 = .ok (.ifCond .gt 7, 3) := by decide +kernel
theorem dX1_isWithin_13 : decode cX1_isWithin 13 = .ok (.iconst 1, 1) := by decide +kernel
theorem dX1_isWithin_14 : decode cX1_isWithin 14 = .ok (.goto 4, 3) := by decide +kernel
theorem dX1_isWithin_17 : decode cX1_isWithin 17 = .ok (.iconst 0, 1) := by decide +kernel
theorem dX1_isWithin_18 : decode cX1_isWithin 18 = .ok (.ireturn, 1) := by decide +kernel
theorem dX1_find_0 : decode cX1_find 0 = .ok (.iload_n 1, 1) := by decide +kernel
theorem dX1_find_1 : decode cX1_find 1 = .ok (.iconst 1, 1) := by decide +kernel
theorem dX1_find_2 : decode cX1_find 2 = .ok (.if_icmp .lt 23, 3) := by decide +kernel
theorem dX1_find_5 : decode cX1_find 5 = .ok (.iload_n 1, 1) := by decide +kernel
theorem dX1_find_6 : decode cX1_find 6 = .ok (.aload_n 0, 1) := by decide +kernel
theorem dX1_find_7 : decode cX1_find 7 = .ok (.getfield 11, 3) := by decide +kernel
theorem dX1_find_10 : decode cX1_find 10 = .ok (.arraylength, 1) := by decide +kernel
theorem dX1_find_11 : decode cX1_find 11 = .ok (.if_icmp .gt 14, 3) := by decide +kernel
theorem dX1_find_14 : decode cX1_find 14 = .ok (.aload_n 0, 1) := by decide +kernel
theorem dX1_find_15 : decode cX1_find 15 = .ok (.getfield 11, 3) := by decide +kernel
theorem dX1_find_18 : decode cX1_find 18 = .ok (.iload_n 1, 1) := by decide +kernel
theorem dX1_find_19 : decode cX1_find 19 = .ok (.iconst 1, 1) := by decide +kernel
theorem dX1_find_20 : decode cX1_find 20 = .ok (.isub, 1) := by decide +kernel
theorem dX1_find_21 : decode cX1_find 21 = .ok (.aaload, 1) := by decide +kernel
theorem dX1_find_22 : decode cX1_find 22 = .ok (.goto 4, 3) := by decide +kernel
theorem dX1_find_25 : decode cX1_find 25 = .ok (.aconst_null, 1) := by decide +kernel
theorem dX1_find_26 : decode cX1_find 26 = .ok (.areturn, 1) := by decide +kernel
theorem dX1_countLost_0 : decode cX1_countLost 0 = .ok (.iconst 0, 1) := by decide +kernel
theorem dX1_countLost_1 : decode cX1_countLost 1 = .ok (.istore_n 1, 1) := by decide +kernel
theorem dX1_countLost_2 : decode cX1_countLost 2 = .ok (.iconst 0, 1) := by decide +kernel
theorem dX1_countLost_3 : decode cX1_countLost 3 = .ok (.istore_n 2, 1) := by decide +kernel
theorem dX1_countLost_4 : decode cX1_countLost 4 = .ok (.iload_n 2, 1) := by decide +kernel
theorem dX1_countLost_5 : decode cX1_countLost 5 = .ok (.aload_n 0, 1) := by decide +kernel
theorem dX1_countLost_6 : decode cX1_countLost 6 = .ok (.getfield 11, 3) := by decide +kernel
theorem dX1_countLost_9 : decode cX1_countLost 9 = .ok (.arraylength, 1) := by decide +kernel
theorem dX1_countLost_10 : decode cX1_countLost 10 = .ok (.if_icmp .ge 24, 3) := by decide +kernel
theorem dX1_countLost_13 : decode cX1_countLost 13 = .ok (.aload_n 0, 1) := by decide +kernel
theorem dX1_countLost_14 : decode cX1_countLost 14 = .ok (.getfield 11, 3) := by decide +kernel
theorem dX1_countLost_17 : decode cX1_countLost 17 = .ok (.iload_n 2, 1) := by decide +kernel
theorem dX1_countLost_18 : decode cX1_countLost 18 = .ok (.aaload, 1) := by decide +kernel
theorem dX1_countLost_19 : decode cX1_countLost 19 = .ok (.getfield 100, 3) := by decide +kernel
theorem dX1_countLost_22 : decode cX1_countLost 22 = .ok (.ifCond .eq 6, 3) := by decide +kernel
theorem dX1_countLost_25 : decode cX1_countLost 25 = .ok (.iinc 1 1, 3) := by decide +kernel
theorem dX1_countLost_28 : decode cX1_countLost 28 = .ok (.iinc 2 1, 3) := by decide +kernel
theorem dX1_countLost_31 : decode cX1_countLost 31 = .ok (.goto (-27), 3) := by decide +kernel
theorem dX1_countLost_34 : decode cX1_countLost 34 = .ok (.iload_n 1, 1) := by decide +kernel
theorem dX1_countLost_35 : decode cX1_countLost 35 = .ok (.ireturn, 1) := by decide +kernel
set_option maxRecDepth 20000 in
theorem ggX1_nextReference_X1_countLost : GoodIn wsX1_nextReference wsX1_countLost := goodIn_r _ [12, 7, 17, 18, 19, 20, 21, 22, 23, 24, 25, 26, 27, 28] (by decide +kernel) (by decide +kernel)
set_option maxRecDepth 20000 in
theorem gX1_nextReference_X1_countLost : GoodIn wsX1_nextReference (wsV RX1 82 RX1 yX1_countLost wsX1_countLost) := goodIn_app (goodIn_of _ (by decide +kernel)) ggX1_nextReference_X1_countLost
set_option maxRecDepth 20000 in
theorem ggX1_nextReference_X1_greatestSpeed : GoodIn wsX1_nextReference wsX1_greatestSpeed := goodIn_r _ [16, 7, 3, 4, 5, 6, 17, 18, 19, 20, 21, 22, 23, 24, 25, 26, 27, 28] (by decide +kernel) (by decide +kernel)
set_option maxRecDepth 20000 in
theorem gX1_nextReference_X1_greatestSpeed : GoodIn wsX1_nextReference (wsV RX1 125 RX1 yX1_greatestSpeed wsX1_greatestSpeed) := goodIn_app (goodIn_of _ (by decide +kernel)) ggX1_nextReference_X1_greatestSpeed
theorem dX1_nextReference_0 : decode cX1_nextReference 0 = .ok (.aload_n 0, 1) := by decide +kernel
theorem dX1_nextReference_1 : decode cX1_nextReference 1 = .ok (.getfield 47, 3) := by decide +kernel
theorem dX1_nextReference_4 : decode cX1_nextReference 4 = .ok (.ldc2_w 120, 3) := by decide +kernel
theorem dX1_nextReference_7 : decode cX1_nextReference 7 = .ok (.lsub, 1) := by decide +kernel
theorem dX1_nextReference_8 : decode cX1_nextReference 8 = .ok (.lconst 0, 1) := by decide +kernel
theorem dX1_nextReference_9 : decode cX1_nextReference 9 = .ok (.invokestatic 122, 3) := by decide +kernel
theorem dX1_nextReference_12 : decode cX1_nextReference 12 = .ok (.lstore_n 3, 1) := by decide +kernel
theorem dX1_nextReference_13 : decode cX1_nextReference 13 = .ok (.aload_n 0, 1) := by decide +kernel
theorem dX1_nextReference_14 : decode cX1_nextReference 14 = .ok (.invokevirtual 82, 3) := by decide +kernel
theorem dX1_nextReference_17 : decode cX1_nextReference 17 = .ok (.aload_n 0, 1) := by decide +kernel
theorem dX1_nextReference_18 : decode cX1_nextReference 18 = .ok (.getfield 11, 3) := by decide +kernel
theorem dX1_nextReference_21 : decode cX1_nextReference 21 = .ok (.arraylength, 1) := by decide +kernel
theorem dX1_nextReference_22 : decode cX1_nextReference 22 = .ok (.if_icmp .ne 5, 3) := by decide +kernel
theorem dX1_nextReference_25 : decode cX1_nextReference 25 = .ok (.lload_n 3, 1) := by decide +kernel
theorem dX1_nextReference_26 : decode cX1_nextReference 26 = .ok (.lreturn, 1) := by decide +kernel
theorem dX1_nextReference_27 : decode cX1_nextReference 27 = .ok (.aload_n 0, 1) := by decide +kernel
theorem dX1_nextReference_28 : decode cX1_nextReference 28 = .ok (.invokevirtual 125, 3) := by decide +kernel
theorem dX1_nextReference_31 : decode cX1_nextReference 31 = .ok (.lstore 5, 2) := by decide +kernel
theorem dX1_nextReference_33 : decode cX1_nextReference 33 = .ok (.lload_n 1, 1) := by decide +kernel
theorem dX1_nextReference_34 : decode cX1_nextReference 34 = .ok (.lconst 0, 1) := by decide +kernel
theorem dX1_nextReference_35 : decode cX1_nextReference 35 = .ok (.lcmp, 1) := by decide +kernel
theorem dX1_nextReference_36 : decode cX1_nextReference 36 = .ok (.ifCond .le 12, 3) := by decide +kernel
theorem dX1_nextReference_39 : decode cX1_nextReference 39 = .ok (.lload 5, 2) := by decide +kernel
theorem dX1_nextReference_41 : decode cX1_nextReference 41 = .ok (.lload_n 3, 1) := by decide +kernel
theorem dX1_nextReference_42 : decode cX1_nextReference 42 = .ok (.invokestatic 122, 3) := by decide +kernel
theorem dX1_nextReference_45 : decode cX1_nextReference 45 = .ok (.goto 5, 3) := by decide +kernel
theorem dX1_nextReference_48 : decode cX1_nextReference 48 = .ok (.lload 5, 2) := by decide +kernel
theorem dX1_nextReference_50 : decode cX1_nextReference 50 = .ok (.lreturn, 1) := by decide +kernel
theorem dX1_greatestSpeed_0 : decode cX1_greatestSpeed 0 = .ok (.lconst 0, 1) := by decide +kernel
theorem dX1_greatestSpeed_1 : decode cX1_greatestSpeed 1 = .ok (.lstore_n 1, 1) := by decide +kernel
theorem dX1_greatestSpeed_2 : decode cX1_greatestSpeed 2 = .ok (.iconst 0, 1) := by decide +kernel
theorem dX1_greatestSpeed_3 : decode cX1_greatestSpeed 3 = .ok (.istore_n 3, 1) := by decide +kernel
theorem dX1_greatestSpeed_4 : decode cX1_greatestSpeed 4 = .ok (.iload_n 3, 1) := by decide +kernel
theorem dX1_greatestSpeed_5 : decode cX1_greatestSpeed 5 = .ok (.aload_n 0, 1) := by decide +kernel
theorem dX1_greatestSpeed_6 : decode cX1_greatestSpeed 6 = .ok (.getfield 11, 3) := by decide +kernel
theorem dX1_greatestSpeed_9 : decode cX1_greatestSpeed 9 = .ok (.arraylength, 1) := by decide +kernel
theorem dX1_greatestSpeed_10 : decode cX1_greatestSpeed 10 = .ok (.if_icmp .ge 35, 3) := by decide +kernel
theorem dX1_greatestSpeed_13 : decode cX1_greatestSpeed 13 = .ok (.aload_n 0, 1) := by decide +kernel
theorem dX1_greatestSpeed_14 : decode cX1_greatestSpeed 14 = .ok (.getfield 11, 3) := by decide +kernel
theorem dX1_greatestSpeed_17 : decode cX1_greatestSpeed 17 = .ok (.iload_n 3, 1) := by decide +kernel
theorem dX1_greatestSpeed_18 : decode cX1_greatestSpeed 18 = .ok (.aaload, 1) := by decide +kernel
theorem dX1_greatestSpeed_19 : decode cX1_greatestSpeed 19 = .ok (.getfield 100, 3) := by decide +kernel
theorem dX1_greatestSpeed_22 : decode cX1_greatestSpeed 22 = .ok (.ifCond .ne 17, 3) := by decide +kernel
theorem dX1_greatestSpeed_25 : decode cX1_greatestSpeed 25 = .ok (.lload_n 1, 1) := by decide +kernel
theorem dX1_greatestSpeed_26 : decode cX1_greatestSpeed 26 = .ok (.aload_n 0, 1) := by decide +kernel
theorem dX1_greatestSpeed_27 : decode cX1_greatestSpeed 27 = .ok (.getfield 11, 3) := by decide +kernel
theorem dX1_greatestSpeed_30 : decode cX1_greatestSpeed 30 = .ok (.iload_n 3, 1) := by decide +kernel
theorem dX1_greatestSpeed_31 : decode cX1_greatestSpeed 31 = .ok (.aaload, 1) := by decide +kernel
theorem dX1_greatestSpeed_32 : decode cX1_greatestSpeed 32 = .ok (.getfield 30, 3) := by decide +kernel
theorem dX1_greatestSpeed_35 : decode cX1_greatestSpeed 35 = .ok (.invokestatic 122, 3) := by decide +kernel
theorem dX1_greatestSpeed_38 : decode cX1_greatestSpeed 38 = .ok (.lstore_n 1, 1) := by decide +kernel
theorem dX1_greatestSpeed_39 : decode cX1_greatestSpeed 39 = .ok (.iinc 3 1, 3) := by decide +kernel
theorem dX1_greatestSpeed_42 : decode cX1_greatestSpeed 42 = .ok (.goto (-38), 3) := by decide +kernel
theorem dX1_greatestSpeed_45 : decode cX1_greatestSpeed 45 = .ok (.lload_n 1, 1) := by decide +kernel
theorem dX1_greatestSpeed_46 : decode cX1_greatestSpeed 46 = .ok (.lreturn, 1) := by decide +kernel
set_option maxRecDepth 20000 in
theorem ggX1_shift_X1_change : GoodIn wsX1_shift wsX1_change := goodIn_r _ [15, 3, 1, 2, 16, 17, 18, 19, 20, 21] (by decide +kernel) (by decide +kernel)
set_option maxRecDepth 20000 in
theorem gX1_shift_X1_change : GoodIn wsX1_shift (wsV RX1 107 RX1 yX1_change wsX1_change) := goodIn_app (goodIn_of _ (by decide +kernel)) ggX1_shift_X1_change
theorem dX1_shift_0 : decode cX1_shift 0 = .ok (.aload_n 0, 1) := by decide +kernel
theorem dX1_shift_1 : decode cX1_shift 1 = .ok (.getfield 40, 3) := by decide +kernel
theorem dX1_shift_4 : decode cX1_shift 4 = .ok (.aload_n 0, 1) := by decide +kernel
theorem dX1_shift_5 : decode cX1_shift 5 = .ok (.getfield 129, 3) := by decide +kernel
theorem dX1_shift_8 : decode cX1_shift 8 = .ok (.if_icmp .ge 4, 3) := by decide +kernel
theorem dX1_shift_11 : decode cX1_shift 11 = .ok (.return_, 1) := by decide +kernel
theorem dX1_shift_12 : decode cX1_shift 12 = .ok (.aload_n 0, 1) := by decide +kernel
theorem dX1_shift_13 : decode cX1_shift 13 = .ok (.getfield 16, 3) := by decide +kernel
theorem dX1_shift_16 : decode cX1_shift 16 = .ok (.bipush 6, 2) := by decide +kernel
theorem dX1_shift_18 : decode cX1_shift 18 = .ok (.if_icmp .ge 44, 3) := by decide +kernel
theorem dX1_shift_21 : decode cX1_shift 21 = .ok (.aload_n 0, 1) := by decide +kernel
theorem dX1_shift_22 : decode cX1_shift 22 = .ok (.getfield 47, 3) := by decide +kernel
theorem dX1_shift_25 : decode cX1_shift 25 = .ok (.ldc2_w 61, 3) := by decide +kernel
theorem dX1_shift_28 : decode cX1_shift 28 = .ok (.aload_n 0, 1) := by decide +kernel
theorem dX1_shift_29 : decode cX1_shift 29 = .ok (.getfield 16, 3) := by decide +kernel
theorem dX1_shift_32 : decode cX1_shift 32 = .ok (.i2l, 1) := by decide +kernel
theorem dX1_shift_33 : decode cX1_shift 33 = .ok (.lmul, 1) := by decide +kernel
theorem dX1_shift_34 : decode cX1_shift 34 = .ok (.ldc2_w 105, 3) := by decide +kernel
theorem dX1_shift_37 : decode cX1_shift 37 = .ok (.ladd, 1) := by decide +kernel
theorem dX1_shift_38 : decode cX1_shift 38 = .ok (.lload_n 1, 1) := by decide +kernel
theorem dX1_shift_39 : decode cX1_shift 39 = .ok (.lconst 0, 1) := by decide +kernel
theorem dX1_shift_40 : decode cX1_shift 40 = .ok (.invokestatic 122, 3) := by decide +kernel
theorem dX1_shift_43 : decode cX1_shift 43 = .ok (.ladd, 1) := by decide +kernel
theorem dX1_shift_44 : decode cX1_shift 44 = .ok (.lcmp, 1) := by decide +kernel
theorem dX1_shift_45 : decode cX1_shift 45 = .ok (.ifCond .le 17, 3) := by decide +kernel
theorem dX1_shift_48 : decode cX1_shift 48 = .ok (.aload_n 0, 1) := by decide +kernel
theorem dX1_shift_49 : decode cX1_shift 49 = .ok (.aload_n 0, 1) := by decide +kernel
theorem dX1_shift_50 : decode cX1_shift 50 = .ok (.getfield 16, 3) := by decide +kernel
theorem dX1_shift_53 : decode cX1_shift 53 = .ok (.iconst 1, 1) := by decide +kernel
theorem dX1_shift_54 : decode cX1_shift 54 = .ok (.iadd, 1) := by decide +kernel
theorem dX1_shift_55 : decode cX1_shift 55 = .ok (.iconst 3, 1) := by decide +kernel
theorem dX1_shift_56 : decode cX1_shift 56 = .ok (.invokevirtual 107, 3) := by decide +kernel
theorem dX1_shift_59 : decode cX1_shift 59 = .ok (.goto 41, 3) := by decide +kernel
theorem dX1_shift_62 : decode cX1_shift 62 = .ok (.aload_n 0, 1) := by decide +kernel
theorem dX1_shift_63 : decode cX1_shift 63 = .ok (.getfield 16, 3) := by decide +kernel
theorem dX1_shift_66 : decode cX1_shift 66 = .ok (.iconst 1, 1) := by decide +kernel
theorem dX1_shift_67 : decode cX1_shift 67 = .ok (.if_icmp .le 33, 3) := by decide +kernel
theorem dX1_shift_70 : decode cX1_shift 70 = .ok (.aload_n 0, 1) := by decide +kernel
theorem dX1_shift_71 : decode cX1_shift 71 = .ok (.getfield 47, 3) := by decide +kernel
theorem dX1_shift_74 : decode cX1_shift 74 = .ok (.ldc2_w 61, 3) := by decide +kernel
theorem dX1_shift_77 : decode cX1_shift 77 = .ok (.aload_n 0, 1) := by decide +kernel
theorem dX1_shift_78 : decode cX1_shift 78 = .ok (.getfield 16, 3) := by decide +kernel
theorem dX1_shift_81 : decode cX1_shift 81 = .ok (.iconst 1, 1) := by decide +kernel
theorem dX1_shift_82 : decode cX1_shift 82 = .ok (.isub, 1) := by decide +kernel
theorem dX1_shift_83 : decode cX1_shift 83 = .ok (.i2l, 1) := by decide +kernel
theorem dX1_shift_84 : decode cX1_shift 84 = .ok (.lmul, 1) := by decide +kernel
theorem dX1_shift_85 : decode cX1_shift 85 = .ok (.lcmp, 1) := by decide +kernel
theorem dX1_shift_86 : decode cX1_shift 86 = .ok (.ifCond .ge 14, 3) := by decide +kernel
theorem dX1_shift_89 : decode cX1_shift 89 = .ok (.aload_n 0, 1) := by decide +kernel
theorem dX1_shift_90 : decode cX1_shift 90 = .ok (.aload_n 0, 1) := by decide +kernel
theorem dX1_shift_91 : decode cX1_shift 91 = .ok (.getfield 16, 3) := by decide +kernel
theorem dX1_shift_94 : decode cX1_shift 94 = .ok (.iconst 1, 1) := by decide +kernel
theorem dX1_shift_95 : decode cX1_shift 95 = .ok (.isub, 1) := by decide +kernel
theorem dX1_shift_96 : decode cX1_shift 96 = .ok (.iconst 3, 1) := by decide +kernel
theorem dX1_shift_97 : decode cX1_shift 97 = .ok (.invokevirtual 107, 3) := by decide +kernel
theorem dX1_shift_100 : decode cX1_shift 100 = .ok (.return_, 1) := by decide +kernel
theorem dX1_change_0 : decode cX1_change 0 = .ok (.aload_n 0, 1) := by decide +kernel
theorem dX1_change_1 : decode cX1_change 1 = .ok (.iload_n 1, 1) := by decide +kernel
theorem dX1_change_2 : decode cX1_change 2 = .ok (.putfield 16, 3) := by decide +kernel
theorem dX1_change_5 : decode cX1_change 5 = .ok (.aload_n 0, 1) := by decide +kernel
theorem dX1_change_6 : decode cX1_change 6 = .ok (.aload_n 0, 1) := by decide +kernel
theorem dX1_change_7 : decode cX1_change 7 = .ok (.getfield 40, 3) := by decide +kernel
theorem dX1_change_10 : decode cX1_change 10 = .ok (.iload_n 2, 1) := by decide +kernel
theorem dX1_change_11 : decode cX1_change 11 = .ok (.iadd, 1) := by decide +kernel
theorem dX1_change_12 : decode cX1_change 12 = .ok (.putfield 129, 3) := by decide +kernel
theorem dX1_change_15 : decode cX1_change 15 = .ok (.return_, 1) := by decide +kernel
theorem dX1_commonDivisor_0 : decode cX1_commonDivisor 0 = .ok (.lload_n 0, 1) := by decide +kernel
theorem dX1_commonDivisor_1 : decode cX1_commonDivisor 1 = .ok (.lstore 4, 2) := by decide +kernel
theorem dX1_commonDivisor_3 : decode cX1_commonDivisor 3 = .ok (.lload_n 2, 1) := by decide +kernel
theorem dX1_commonDivisor_4 : decode cX1_commonDivisor 4 = .ok (.lstore 6, 2) := by decide +kernel
theorem dX1_commonDivisor_6 : decode cX1_commonDivisor 6 = .ok (.iconst 0, 1) := by decide +kernel
theorem dX1_commonDivisor_7 : decode cX1_commonDivisor 7 = .ok (.istore 8, 2) := by decide +kernel
theorem dX1_commonDivisor_9 : decode cX1_commonDivisor 9 = .ok (.iload 8, 2) := by decide +kernel
theorem dX1_commonDivisor_11 : decode cX1_commonDivisor 11 = .ok (.bipush 100, 2) := by decide +kernel
theorem dX1_commonDivisor_13 : decode cX1_commonDivisor 13 = .ok (.if_icmp .ge 31, 3) := by decide +kernel
theorem dX1_commonDivisor_16 : decode cX1_commonDivisor 16 = .ok (.lload 6, 2) := by decide +kernel
theorem dX1_commonDivisor_18 : decode cX1_commonDivisor 18 = .ok (.lconst 0, 1) := by decide +kernel
theorem dX1_commonDivisor_19 : decode cX1_commonDivisor 19 = .ok (.lcmp, 1) := by decide +kernel
theorem dX1_commonDivisor_20 : decode cX1_commonDivisor 20 = .ok (.ifCond .eq 24, 3) := by decide +kernel
theorem dX1_commonDivisor_23 : decode cX1_commonDivisor 23 = .ok (.lload 4, 2) := by decide +kernel
theorem dX1_commonDivisor_25 : decode cX1_commonDivisor 25 = .ok (.lload 6, 2) := by decide +kernel
theorem dX1_commonDivisor_27 : decode cX1_commonDivisor 27 = .ok (.lrem, 1) := by decide +kernel
theorem dX1_commonDivisor_28 : decode cX1_commonDivisor 28 = .ok (.lstore 9, 2) := by decide +kernel
theorem dX1_commonDivisor_30 : decode cX1_commonDivisor 30 = .ok (.lload 6, 2) := by decide +kernel
theorem dX1_commonDivisor_32 : decode cX1_commonDivisor 32 = .ok (.lstore 4, 2) := by decide +kernel
theorem dX1_commonDivisor_34 : decode cX1_commonDivisor 34 = .ok (.lload 9, 2) := by decide +kernel
theorem dX1_commonDivisor_36 : decode cX1_commonDivisor 36 = .ok (.lstore 6, 2) := by decide +kernel
theorem dX1_commonDivisor_38 : decode cX1_commonDivisor 38 = .ok (.iinc 8 1, 3) := by decide +kernel
theorem dX1_commonDivisor_41 : decode cX1_commonDivisor 41 = .ok (.goto (-32), 3) := by decide +kernel
theorem dX1_commonDivisor_44 : decode cX1_commonDivisor 44 = .ok (.lload 4, 2) := by decide +kernel
theorem dX1_commonDivisor_46 : decode cX1_commonDivisor 46 = .ok (.lconst 1, 1) := by decide +kernel
theorem dX1_commonDivisor_47 : decode cX1_commonDivisor 47 = .ok (.invokestatic 122, 3) := by decide +kernel
theorem dX1_commonDivisor_50 : decode cX1_commonDivisor 50 = .ok (.lreturn, 1) := by decide +kernel
theorem dX2_init_0 : decode cX2_init 0 = .ok (.aload_n 0, 1) := by decide +kernel
theorem dX2_init_1 : decode cX2_init 1 = .ok (.invokespecial 1, 3) := by decide +kernel
theorem dX2_init_4 : decode cX2_init 4 = .ok (.aload_n 0, 1) := by decide +kernel
theorem dX2_init_5 : decode cX2_init 5 = .ok (.bipush 9, 2) := by decide +kernel
theorem dX2_init_7 : decode cX2_init 7 = .ok (.newarray .long, 2) := by decide +kernel
theorem dX2_init_9 : decode cX2_init 9 = .ok (.putfield 7, 3) := by decide +kernel
theorem dX2_init_12 : decode cX2_init 12 = .ok (.aload_n 0, 1) := by decide +kernel
theorem dX2_init_13 : decode cX2_init 13 = .ok (.bipush 9, 2) := by decide +kernel
theorem dX2_init_15 : decode cX2_init 15 = .ok (.newarray .boolean, 2) := by decide +kernel
theorem dX2_init_17 : decode cX2_init 17 = .ok (.putfield 13, 3) := by decide +kernel
theorem dX2_init_20 : decode cX2_init 20 = .ok (.aload_n 0, 1) := by decide +kernel
theorem dX2_init_21 : decode cX2_init 21 = .ok (.bipush 9, 2) := by decide +kernel
theorem dX2_init_23 : decode cX2_init 23 = .ok (.newarray .int, 2) := by decide +kernel
theorem dX2_init_25 : decode cX2_init 25 = .ok (.putfield 17, 3) := by decide +kernel
theorem dX2_init_28 : decode cX2_init 28 = .ok (.aload_n 0, 1) := by decide +kernel
theorem dX2_init_29 : decode cX2_init 29 = .ok (.bipush 9, 2) := by decide +kernel
theorem dX2_init_31 : decode cX2_init 31 = .ok (.newarray .long, 2) := by decide +kernel
theorem dX2_init_33 : decode cX2_init 33 = .ok (.putfield 21, 3) := by decide +kernel
theorem dX2_init_36 : decode cX2_init 36 = .ok (.aload_n 0, 1) := by decide +kernel
theorem dX2_init_37 : decode cX2_init 37 = .ok (.bipush 9, 2) := by decide +kernel
theorem dX2_init_39 : decode cX2_init 39 = .ok (.newarray .long, 2) := by decide +kernel
theorem dX2_init_41 : decode cX2_init 41 = .ok (.putfield 24, 3) := by decide +kernel
theorem dX2_init_44 : decode cX2_init 44 = .ok (.aload_n 0, 1) := by decide +kernel
theorem dX2_init_45 : decode cX2_init 45 = .ok (.bipush 9, 2) := by decide +kernel
theorem dX2_init_47 : decode cX2_init 47 = .ok (.newarray .double, 2) := by decide +kernel
theorem dX2_init_49 : decode cX2_init 49 = .ok (.putfield 27, 3) := by decide +kernel
theorem dX2_init_52 : decode cX2_init 52 = .ok (.aload_n 0, 1) := by decide +kernel
theorem dX2_init_53 : decode cX2_init 53 = .ok (.iconst 1, 1) := by decide +kernel
theorem dX2_init_54 : decode cX2_init 54 = .ok (.putfield 31, 3) := by decide +kernel
theorem dX2_init_57 : decode cX2_init 57 = .ok (.aload_n 0, 1) := by decide +kernel
theorem dX2_init_58 : decode cX2_init 58 = .ok (.iload_n 1, 1) := by decide +kernel
theorem dX2_init_59 : decode cX2_init 59 = .ok (.iconst 2, 1) := by decide +kernel
theorem dX2_init_60 : decode cX2_init 60 = .ok (.if_icmp .lt 13, 3) := by decide +kernel
theorem dX2_init_63 : decode cX2_init 63 = .ok (.iload_n 1, 1) := by decide +kernel
theorem dX2_init_64 : decode cX2_init 64 = .ok (.bipush 8, 2) := by decide +kernel
theorem dX2_init_66 : decode cX2_init 66 = .ok (.if_icmp .gt 7, 3) := by decide +kernel
theorem dX2_init_69 : decode cX2_init 69 = .ok (.iload_n 1, 1) := by decide +kernel
theorem dX2_init_70 : decode cX2_init 70 = .ok (.goto 4, 3) := by decide +kernel
theorem dX2_init_73 : decode cX2_init 73 = .ok (.iconst 4, 1) := by decide +kernel
theorem dX2_init_74 : decode cX2_init 74 = .ok (.putfield 35, 3) := by decide +kernel
theorem dX2_init_77 : decode cX2_init 77 = .ok (.iconst 0, 1) := by decide +kernel
theorem dX2_init_78 : decode cX2_init 78 = .ok (.istore_n 2, 1) := by decide +kernel
theorem dX2_init_79 : decode cX2_init 79 = .ok (.iload_n 2, 1) := by decide +kernel
theorem dX2_init_80 : decode cX2_init 80 = .ok (.bipush 9, 2) := by decide +kernel
theorem dX2_init_82 : decode cX2_init 82 = .ok (.if_icmp .ge 18, 3) := by decide +kernel
theorem dX2_init_85 : decode cX2_init 85 = .ok (.aload_n 0, 1) := by decide +kernel
theorem dX2_init_86 : decode cX2_init 86 = .ok (.getfield 24, 3) := by decide +kernel
theorem dX2_init_89 : decode cX2_init 89 = .ok (.iload_n 2, 1) := by decide +kernel
theorem dX2_init_90 : decode cX2_init 90 = .ok (.ldc2_w 38, 3) := by decide +kernel
theorem dX2_init_93 : decode cX2_init 93 = .ok (.lastore, 1) := by decide +kernel
theorem dX2_init_94 : decode cX2_init 94 = .ok (.iinc 2 1, 3) := by decide +kernel
theorem dX2_init_97 : decode cX2_init 97 = .ok (.goto (-18), 3) := by decide +kernel
theorem dX2_init_100 : decode cX2_init 100 = .ok (.return_, 1) := by decide +kernel
theorem dX2_thrown_0 : decode cX2_thrown 0 = .ok (.aload_n 0, 1) := by decide +kernel
theorem dX2_thrown_1 : decode cX2_thrown 1 = .ok (.getfield 40, 3) := by decide +kernel
theorem dX2_thrown_4 : decode cX2_thrown 4 = .ok (.ireturn, 1) := by decide +kernel
theorem dX2_noWheel_0 : decode cX2_noWheel 0 = .ok (.iload_n 1, 1) := by decide +kernel
theorem dX2_noWheel_1 : decode cX2_noWheel 1 = .ok (.iconst 1, 1) := by decide +kernel
theorem dX2_noWheel_2 : decode cX2_noWheel 2 = .ok (.if_icmp .lt 11, 3) := by decide +kernel
theorem dX2_noWheel_5 : decode cX2_noWheel 5 = .ok (.iload_n 1, 1) := by decide +kernel
theorem dX2_noWheel_6 : decode cX2_noWheel 6 = .ok (.aload_n 0, 1) := by decide +kernel
theorem dX2_noWheel_7 : decode cX2_noWheel 7 = .ok (.getfield 35, 3) := by decide +kernel
theorem dX2_noWheel_10 : decode cX2_noWheel 10 = .ok (.if_icmp .le 7, 3) := by decide +kernel
theorem dX2_noWheel_13 : decode cX2_noWheel 13 = .ok (.iconst 1, 1) := by decide +kernel
theorem dX2_noWheel_14 : decode cX2_noWheel 14 = .ok (.goto 4, 3) := by decide +kernel
theorem dX2_noWheel_17 : decode cX2_noWheel 17 = .ok (.iconst 0, 1) := by decide +kernel
theorem dX2_noWheel_18 : decode cX2_noWheel 18 = .ok (.ireturn, 1) := by decide +kernel
set_option maxRecDepth 20000 in
theorem ggX2_wheel_X2_noWheel : GoodIn wsX2_wheel wsX2_noWheel := goodIn_r _ [8, 9, 10, 11, 12, 13, 14, 15, 16, 17, 18, 19, 20, 21, 22, 23] (by decide +kernel) (by decide +kernel)
set_option maxRecDepth 20000 in
theorem gX2_wheel_X2_noWheel : GoodIn wsX2_wheel (wsV RX2 43 RX2 yX2_noWheel wsX2_noWheel) := goodIn_app (goodIn_of _ (by decide +kernel)) ggX2_wheel_X2_noWheel
theorem dX2_wheel_0 : decode cX2_wheel 0 = .ok (.aload_n 0, 1) := by decide +kernel
theorem dX2_wheel_1 : decode cX2_wheel 1 = .ok (.iconst 0, 1) := by decide +kernel
theorem dX2_wheel_2 : decode cX2_wheel 2 = .ok (.putfield 40, 3) := by decide +kernel
theorem dX2_wheel_5 : decode cX2_wheel 5 = .ok (.aload_n 0, 1) := by decide +kernel
theorem dX2_wheel_6 : decode cX2_wheel 6 = .ok (.iload_n 1, 1) := by decide +kernel
theorem dX2_wheel_7 : decode cX2_wheel 7 = .ok (.invokevirtual 43, 3) := by decide +kernel
theorem dX2_wheel_10 : decode cX2_wheel 10 = .ok (.ifCond .eq 5, 3) := by decide +kernel
theorem dX2_wheel_13 : decode cX2_wheel 13 = .ok (.iconst (-1), 1) := by decide +kernel
theorem dX2_wheel_14 : decode cX2_wheel 14 = .ok (.ireturn, 1) := by decide +kernel
theorem dX2_wheel_15 : decode cX2_wheel 15 = .ok (.lload_n 2, 1) := by decide +kernel
theorem dX2_wheel_16 : decode cX2_wheel 16 = .ok (.lconst 0, 1) := by decide +kernel
theorem dX2_wheel_17 : decode cX2_wheel 17 = .ok (.lcmp, 1) := by decide +kernel
theorem dX2_wheel_18 : decode cX2_wheel 18 = .ok (.ifCond .lt 11, 3) := by decide +kernel
theorem dX2_wheel_21 : decode cX2_wheel 21 = .ok (.lload_n 2, 1) := by decide +kernel
theorem dX2_wheel_22 : decode cX2_wheel 22 = .ok (.ldc2_w 47, 3) := by decide +kernel
theorem dX2_wheel_25 : decode cX2_wheel 25 = .ok (.lcmp, 1) := by decide +kernel
theorem dX2_wheel_26 : decode cX2_wheel 26 = .ok (.ifCond .le 6, 3) := by decide +kernel
theorem dX2_wheel_29 : decode cX2_wheel 29 = .ok (.bipush (-2), 2) := by decide +kernel
theorem dX2_wheel_31 : decode cX2_wheel 31 = .ok (.ireturn, 1) := by decide +kernel
theorem dX2_wheel_32 : decode cX2_wheel 32 = .ok (.aload_n 0, 1) := by decide +kernel
theorem dX2_wheel_33 : decode cX2_wheel 33 = .ok (.getfield 7, 3) := by decide +kernel
theorem dX2_wheel_36 : decode cX2_wheel 36 = .ok (.iload_n 1, 1) := by decide +kernel
theorem dX2_wheel_37 : decode cX2_wheel 37 = .ok (.lload_n 2, 1) := by decide +kernel
theorem dX2_wheel_38 : decode cX2_wheel 38 = .ok (.lastore, 1) := by decide +kernel
theorem dX2_wheel_39 : decode cX2_wheel 39 = .ok (.iconst 1, 1) := by decide +kernel
theorem dX2_wheel_40 : decode cX2_wheel 40 = .ok (.ireturn, 1) := by decide +kernel
theorem dX2_lostOnes_0 : decode cX2_lostOnes 0 = .ok (.iconst 0, 1) := by decide +kernel
theorem dX2_lostOnes_1 : decode cX2_lostOnes 1 = .ok (.istore_n 1, 1) := by decide +kernel
theorem dX2_lostOnes_2 : decode cX2_lostOnes 2 = .ok (.iconst 1, 1) := by decide +kernel
theorem dX2_lostOnes_3 : decode cX2_lostOnes 3 = .ok (.istore_n 2, 1) := by decide +kernel
theorem dX2_lostOnes_4 : decode cX2_lostOnes 4 = .ok (.iload_n 2, 1) := by decide +kernel
theorem dX2_lostOnes_5 : decode cX2_lostOnes 5 = .ok (.aload_n 0, 1) := by decide +kernel
theorem dX2_lostOnes_6 : decode cX2_lostOnes 6 = .ok (.getfield 35, 3) := by decide +kernel
theorem dX2_lostOnes_9 : decode cX2_lostOnes 9 = .ok (.if_icmp .gt 26, 3) := by decide +kernel
theorem dX2_lostOnes_12 : decode cX2_lostOnes 12 = .ok (.aload_n 0, 1) := by decide +kernel
theorem dX2_lostOnes_13 : decode cX2_lostOnes 13 = .ok (.getfield 13, 3) := by decide +kernel
theorem dX2_lostOnes_16 : decode cX2_lostOnes 16 = .ok (.iload_n 2, 1) := by decide +kernel
theorem dX2_lostOnes_17 : decode cX2_lostOnes 17 = .ok (.baload, 1) := by decide +kernel
theorem dX2_lostOnes_18 : decode cX2_lostOnes 18 = .ok (.ifCond .eq 9, 3) := by decide +kernel
theorem dX2_lostOnes_21 : decode cX2_lostOnes 21 = .ok (.iload_n 1, 1) := by decide +kernel
theorem dX2_lostOnes_22 : decode cX2_lostOnes 22 = .ok (.iconst 1, 1) := by decide +kernel
theorem dX2_lostOnes_23 : decode cX2_lostOnes 23 = .ok (.iadd, 1) := by decide +kernel
theorem dX2_lostOnes_24 : decode cX2_lostOnes 24 = .ok (.goto 4, 3) := by decide +kernel
theorem dX2_lostOnes_27 : decode cX2_lostOnes 27 = .ok (.iload_n 1, 1) := by decide +kernel
theorem dX2_lostOnes_28 : decode cX2_lostOnes 28 = .ok (.istore_n 1, 1) := by decide +kernel
theorem dX2_lostOnes_29 : decode cX2_lostOnes 29 = .ok (.iinc 2 1, 3) := by decide +kernel
theorem dX2_lostOnes_32 : decode cX2_lostOnes 32 = .ok (.goto (-28), 3) := by decide +kernel
theorem dX2_lostOnes_35 : decode cX2_lostOnes 35 = .ok (.iload_n 1, 1) := by decide +kernel
theorem dX2_lostOnes_36 : decode cX2_lostOnes 36 = .ok (.ireturn, 1) := by decide +kernel
set_option maxRecDepth 20000 in
theorem ggX2_refer_X2_lostOnes : GoodIn wsX2_refer wsX2_lostOnes := goodIn_r _ [10, 1, 2, 11, 12, 13, 14, 15, 16, 17, 18, 19, 20, 21, 22, 23, 24] (by decide +kernel) (by decide +kernel)
set_option maxRecDepth 20000 in
theorem gX2_refer_X2_lostOnes : GoodIn wsX2_refer (wsV RX2 49 RX2 yX2_lostOnes wsX2_lostOnes) := goodIn_app (goodIn_of _ (by decide +kernel)) ggX2_refer_X2_lostOnes
theorem dX2_refer_0 : decode cX2_refer 0 = .ok (.lconst 0, 1) := by decide +kernel
theorem dX2_refer_1 : decode cX2_refer 1 = .ok (.lstore_n 3, 1) := by decide +kernel
theorem dX2_refer_2 : decode cX2_refer 2 = .ok (.iconst 1, 1) := by decide +kernel
theorem dX2_refer_3 : decode cX2_refer 3 = .ok (.istore 5, 2) := by decide +kernel
theorem dX2_refer_5 : decode cX2_refer 5 = .ok (.iload 5, 2) := by decide +kernel
theorem dX2_refer_7 : decode cX2_refer 7 = .ok (.aload_n 0, 1) := by decide +kernel
theorem dX2_refer_8 : decode cX2_refer 8 = .ok (.getfield 35, 3) := by decide +kernel
theorem dX2_refer_11 : decode cX2_refer 11 = .ok (.if_icmp .gt 43, 3) := by decide +kernel
theorem dX2_refer_14 : decode cX2_refer 14 = .ok (.aload_n 0, 1) := by decide +kernel
theorem dX2_refer_15 : decode cX2_refer 15 = .ok (.getfield 13, 3) := by decide +kernel
theorem dX2_refer_18 : decode cX2_refer 18 = .ok (.iload 5, 2) := by decide +kernel
theorem dX2_refer_20 : decode cX2_refer 20 = .ok (.baload, 1) := by decide +kernel
theorem dX2_refer_21 : decode cX2_refer 21 = .ok (.ifCond .ne 25, 3) := by decide +kernel
theorem dX2_refer_24 : decode cX2_refer 24 = .ok (.aload_n 0, 1) := by decide +kernel
theorem dX2_refer_25 : decode cX2_refer 25 = .ok (.getfield 7, 3) := by decide +kernel
theorem dX2_refer_28 : decode cX2_refer 28 = .ok (.iload 5, 2) := by decide +kernel
theorem dX2_refer_30 : decode cX2_refer 30 = .ok (.laload, 1) := by decide +kernel
theorem dX2_refer_31 : decode cX2_refer 31 = .ok (.lload_n 3, 1) := by decide +kernel
theorem dX2_refer_32 : decode cX2_refer 32 = .ok (.lcmp, 1) := by decide +kernel
theorem dX2_refer_33 : decode cX2_refer 33 = .ok (.ifCond .le 13, 3) := by decide +kernel
theorem dX2_refer_36 : decode cX2_refer 36 = .ok (.aload_n 0, 1) := by decide +kernel
theorem dX2_refer_37 : decode cX2_refer 37 = .ok (.getfield 7, 3) := by decide +kernel
theorem dX2_refer_40 : decode cX2_refer 40 = .ok (.iload 5, 2) := by decide +kernel
theorem dX2_refer_42 : decode cX2_refer 42 = .ok (.laload, 1) := by decide +kernel
theorem dX2_refer_43 : decode cX2_refer 43 = .ok (.goto 4, 3) := by decide +kernel
theorem dX2_refer_46 : decode cX2_refer 46 = .ok (.lload_n 3, 1) := by decide +kernel
theorem dX2_refer_47 : decode cX2_refer 47 = .ok (.lstore_n 3, 1) := by decide +kernel
theorem dX2_refer_48 : decode cX2_refer 48 = .ok (.iinc 5 1, 3) := by decide +kernel
theorem dX2_refer_51 : decode cX2_refer 51 = .ok (.goto (-46), 3) := by decide +kernel
theorem dX2_refer_54 : decode cX2_refer 54 = .ok (.aload_n 0, 1) := by decide +kernel
theorem dX2_refer_55 : decode cX2_refer 55 = .ok (.invokevirtual 49, 3) := by decide +kernel
theorem dX2_refer_58 : decode cX2_refer 58 = .ok (.aload_n 0, 1) := by decide +kernel
theorem dX2_refer_59 : decode cX2_refer 59 = .ok (.getfield 35, 3) := by decide +kernel
theorem dX2_refer_62 : decode cX2_refer 62 = .ok (.if_icmp .ne 7, 3) := by decide +kernel
theorem dX2_refer_65 : decode cX2_refer 65 = .ok (.iconst 1, 1) := by decide +kernel
theorem dX2_refer_66 : decode cX2_refer 66 = .ok (.goto 4, 3) := by decide +kernel
theorem dX2_refer_69 : decode cX2_refer 69 = .ok (.iconst 0, 1) := by decide +kernel
theorem dX2_refer_70 : decode cX2_refer 70 = .ok (.istore 5, 2) := by decide +kernel
theorem dX2_refer_72 : decode cX2_refer 72 = .ok (.aload_n 0, 1) := by decide +kernel
theorem dX2_refer_73 : decode cX2_refer 73 = .ok (.getfield 53, 3) := by decide +kernel
theorem dX2_refer_76 : decode cX2_refer 76 = .ok (.ldc2_w 57, 3) := by decide +kernel
theorem dX2_refer_79 : decode cX2_refer 79 = .ok (.lcmp, 1) := by decide +kernel
theorem dX2_refer_80 : decode cX2_refer 80 = .ok (.ifCond .ge 7, 3) := by decide +kernel
theorem dX2_refer_83 : decode cX2_refer 83 = .ok (.lconst 0, 1) := by decide +kernel
theorem dX2_refer_84 : decode cX2_refer 84 = .ok (.goto 11, 3) := by decide +kernel
theorem dX2_refer_87 : decode cX2_refer 87 = .ok (.aload_n 0, 1) := by decide +kernel
theorem dX2_refer_88 : decode cX2_refer 88 = .ok (.getfield 53, 3) := by decide +kernel
theorem dX2_refer_91 : decode cX2_refer 91 = .ok (.ldc2_w 57, 3) := by decide +kernel
theorem dX2_refer_94 : decode cX2_refer 94 = .ok (.lsub, 1) := by decide +kernel
theorem dX2_refer_95 : decode cX2_refer 95 = .ok (.lstore 6, 2) := by decide +kernel
theorem dX2_refer_97 : decode cX2_refer 97 = .ok (.iload 5, 2) := by decide +kernel
theorem dX2_refer_99 : decode cX2_refer 99 = .ok (.ifCond .eq 12, 3) := by decide +kernel
theorem dX2_refer_102 : decode cX2_refer 102 = .ok (.aload_n 0, 1) := by decide +kernel
theorem dX2_refer_103 : decode cX2_refer 103 = .ok (.lload 6, 2) := by decide +kernel
theorem dX2_refer_105 : decode cX2_refer 105 = .ok (.putfield 53, 3) := by decide +kernel
theorem dX2_refer_108 : decode cX2_refer 108 = .ok (.goto 26, 3) := by decide +kernel
theorem dX2_refer_111 : decode cX2_refer 111 = .ok (.aload_n 0, 1) := by decide +kernel
theorem dX2_refer_112 : decode cX2_refer 112 = .ok (.lload_n 1, 1) := by decide +kernel
theorem dX2_refer_113 : decode cX2_refer 113 = .ok (.lconst 0, 1) := by decide +kernel
theorem dX2_refer_114 : decode cX2_refer 114 = .ok (.lcmp, 1) := by decide +kernel
theorem dX2_refer_115 : decode cX2_refer 115 = .ok (.ifCond .le 15, 3) := by decide +kernel
theorem dX2_refer_118 : decode cX2_refer 118 = .ok (.lload 6, 2) := by decide +kernel
theorem dX2_refer_120 : decode cX2_refer 120 = .ok (.lload_n 3, 1) := by decide +kernel
theorem dX2_refer_121 : decode cX2_refer 121 = .ok (.lcmp, 1) := by decide +kernel
theorem dX2_refer_122 : decode cX2_refer 122 = .ok (.ifCond .le 8, 3) := by decide +kernel
theorem dX2_refer_125 : decode cX2_refer 125 = .ok (.lload 6, 2) := by decide +kernel
theorem dX2_refer_127 : decode cX2_refer 127 = .ok (.goto 4, 3) := by decide +kernel
theorem dX2_refer_130 : decode cX2_refer 130 = .ok (.lload_n 3, 1) := by decide +kernel
theorem dX2_refer_131 : decode cX2_refer 131 = .ok (.putfield 53, 3) := by decide +kernel
theorem dX2_refer_134 : decode cX2_refer 134 = .ok (.return_, 1) := by decide +kernel
theorem dX2_phaseOf_0 : decode cX2_phaseOf 0 = .ok (.aload_n 0, 1) := by decide +kernel
theorem dX2_phaseOf_1 : decode cX2_phaseOf 1 = .ok (.getfield 13, 3) := by decide +kernel
theorem dX2_phaseOf_4 : decode cX2_phaseOf 4 = .ok (.iload_n 1, 1) := by decide +kernel
theorem dX2_phaseOf_5 : decode cX2_phaseOf 5 = .ok (.baload, 1) := by decide +kernel
theorem dX2_phaseOf_6 : decode cX2_phaseOf 6 = .ok (.ifCond .ne 18, 3) := by decide +kernel
theorem dX2_phaseOf_9 : decode cX2_phaseOf 9 = .ok (.aload_n 0, 1) := by decide +kernel
theorem dX2_phaseOf_10 : decode cX2_phaseOf 10 = .ok (.getfield 53, 3) := by decide +kernel
theorem dX2_phaseOf_13 : decode cX2_phaseOf 13 = .ok (.lconst 0, 1) := by decide +kernel
theorem dX2_phaseOf_14 : decode cX2_phaseOf 14 = .ok (.lcmp, 1) := by decide +kernel
theorem dX2_phaseOf_15 : decode cX2_phaseOf 15 = .ok (.ifCond .eq 9, 3) := by decide +kernel
theorem dX2_phaseOf_18 : decode cX2_phaseOf 18 = .ok (.lload_n 2, 1) := by decide +kernel
theorem dX2_phaseOf_19 : decode cX2_phaseOf 19 = .ok (.lconst 0, 1) := by decide +kernel
theorem dX2_phaseOf_20 : decode cX2_phaseOf 20 = .ok (.lcmp, 1) := by decide +kernel
theorem dX2_phaseOf_21 : decode cX2_phaseOf 21 = .ok (.ifCond .ne 5, 3) := by decide +kernel
theorem dX2_phaseOf_24 : decode cX2_phaseOf 24 = .ok (.iconst 0, 1) := by decide +kernel
theorem dX2_phaseOf_25 : decode cX2_phaseOf 25 = .ok (.ireturn, 1) := by decide +kernel
theorem dX2_phaseOf_26 : decode cX2_phaseOf 26 = .ok (.ldc2_w 38, 3) := by decide +kernel
theorem dX2_phaseOf_29 : decode cX2_phaseOf 29 = .ok (.aload_n 0, 1) := by decide +kernel
theorem dX2_phaseOf_30 : decode cX2_phaseOf 30 = .ok (.getfield 7, 3) := by decide +kernel
theorem dX2_phaseOf_33 : decode cX2_phaseOf 33 = .ok (.iload_n 1, 1) := by decide +kernel
theorem dX2_phaseOf_34 : decode cX2_phaseOf 34 = .ok (.laload, 1) := by decide +kernel
theorem dX2_phaseOf_35 : decode cX2_phaseOf 35 = .ok (.lmul, 1) := by decide +kernel
theorem dX2_phaseOf_36 : decode cX2_phaseOf 36 = .ok (.ldc2_w 59, 3) := by decide +kernel
theorem dX2_phaseOf_39 : decode cX2_phaseOf 39 = .ok (.aload_n 0, 1) := by decide +kernel
theorem dX2_phaseOf_40 : decode cX2_phaseOf 40 = .ok (.getfield 53, 3) := by decide +kernel
theorem dX2_phaseOf_43 : decode cX2_phaseOf 43 = .ok (.lmul, 1) := by decide +kernel
theorem dX2_phaseOf_44 : decode cX2_phaseOf 44 = .ok (.lcmp, 1) := by decide +kernel
theorem dX2_phaseOf_45 : decode cX2_phaseOf 45 = .ok (.ifCond .ge 5, 3) := by decide +kernel
theorem dX2_phaseOf_48 : decode cX2_phaseOf 48 = .ok (.iconst 2, 1) := by decide +kernel
theorem dX2_phaseOf_49 : decode cX2_phaseOf 49 = .ok (.ireturn, 1) := by decide +kernel
theorem dX2_phaseOf_50 : decode cX2_phaseOf 50 = .ok (.ldc2_w 38, 3) := by decide +kernel
theorem dX2_phaseOf_53 : decode cX2_phaseOf 53 = .ok (.aload_n 0, 1) := by decide +kernel
theorem dX2_phaseOf_54 : decode cX2_phaseOf 54 = .ok (.getfield 7, 3) := by decide +kernel
theorem dX2_phaseOf_57 : decode cX2_phaseOf 57 = .ok (.iload_n 1, 1) := by decide +kernel
theorem dX2_phaseOf_58 : decode cX2_phaseOf 58 = .ok (.laload, 1) := by decide +kernel
theorem dX2_phaseOf_59 : decode cX2_phaseOf 59 = .ok (.lmul, 1) := by decide +kernel
theorem dX2_phaseOf_60 : decode cX2_phaseOf 60 = .ok (.ldc2_w 61, 3) := by decide +kernel
theorem dX2_phaseOf_63 : decode cX2_phaseOf 63 = .ok (.aload_n 0, 1) := by decide +kernel
theorem dX2_phaseOf_64 : decode cX2_phaseOf 64 = .ok (.getfield 53, 3) := by decide +kernel
theorem dX2_phaseOf_67 : decode cX2_phaseOf 67 = .ok (.lmul, 1) := by decide +kernel
theorem dX2_phaseOf_68 : decode cX2_phaseOf 68 = .ok (.lcmp, 1) := by decide +kernel
theorem dX2_phaseOf_69 : decode cX2_phaseOf 69 = .ok (.ifCond .ge 5, 3) := by decide +kernel
theorem dX2_phaseOf_72 : decode cX2_phaseOf 72 = .ok (.iconst 1, 1) := by decide +kernel
theorem dX2_phaseOf_73 : decode cX2_phaseOf 73 = .ok (.ireturn, 1) := by decide +kernel
theorem dX2_phaseOf_74 : decode cX2_phaseOf 74 = .ok (.aload_n 0, 1) := by decide +kernel
theorem dX2_phaseOf_75 : decode cX2_phaseOf 75 = .ok (.getfield 17, 3) := by decide +kernel
theorem dX2_phaseOf_78 : decode cX2_phaseOf 78 = .ok (.iload_n 1, 1) := by decide +kernel
theorem dX2_phaseOf_79 : decode cX2_phaseOf 79 = .ok (.iaload, 1) := by decide +kernel
theorem dX2_phaseOf_80 : decode cX2_phaseOf 80 = .ok (.istore 4, 2) := by decide +kernel
theorem dX2_phaseOf_82 : decode cX2_phaseOf 82 = .ok (.iload 4, 2) := by decide +kernel
theorem dX2_phaseOf_84 : decode cX2_phaseOf 84 = .ok (.iconst 1, 1) := by decide +kernel
theorem dX2_phaseOf_85 : decode cX2_phaseOf 85 = .ok (.if_icmp .eq 26, 3) := by decide +kernel
theorem dX2_phaseOf_88 : decode cX2_phaseOf 88 = .ok (.iload 4, 2) := by decide +kernel
theorem dX2_phaseOf_90 : decode cX2_phaseOf 90 = .ok (.iconst 2, 1) := by decide +kernel
theorem dX2_phaseOf_91 : decode cX2_phaseOf 91 = .ok (.if_icmp .eq 20, 3) := by decide +kernel
theorem dX2_phaseOf_94 : decode cX2_phaseOf 94 = .ok (.iload 4, 2) := by decide +kernel
theorem dX2_phaseOf_96 : decode cX2_phaseOf 96 = .ok (.iconst 3, 1) := by decide +kernel
theorem dX2_phaseOf_97 : decode cX2_phaseOf 97 = .ok (.if_icmp .ne 18, 3) := by decide +kernel
theorem dX2_phaseOf_100 : decode cX2_phaseOf 100 = .ok (.aload_n 0, 1) := by decide +kernel
theorem dX2_phaseOf_101 : decode cX2_phaseOf 101 = .ok (.getfield 21, 3) := by decide +kernel
theorem dX2_phaseOf_104 : decode cX2_phaseOf 104 = .ok (.iload_n 1, 1) := by decide +kernel
theorem dX2_phaseOf_105 : decode cX2_phaseOf 105 = .ok (.laload, 1) := by decide +kernel
theorem dX2_phaseOf_106 : decode cX2_phaseOf 106 = .ok (.lload_n 2, 1) := by decide +kernel
theorem dX2_phaseOf_107 : decode cX2_phaseOf 107 = .ok (.lcmp, 1) := by decide +kernel
theorem dX2_phaseOf_108 : decode cX2_phaseOf 108 = .ok (.ifCond .ge 7, 3) := by decide +kernel
theorem dX2_phaseOf_111 : decode cX2_phaseOf 111 = .ok (.iconst 3, 1) := by decide +kernel
theorem dX2_phaseOf_112 : decode cX2_phaseOf 112 = .ok (.goto 4, 3) := by decide +kernel
theorem dX2_phaseOf_115 : decode cX2_phaseOf 115 = .ok (.iconst 0, 1) := by decide +kernel
theorem dX2_phaseOf_116 : decode cX2_phaseOf 116 = .ok (.ireturn, 1) := by decide +kernel
theorem dX2_pressureOf_0 : decode cX2_pressureOf 0 = .ok (.aload_n 0, 1) := by decide +kernel
theorem dX2_pressureOf_1 : decode cX2_pressureOf 1 = .ok (.getfield 21, 3) := by decide +kernel
theorem dX2_pressureOf_4 : decode cX2_pressureOf 4 = .ok (.iload_n 1, 1) := by decide +kernel
theorem dX2_pressureOf_5 : decode cX2_pressureOf 5 = .ok (.laload, 1) := by decide +kernel
theorem dX2_pressureOf_6 : decode cX2_pressureOf 6 = .ok (.lstore 4, 2) := by decide +kernel
theorem dX2_pressureOf_8 : decode cX2_pressureOf 8 = .ok (.aload_n 0, 1) := by decide +kernel
theorem dX2_pressureOf_9 : decode cX2_pressureOf 9 = .ok (.getfield 17, 3) := by decide +kernel
theorem dX2_pressureOf_12 : decode cX2_pressureOf 12 = .ok (.iload_n 1, 1) := by decide +kernel
theorem dX2_pressureOf_13 : decode cX2_pressureOf 13 = .ok (.iaload, 1) := by decide +kernel
theorem dX2_pressureOf_14 : decode cX2_pressureOf 14 = .ok (.ifCond .ne 9, 3) := by decide +kernel
theorem dX2_pressureOf_17 : decode cX2_pressureOf 17 = .ok (.lload_n 2, 1) := by decide +kernel
theorem dX2_pressureOf_18 : decode cX2_pressureOf 18 = .ok (.lstore 4, 2) := by decide +kernel
theorem dX2_pressureOf_20 : decode cX2_pressureOf 20 = .ok (.goto 70, 3) := by decide +kernel
theorem dX2_pressureOf_23 : decode cX2_pressureOf 23 = .ok (.aload_n 0, 1) := by decide +kernel
theorem dX2_pressureOf_24 : decode cX2_pressureOf 24 = .ok (.getfield 17, 3) := by decide +kernel
theorem dX2_pressureOf_27 : decode cX2_pressureOf 27 = .ok (.iload_n 1, 1) := by decide +kernel
theorem dX2_pressureOf_28 : decode cX2_pressureOf 28 = .ok (.iaload, 1) := by decide +kernel
theorem dX2_pressureOf_29 : decode cX2_pressureOf 29 = .ok (.iconst 2, 1) := by decide +kernel
theorem dX2_pressureOf_30 : decode cX2_pressureOf 30 = .ok (.if_icmp .ne 27, 3) := by decide +kernel
theorem dX2_pressureOf_33 : decode cX2_pressureOf 33 = .ok (.lload 4, 2) := by decide +kernel
theorem dX2_pressureOf_35 : decode cX2_pressureOf 35 = .ok (.ldc2_w 63, 3) := by decide +kernel
theorem dX2_pressureOf_38 : decode cX2_pressureOf 38 = .ok (.lcmp, 1) := by decide +kernel
theorem dX2_pressureOf_39 : decode cX2_pressureOf 39 = .ok (.ifCond .ge 7, 3) := by decide +kernel
theorem dX2_pressureOf_42 : decode cX2_pressureOf 42 = .ok (.lconst 0, 1) := by decide +kernel
theorem dX2_pressureOf_43 : decode cX2_pressureOf 43 = .ok (.goto 9, 3) := by decide +kernel
theorem dX2_pressureOf_46 : decode cX2_pressureOf 46 = .ok (.lload 4, 2) := by decide +kernel
theorem dX2_pressureOf_48 : decode cX2_pressureOf 48 = .ok (.ldc2_w 63, 3) := by decide +kernel
theorem dX2_pressureOf_51 : decode cX2_pressureOf 51 = .ok (.lsub, 1) := by decide +kernel
theorem dX2_pressureOf_52 : decode cX2_pressureOf 52 = .ok (.lstore 4, 2) := by decide +kernel
theorem dX2_pressureOf_54 : decode cX2_pressureOf 54 = .ok (.goto 36, 3) := by decide +kernel
theorem dX2_pressureOf_57 : decode cX2_pressureOf 57 = .ok (.aload_n 0, 1) := by decide +kernel
theorem dX2_pressureOf_58 : decode cX2_pressureOf 58 = .ok (.getfield 17, 3) := by decide +kernel
theorem dX2_pressureOf_61 : decode cX2_pressureOf 61 = .ok (.iload_n 1, 1) := by decide +kernel
theorem dX2_pressureOf_62 : decode cX2_pressureOf 62 = .ok (.iaload, 1) := by decide +kernel
theorem dX2_pressureOf_63 : decode cX2_pressureOf 63 = .ok (.iconst 3, 1) := by decide +kernel
theorem dX2_pressureOf_64 : decode cX2_pressureOf 64 = .ok (.if_icmp .ne 26, 3) := by decide +kernel
theorem dX2_pressureOf_67 : decode cX2_pressureOf 67 = .ok (.lload 4, 2) := by decide +kernel
theorem dX2_pressureOf_69 : decode cX2_pressureOf 69 = .ok (.ldc2_w 65, 3) := by decide +kernel
theorem dX2_pressureOf_72 : decode cX2_pressureOf 72 = .ok (.ladd, 1) := by decide +kernel
theorem dX2_pressureOf_73 : decode cX2_pressureOf 73 = .ok (.lload_n 2, 1) := by decide +kernel
theorem dX2_pressureOf_74 : decode cX2_pressureOf 74 = .ok (.lcmp, 1) := by decide +kernel
theorem dX2_pressureOf_75 : decode cX2_pressureOf 75 = .ok (.ifCond .le 7, 3) := by decide +kernel
theorem dX2_pressureOf_78 : decode cX2_pressureOf 78 = .ok (.lload_n 2, 1) := by decide +kernel
theorem dX2_pressureOf_79 : decode cX2_pressureOf 79 = .ok (.goto 9, 3) := by decide +kernel
theorem dX2_pressureOf_82 : decode cX2_pressureOf 82 = .ok (.lload 4, 2) := by decide +kernel
theorem dX2_pressureOf_84 : decode cX2_pressureOf 84 = .ok (.ldc2_w 65, 3) := by decide +kernel
theorem dX2_pressureOf_87 : decode cX2_pressureOf 87 = .ok (.ladd, 1) := by decide +kernel
theorem dX2_pressureOf_88 : decode cX2_pressureOf 88 = .ok (.lstore 4, 2) := by decide +kernel
theorem dX2_pressureOf_90 : decode cX2_pressureOf 90 = .ok (.aload_n 0, 1) := by decide +kernel
theorem dX2_pressureOf_91 : decode cX2_pressureOf 91 = .ok (.getfield 67, 3) := by decide +kernel
theorem dX2_pressureOf_94 : decode cX2_pressureOf 94 = .ok (.ifCond .eq 18, 3) := by decide +kernel
theorem dX2_pressureOf_97 : decode cX2_pressureOf 97 = .ok (.lload 4, 2) := by decide +kernel
theorem dX2_pressureOf_99 : decode cX2_pressureOf 99 = .ok (.ldc2_w 71, 3) := by decide +kernel
theorem dX2_pressureOf_102 : decode cX2_pressureOf 102 = .ok (.lcmp, 1) := by decide +kernel
theorem dX2_pressureOf_103 : decode cX2_pressureOf 103 = .ok (.ifCond .ge 9, 3) := by decide +kernel
theorem dX2_pressureOf_106 : decode cX2_pressureOf 106 = .ok (.ldc2_w 71, 3) := by decide +kernel
theorem dX2_pressureOf_109 : decode cX2_pressureOf 109 = .ok (.goto 5, 3) := by decide +kernel
theorem dX2_pressureOf_112 : decode cX2_pressureOf 112 = .ok (.lload 4, 2) := by decide +kernel
theorem dX2_pressureOf_114 : decode cX2_pressureOf 114 = .ok (.lstore 4, 2) := by decide +kernel
theorem dX2_pressureOf_116 : decode cX2_pressureOf 116 = .ok (.lload 4, 2) := by decide +kernel
theorem dX2_pressureOf_118 : decode cX2_pressureOf 118 = .ok (.aload_n 0, 1) := by decide +kernel
theorem dX2_pressureOf_119 : decode cX2_pressureOf 119 = .ok (.getfield 24, 3) := by decide +kernel
theorem dX2_pressureOf_122 : decode cX2_pressureOf 122 = .ok (.iload_n 1, 1) := by decide +kernel
theorem dX2_pressureOf_123 : decode cX2_pressureOf 123 = .ok (.laload, 1) := by decide +kernel
theorem dX2_pressureOf_124 : decode cX2_pressureOf 124 = .ok (.lcmp, 1) := by decide +kernel
theorem dX2_pressureOf_125 : decode cX2_pressureOf 125 = .ok (.ifCond .le 12, 3) := by decide +kernel
theorem dX2_pressureOf_128 : decode cX2_pressureOf 128 = .ok (.aload_n 0, 1) := by decide +kernel
theorem dX2_pressureOf_129 : decode cX2_pressureOf 129 = .ok (.getfield 24, 3) := by decide +kernel
theorem dX2_pressureOf_132 : decode cX2_pressureOf 132 = .ok (.iload_n 1, 1) := by decide +kernel
theorem dX2_pressureOf_133 : decode cX2_pressureOf 133 = .ok (.laload, 1) := by decide +kernel
theorem dX2_pressureOf_134 : decode cX2_pressureOf 134 = .ok (.goto 5, 3) := by decide +kernel
theorem dX2_pressureOf_137 : decode cX2_pressureOf 137 = .ok (.lload 4, 2) := by decide +kernel
theorem dX2_pressureOf_139 : decode cX2_pressureOf 139 = .ok (.lreturn, 1) := by decide +kernel
set_option maxRecDepth 20000 in
theorem ggX2_step_X2_refer : GoodIn wsX2_step wsX2_refer := goodIn_r _ [24, 6, 25, 11, 14, 26, 27, 28, 29, 23, 30, 47, 48, 49, 50, 51, 52, 53, 54, 55, 56, 57, 58, 59, 60] (by decide +kernel) (by decide +kernel)
set_option maxRecDepth 20000 in
theorem gX2_step_X2_refer : GoodIn wsX2_step (wsV RX2 78 RX2 yX2_refer wsX2_refer) := goodIn_app (goodIn_of _ (by decide +kernel)) ggX2_step_X2_refer
set_option maxRecDepth 20000 in
theorem ggX2_step_X2_phaseOf : GoodIn wsX2_step wsX2_phaseOf := goodIn_r _ [34, 25, 14, 2, 11, 35, 36, 7, 8, 47, 48, 49, 50, 51, 52, 53, 54, 55, 56, 57, 58, 59, 60] (by decide +kernel) (by decide +kernel)
set_option maxRecDepth 20000 in
theorem gX2_step_X2_phaseOf : GoodIn wsX2_step (wsV RX2 82 RX2 yX2_phaseOf wsX2_phaseOf) := goodIn_app (goodIn_of _ (by decide +kernel)) ggX2_step_X2_phaseOf
set_option maxRecDepth 20000 in
theorem ggX2_step_X2_pressureOf : GoodIn wsX2_step wsX2_pressureOf := goodIn_r _ [40, 8, 7, 19, 41, 13, 4, 42, 47, 48, 49, 50, 51, 52, 53, 54, 55, 56, 57, 58, 59, 60] (by decide +kernel) (by decide +kernel)
set_option maxRecDepth 20000 in
theorem gX2_step_X2_pressureOf : GoodIn wsX2_step (wsV RX2 86 RX2 yX2_pressureOf wsX2_pressureOf) := goodIn_app (goodIn_of _ (by decide +kernel)) ggX2_step_X2_pressureOf
set_option maxRecDepth 20000 in
theorem ggX2_step_X2_turn : GoodIn wsX2_step wsX2_turn := goodIn_r _ [46, 18, 5, 16, 17, 47, 48, 49, 50, 51, 52, 53, 54, 55, 56, 57, 58, 59, 60] (by decide +kernel) (by decide +kernel)
set_option maxRecDepth 20000 in
theorem gX2_step_X2_turn : GoodIn wsX2_step (wsV RX2 102 RX2 yX2_turn wsX2_turn) := goodIn_app (goodIn_of _ (by decide +kernel)) ggX2_step_X2_turn
theorem dX2_step_0 : decode cX2_step 0 = .ok (.aload_n 0, 1) := by decide +kernel
theorem dX2_step_1 : decode cX2_step 1 = .ok (.iconst 0, 1) := by decide +kernel
theorem dX2_step_2 : decode cX2_step 2 = .ok (.putfield 40, 3) := by decide +kernel
theorem dX2_step_5 : decode cX2_step 5 = .ok (.lload_n 1, 1) := by decide +kernel
theorem dX2_step_6 : decode cX2_step 6 = .ok (.lconst 0, 1) := by decide +kernel
theorem dX2_step_7 : decode cX2_step 7 = .ok (.lcmp, 1) := by decide +kernel
theorem dX2_step_8 : decode cX2_step 8 = .ok (.ifCond .lt 27, 3) := by decide +kernel
theorem dX2_step_11 : decode cX2_step 11 = .ok (.lload_n 1, 1) := by decide +kernel
theorem dX2_step_12 : decode cX2_step 12 = .ok (.ldc2_w 38, 3) := by decide +kernel
theorem dX2_step_15 : decode cX2_step 15 = .ok (.lcmp, 1) := by decide +kernel
theorem dX2_step_16 : decode cX2_step 16 = .ok (.ifCond .gt 19, 3) := by decide +kernel
theorem dX2_step_19 : decode cX2_step 19 = .ok (.lload_n 3, 1) := by decide +kernel
theorem dX2_step_20 : decode cX2_step 20 = .ok (.ldc2_w 73, 3) := by decide +kernel
theorem dX2_step_23 : decode cX2_step 23 = .ok (.lcmp, 1) := by decide +kernel
theorem dX2_step_24 : decode cX2_step 24 = .ok (.ifCond .lt 11, 3) := by decide +kernel
theorem dX2_step_27 : decode cX2_step 27 = .ok (.lload_n 3, 1) := by decide +kernel
theorem dX2_step_28 : decode cX2_step 28 = .ok (.ldc2_w 71, 3) := by decide +kernel
theorem dX2_step_31 : decode cX2_step 31 = .ok (.lcmp, 1) := by decide +kernel
theorem dX2_step_32 : decode cX2_step 32 = .ok (.ifCond .le 6, 3) := by decide +kernel
theorem dX2_step_35 : decode cX2_step 35 = .ok (.bipush (-2), 2) := by decide +kernel
theorem dX2_step_37 : decode cX2_step 37 = .ok (.ireturn, 1) := by decide +kernel
theorem dX2_step_38 : decode cX2_step 38 = .ok (.aload_n 0, 1) := by decide +kernel
theorem dX2_step_39 : decode cX2_step 39 = .ok (.dup, 1) := by decide +kernel
theorem dX2_step_40 : decode cX2_step 40 = .ok (.getfield 75, 3) := by decide +kernel
theorem dX2_step_43 : decode cX2_step 43 = .ok (.iconst 1, 1) := by decide +kernel
theorem dX2_step_44 : decode cX2_step 44 = .ok (.iadd, 1) := by decide +kernel
theorem dX2_step_45 : decode cX2_step 45 = .ok (.putfield 75, 3) := by decide +kernel
theorem dX2_step_48 : decode cX2_step 48 = .ok (.aload_n 0, 1) := by decide +kernel
theorem dX2_step_49 : decode cX2_step 49 = .ok (.lload_n 1, 1) := by decide +kernel
theorem dX2_step_50 : decode cX2_step 50 = .ok (.invokevirtual 78, 3) := by decide +kernel
theorem dX2_step_53 : decode cX2_step 53 = .ok (.iconst 1, 1) := by decide +kernel
theorem dX2_step_54 : decode cX2_step 54 = .ok (.istore 5, 2) := by decide +kernel
theorem dX2_step_56 : decode cX2_step 56 = .ok (.iload 5, 2) := by decide +kernel
theorem dX2_step_58 : decode cX2_step 58 = .ok (.aload_n 0, 1) := by decide +kernel
theorem dX2_step_59 : decode cX2_step 59 = .ok (.getfield 35, 3) := by decide +kernel
theorem dX2_step_62 : decode cX2_step 62 = .ok (.if_icmp .gt 103, 3) := by decide +kernel
theorem dX2_step_65 : decode cX2_step 65 = .ok (.aload_n 0, 1) := by decide +kernel
theorem dX2_step_66 : decode cX2_step 66 = .ok (.getfield 17, 3) := by decide +kernel
theorem dX2_step_69 : decode cX2_step 69 = .ok (.iload 5, 2) := by decide +kernel
theorem dX2_step_71 : decode cX2_step 71 = .ok (.aload_n 0, 1) := by decide +kernel
theorem dX2_step_72 : decode cX2_step 72 = .ok (.iload 5, 2) := by decide +kernel
theorem dX2_step_74 : decode cX2_step 74 = .ok (.lload_n 1, 1) := by decide +kernel
theorem dX2_step_75 : decode cX2_step 75 = .ok (.invokevirtual 82, 3) := by decide +kernel
theorem dX2_step_78 : decode cX2_step 78 = .ok (.iastore, 1) := by decide +kernel
theorem dX2_step_79 : decode cX2_step 79 = .ok (.aload_n 0, 1) := by decide +kernel
theorem dX2_step_80 : decode cX2_step 80 = .ok (.getfield 21, 3) := by decide +kernel
theorem dX2_step_83 : decode cX2_step 83 = .ok (.iload 5, 2) := by decide +kernel
theorem dX2_step_85 : decode cX2_step 85 = .ok (.aload_n 0, 1) := by decide +kernel
theorem dX2_step_86 : decode cX2_step 86 = .ok (.iload 5, 2) := by decide +kernel
theorem dX2_step_88 : decode cX2_step 88 = .ok (.lload_n 1, 1) := by decide +kernel
theorem dX2_step_89 : decode cX2_step 89 = .ok (.invokevirtual 86, 3) := by decide +kernel
theorem dX2_step_92 : decode cX2_step 92 = .ok (.lastore, 1) := by decide +kernel
theorem dX2_step_93 : decode cX2_step 93 = .ok (.aload_n 0, 1) := by decide +kernel
theorem dX2_step_94 : decode cX2_step 94 = .ok (.getfield 27, 3) := by decide +kernel
theorem dX2_step_97 : decode cX2_step 97 = .ok (.iload 5, 2) := by decide +kernel
theorem dX2_step_99 : decode cX2_step 99 = .ok (.daload, 1) := by decide +kernel
theorem dX2_step_100 : decode cX2_step 100 = .ok (.dstore 6, 2) := by decide +kernel
theorem dX2_step_102 : decode cX2_step 102 = .ok (.dload 6, 2) := by decide +kernel
theorem dX2_step_104 : decode cX2_step 104 = .ok (.ldc2_w 90, 3) := by decide +kernel
theorem dX2_step_107 : decode cX2_step 107 = .ok (.aload_n 0, 1) := by decide +kernel
theorem dX2_step_108 : decode cX2_step 108 = .ok (.getfield 7, 3) := by decide +kernel
theorem dX2_step_111 : decode cX2_step 111 = .ok (.iload 5, 2) := by decide +kernel
theorem dX2_step_113 : decode cX2_step 113 = .ok (.laload, 1) := by decide +kernel
theorem dX2_step_114 : decode cX2_step 114 = .ok (.l2d, 1) := by decide +kernel
theorem dX2_step_115 : decode cX2_step 115 = .ok (.dload 6, 2) := by decide +kernel
theorem dX2_step_117 : decode cX2_step 117 = .ok (.dsub, 1) := by decide +kernel
theorem dX2_step_118 : decode cX2_step 118 = .ok (.dmul, 1) := by decide +kernel
theorem dX2_step_119 : decode cX2_step 119 = .ok (.dadd, 1) := by decide +kernel
theorem dX2_step_120 : decode cX2_step 120 = .ok (.dstore 6, 2) := by decide +kernel
theorem dX2_step_122 : decode cX2_step 122 = .ok (.dload 6, 2) := by decide +kernel
theorem dX2_step_124 : decode cX2_step 124 = .ok (.ldc2_w 92, 3) := by decide +kernel
theorem dX2_step_127 : decode cX2_step 127 = .ok (.aload_n 0, 1) := by decide +kernel
theorem dX2_step_128 : decode cX2_step 128 = .ok (.getfield 21, 3) := by decide +kernel
theorem dX2_step_131 : decode cX2_step 131 = .ok (.iload 5, 2) := by decide +kernel
theorem dX2_step_133 : decode cX2_step 133 = .ok (.laload, 1) := by decide +kernel
theorem dX2_step_134 : decode cX2_step 134 = .ok (.l2d, 1) := by decide +kernel
theorem dX2_step_135 : decode cX2_step 135 = .ok (.dmul, 1) := by decide +kernel
theorem dX2_step_136 : decode cX2_step 136 = .ok (.dsub, 1) := by decide +kernel
theorem dX2_step_137 : decode cX2_step 137 = .ok (.dstore 6, 2) := by decide +kernel
theorem dX2_step_139 : decode cX2_step 139 = .ok (.aload_n 0, 1) := by decide +kernel
theorem dX2_step_140 : decode cX2_step 140 = .ok (.getfield 27, 3) := by decide +kernel
theorem dX2_step_143 : decode cX2_step 143 = .ok (.iload 5, 2) := by decide +kernel
theorem dX2_step_145 : decode cX2_step 145 = .ok (.dload 6, 2) := by decide +kernel
theorem dX2_step_147 : decode cX2_step 147 = .ok (.dconst 0, 1) := by decide +kernel
theorem dX2_step_148 : decode cX2_step 148 = .ok (.dcmp .g, 1) := by decide +kernel
theorem dX2_step_149 : decode cX2_step 149 = .ok (.ifCond .ge 7, 3) := by decide +kernel
theorem dX2_step_152 : decode cX2_step 152 = .ok (.dconst 0, 1) := by decide +kernel
theorem dX2_step_153 : decode cX2_step 153 = .ok (.goto 5, 3) := by decide +kernel
theorem dX2_step_156 : decode cX2_step 156 = .ok (.dload 6, 2) := by decide +kernel
theorem dX2_step_158 : decode cX2_step 158 = .ok (.dastore, 1) := by decide +kernel
theorem dX2_step_159 : decode cX2_step 159 = .ok (.iinc 5 1, 3) := by decide +kernel
theorem dX2_step_162 : decode cX2_step 162 = .ok (.goto (-106), 3) := by decide +kernel
theorem dX2_step_165 : decode cX2_step 165 = .ok (.aload_n 0, 1) := by decide +kernel
theorem dX2_step_166 : decode cX2_step 166 = .ok (.aload_n 0, 1) := by decide +kernel
theorem dX2_step_167 : decode cX2_step 167 = .ok (.getfield 67, 3) := by decide +kernel
theorem dX2_step_170 : decode cX2_step 170 = .ok (.ifCond .eq 18, 3) := by decide +kernel
theorem dX2_step_173 : decode cX2_step 173 = .ok (.aload_n 0, 1) := by decide +kernel
theorem dX2_step_174 : decode cX2_step 174 = .ok (.getfield 53, 3) := by decide +kernel
theorem dX2_step_177 : decode cX2_step 177 = .ok (.ldc2_w 94, 3) := by decide +kernel
theorem dX2_step_180 : decode cX2_step 180 = .ok (.lcmp, 1) := by decide +kernel
theorem dX2_step_181 : decode cX2_step 181 = .ok (.ifCond .gt 7, 3) := by decide +kernel
theorem dX2_step_184 : decode cX2_step 184 = .ok (.iconst 1, 1) := by decide +kernel
theorem dX2_step_185 : decode cX2_step 185 = .ok (.goto 4, 3) := by decide +kernel
theorem dX2_step_188 : decode cX2_step 188 = .ok (.iconst 0, 1) := by decide +kernel
theorem dX2_step_189 : decode cX2_step 189 = .ok (.putfield 67, 3) := by decide +kernel
theorem dX2_step_192 : decode cX2_step 192 = .ok (.aload_n 0, 1) := by decide +kernel
theorem dX2_step_193 : decode cX2_step 193 = .ok (.getfield 75, 3) := by decide +kernel
theorem dX2_step_196 : decode cX2_step 196 = .ok (.aload_n 0, 1) := by decide +kernel
theorem dX2_step_197 : decode cX2_step 197 = .ok (.getfield 96, 3) := by decide +kernel
theorem dX2_step_200 : decode cX2_step 200 = .ok (.isub, 1) := by decide +kernel
theorem dX2_step_201 : decode cX2_step 201 = .ok (.aload_n 0, 1) := by decide +kernel
theorem dX2_step_202 : decode cX2_step 202 = .ok (.getfield 99, 3) := by decide +kernel
theorem dX2_step_205 : decode cX2_step 205 = .ok (.if_icmp .lt 97, 3) := by decide +kernel
theorem dX2_step_208 : decode cX2_step 208 = .ok (.aload_n 0, 1) := by decide +kernel
theorem dX2_step_209 : decode cX2_step 209 = .ok (.getfield 31, 3) := by decide +kernel
theorem dX2_step_212 : decode cX2_step 212 = .ok (.bipush 6, 2) := by decide +kernel
theorem dX2_step_214 : decode cX2_step 214 = .ok (.if_icmp .ge 50, 3) := by decide +kernel
theorem dX2_step_217 : decode cX2_step 217 = .ok (.aload_n 0, 1) := by decide +kernel
theorem dX2_step_218 : decode cX2_step 218 = .ok (.getfield 53, 3) := by decide +kernel
theorem dX2_step_221 : decode cX2_step 221 = .ok (.ldc2_w 94, 3) := by decide +kernel
theorem dX2_step_224 : decode cX2_step 224 = .ok (.aload_n 0, 1) := by decide +kernel
theorem dX2_step_225 : decode cX2_step 225 = .ok (.getfield 31, 3) := by decide +kernel
theorem dX2_step_228 : decode cX2_step 228 = .ok (.i2l, 1) := by decide +kernel
theorem dX2_step_229 : decode cX2_step 229 = .ok (.lmul, 1) := by decide +kernel
theorem dX2_step_230 : decode cX2_step 230 = .ok (.ldc2_w 63, 3) := by decide +kernel
theorem dX2_step_233 : decode cX2_step 233 = .ok (.ladd, 1) := by decide +kernel
theorem dX2_step_234 : decode cX2_step 234 = .ok (.lload_n 3, 1) := by decide +kernel
theorem dX2_step_235 : decode cX2_step 235 = .ok (.lconst 0, 1) := by decide +kernel
theorem dX2_step_236 : decode cX2_step 236 = .ok (.lcmp, 1) := by decide +kernel
theorem dX2_step_237 : decode cX2_step 237 = .ok (.ifCond .le 7, 3) := by decide +kernel
theorem dX2_step_240 : decode cX2_step 240 = .ok (.lload_n 3, 1) := by decide +kernel
theorem dX2_step_241 : decode cX2_step 241 = .ok (.goto 4, 3) := by decide +kernel
theorem dX2_step_244 : decode cX2_step 244 = .ok (.lconst 0, 1) := by decide +kernel
theorem dX2_step_245 : decode cX2_step 245 = .ok (.ladd, 1) := by decide +kernel
theorem dX2_step_246 : decode cX2_step 246 = .ok (.lcmp, 1) := by decide +kernel
theorem dX2_step_247 : decode cX2_step 247 = .ok (.ifCond .le 17, 3) := by decide +kernel
theorem dX2_step_250 : decode cX2_step 250 = .ok (.aload_n 0, 1) := by decide +kernel
theorem dX2_step_251 : decode cX2_step 251 = .ok (.aload_n 0, 1) := by decide +kernel
theorem dX2_step_252 : decode cX2_step 252 = .ok (.getfield 31, 3) := by decide +kernel
theorem dX2_step_255 : decode cX2_step 255 = .ok (.iconst 1, 1) := by decide +kernel
theorem dX2_step_256 : decode cX2_step 256 = .ok (.iadd, 1) := by decide +kernel
theorem dX2_step_257 : decode cX2_step 257 = .ok (.iconst 3, 1) := by decide +kernel
theorem dX2_step_258 : decode cX2_step 258 = .ok (.invokevirtual 102, 3) := by decide +kernel
theorem dX2_step_261 : decode cX2_step 261 = .ok (.goto 41, 3) := by decide +kernel
theorem dX2_step_264 : decode cX2_step 264 = .ok (.aload_n 0, 1) := by decide +kernel
theorem dX2_step_265 : decode cX2_step 265 = .ok (.getfield 31, 3) := by decide +kernel
theorem dX2_step_268 : decode cX2_step 268 = .ok (.iconst 1, 1) := by decide +kernel
theorem dX2_step_269 : decode cX2_step 269 = .ok (.if_icmp .le 33, 3) := by decide +kernel
theorem dX2_step_272 : decode cX2_step 272 = .ok (.aload_n 0, 1) := by decide +kernel
theorem dX2_step_273 : decode cX2_step 273 = .ok (.getfield 53, 3) := by decide +kernel
theorem dX2_step_276 : decode cX2_step 276 = .ok (.ldc2_w 94, 3) := by decide +kernel
theorem dX2_step_279 : decode cX2_step 279 = .ok (.aload_n 0, 1) := by decide +kernel
theorem dX2_step_280 : decode cX2_step 280 = .ok (.getfield 31, 3) := by decide +kernel
theorem dX2_step_283 : decode cX2_step 283 = .ok (.iconst 1, 1) := by decide +kernel
theorem dX2_step_284 : decode cX2_step 284 = .ok (.isub, 1) := by decide +kernel
theorem dX2_step_285 : decode cX2_step 285 = .ok (.i2l, 1) := by decide +kernel
theorem dX2_step_286 : decode cX2_step 286 = .ok (.lmul, 1) := by decide +kernel
theorem dX2_step_287 : decode cX2_step 287 = .ok (.lcmp, 1) := by decide +kernel
theorem dX2_step_288 : decode cX2_step 288 = .ok (.ifCond .ge 14, 3) := by decide +kernel
theorem dX2_step_291 : decode cX2_step 291 = .ok (.aload_n 0, 1) := by decide +kernel
theorem dX2_step_292 : decode cX2_step 292 = .ok (.aload_n 0, 1) := by decide +kernel
theorem dX2_step_293 : decode cX2_step 293 = .ok (.getfield 31, 3) := by decide +kernel
theorem dX2_step_296 : decode cX2_step 296 = .ok (.iconst 1, 1) := by decide +kernel
theorem dX2_step_297 : decode cX2_step 297 = .ok (.isub, 1) := by decide +kernel
theorem dX2_step_298 : decode cX2_step 298 = .ok (.iconst 3, 1) := by decide +kernel
theorem dX2_step_299 : decode cX2_step 299 = .ok (.invokevirtual 102, 3) := by decide +kernel
theorem dX2_step_302 : decode cX2_step 302 = .ok (.aload_n 0, 1) := by decide +kernel
theorem dX2_step_303 : decode cX2_step 303 = .ok (.getfield 31, 3) := by decide +kernel
theorem dX2_step_306 : decode cX2_step 306 = .ok (.ireturn, 1) := by decide +kernel
theorem dX2_turn_0 : decode cX2_turn 0 = .ok (.aload_n 0, 1) := by decide +kernel
theorem dX2_turn_1 : decode cX2_turn 1 = .ok (.iload_n 1, 1) := by decide +kernel
theorem dX2_turn_2 : decode cX2_turn 2 = .ok (.putfield 31, 3) := by decide +kernel
theorem dX2_turn_5 : decode cX2_turn 5 = .ok (.aload_n 0, 1) := by decide +kernel
theorem dX2_turn_6 : decode cX2_turn 6 = .ok (.aload_n 0, 1) := by decide +kernel
theorem dX2_turn_7 : decode cX2_turn 7 = .ok (.getfield 75, 3) := by decide +kernel
theorem dX2_turn_10 : decode cX2_turn 10 = .ok (.putfield 96, 3) := by decide +kernel
theorem dX2_turn_13 : decode cX2_turn 13 = .ok (.aload_n 0, 1) := by decide +kernel
theorem dX2_turn_14 : decode cX2_turn 14 = .ok (.iload_n 2, 1) := by decide +kernel
theorem dX2_turn_15 : decode cX2_turn 15 = .ok (.putfield 99, 3) := by decide +kernel
theorem dX2_turn_18 : decode cX2_turn 18 = .ok (.return_, 1) := by decide +kernel
set_option maxRecDepth 20000 in
theorem ggX2_phase_X2_noWheel : GoodIn wsX2_phase wsX2_noWheel := goodIn_r _ [7, 8, 9, 10, 11, 12, 13, 14, 15, 16, 17, 18, 19, 20, 21, 22] (by decide +kernel) (by decide +kernel)
set_option maxRecDepth 20000 in
theorem gX2_phase_X2_noWheel : GoodIn wsX2_phase (wsV RX2 43 RX2 yX2_noWheel wsX2_noWheel) := goodIn_app (goodIn_of _ (by decide +kernel)) ggX2_phase_X2_noWheel
theorem dX2_phase_0 : decode cX2_phase 0 = .ok (.aload_n 0, 1) := by decide +kernel
theorem dX2_phase_1 : decode cX2_phase 1 = .ok (.iconst 0, 1) := by decide +kernel
theorem dX2_phase_2 : decode cX2_phase 2 = .ok (.putfield 40, 3) := by decide +kernel
theorem dX2_phase_5 : decode cX2_phase 5 = .ok (.aload_n 0, 1) := by decide +kernel
theorem dX2_phase_6 : decode cX2_phase 6 = .ok (.iload_n 1, 1) := by decide +kernel
theorem dX2_phase_7 : decode cX2_phase 7 = .ok (.invokevirtual 43, 3) := by decide +kernel
theorem dX2_phase_10 : decode cX2_phase 10 = .ok (.ifCond .eq 7, 3) := by decide +kernel
theorem dX2_phase_13 : decode cX2_phase 13 = .ok (.iconst (-1), 1) := by decide +kernel
theorem dX2_phase_14 : decode cX2_phase 14 = .ok (.goto 9, 3) := by decide +kernel
theorem dX2_phase_17 : decode cX2_phase 17 = .ok (.aload_n 0, 1) := by decide +kernel
theorem dX2_phase_18 : decode cX2_phase 18 = .ok (.getfield 17, 3) := by decide +kernel
theorem dX2_phase_21 : decode cX2_phase 21 = .ok (.iload_n 1, 1) := by decide +kernel
theorem dX2_phase_22 : decode cX2_phase 22 = .ok (.iaload, 1) := by decide +kernel
theorem dX2_phase_23 : decode cX2_phase 23 = .ok (.ireturn, 1) := by decide +kernel
set_option maxRecDepth 20000 in
theorem ggX2_pressure_X2_noWheel : GoodIn wsX2_pressure wsX2_noWheel := goodIn_r _ [8, 9, 10, 11, 12, 13, 14, 15, 16, 17, 18, 19, 20, 21, 22, 23] (by decide +kernel) (by decide +kernel)
set_option maxRecDepth 20000 in
theorem gX2_pressure_X2_noWheel : GoodIn wsX2_pressure (wsV RX2 43 RX2 yX2_noWheel wsX2_noWheel) := goodIn_app (goodIn_of _ (by decide +kernel)) ggX2_pressure_X2_noWheel
theorem dX2_pressure_0 : decode cX2_pressure 0 = .ok (.aload_n 0, 1) := by decide +kernel
theorem dX2_pressure_1 : decode cX2_pressure 1 = .ok (.iconst 0, 1) := by decide +kernel
theorem dX2_pressure_2 : decode cX2_pressure 2 = .ok (.putfield 40, 3) := by decide +kernel
theorem dX2_pressure_5 : decode cX2_pressure 5 = .ok (.aload_n 0, 1) := by decide +kernel
theorem dX2_pressure_6 : decode cX2_pressure 6 = .ok (.iload_n 1, 1) := by decide +kernel
theorem dX2_pressure_7 : decode cX2_pressure 7 = .ok (.invokevirtual 43, 3) := by decide +kernel
theorem dX2_pressure_10 : decode cX2_pressure 10 = .ok (.ifCond .eq 9, 3) := by decide +kernel
theorem dX2_pressure_13 : decode cX2_pressure 13 = .ok (.ldc2_w 106, 3) := by decide +kernel
theorem dX2_pressure_16 : decode cX2_pressure 16 = .ok (.goto 9, 3) := by decide +kernel
theorem dX2_pressure_19 : decode cX2_pressure 19 = .ok (.aload_n 0, 1) := by decide +kernel
theorem dX2_pressure_20 : decode cX2_pressure 20 = .ok (.getfield 21, 3) := by decide +kernel
theorem dX2_pressure_23 : decode cX2_pressure 23 = .ok (.iload_n 1, 1) := by decide +kernel
theorem dX2_pressure_24 : decode cX2_pressure 24 = .ok (.laload, 1) := by decide +kernel
theorem dX2_pressure_25 : decode cX2_pressure 25 = .ok (.lreturn, 1) := by decide +kernel
set_option maxRecDepth 20000 in
theorem ggX2_yaw_X2_lostOnes : GoodIn wsX2_yaw wsX2_lostOnes := goodIn_r _ [11, 12, 13, 14, 15, 16, 17, 18, 19, 20, 21, 22, 23, 24, 25, 26, 27] (by decide +kernel) (by decide +kernel)
set_option maxRecDepth 20000 in
theorem gX2_yaw_X2_lostOnes : GoodIn wsX2_yaw (wsV RX2 49 RX2 yX2_lostOnes wsX2_lostOnes) := goodIn_app (goodIn_of _ (by decide +kernel)) ggX2_yaw_X2_lostOnes
theorem dX2_yaw_0 : decode cX2_yaw 0 = .ok (.aload_n 0, 1) := by decide +kernel
theorem dX2_yaw_1 : decode cX2_yaw 1 = .ok (.iconst 0, 1) := by decide +kernel
theorem dX2_yaw_2 : decode cX2_yaw 2 = .ok (.putfield 40, 3) := by decide +kernel
theorem dX2_yaw_5 : decode cX2_yaw 5 = .ok (.lload_n 1, 1) := by decide +kernel
theorem dX2_yaw_6 : decode cX2_yaw 6 = .ok (.ldc2_w 108, 3) := by decide +kernel
theorem dX2_yaw_9 : decode cX2_yaw 9 = .ok (.lcmp, 1) := by decide +kernel
theorem dX2_yaw_10 : decode cX2_yaw 10 = .ok (.ifCond .lt 27, 3) := by decide +kernel
theorem dX2_yaw_13 : decode cX2_yaw 13 = .ok (.lload_n 1, 1) := by decide +kernel
theorem dX2_yaw_14 : decode cX2_yaw 14 = .ok (.ldc2_w 47, 3) := by decide +kernel
theorem dX2_yaw_17 : decode cX2_yaw 17 = .ok (.lcmp, 1) := by decide +kernel
theorem dX2_yaw_18 : decode cX2_yaw 18 = .ok (.ifCond .gt 19, 3) := by decide +kernel
theorem dX2_yaw_21 : decode cX2_yaw 21 = .ok (.lload_n 3, 1) := by decide +kernel
theorem dX2_yaw_22 : decode cX2_yaw 22 = .ok (.ldc2_w 108, 3) := by decide +kernel
theorem dX2_yaw_25 : decode cX2_yaw 25 = .ok (.lcmp, 1) := by decide +kernel
theorem dX2_yaw_26 : decode cX2_yaw 26 = .ok (.ifCond .lt 11, 3) := by decide +kernel
theorem dX2_yaw_29 : decode cX2_yaw 29 = .ok (.lload_n 3, 1) := by decide +kernel
theorem dX2_yaw_30 : decode cX2_yaw 30 = .ok (.ldc2_w 47, 3) := by decide +kernel
theorem dX2_yaw_33 : decode cX2_yaw 33 = .ok (.lcmp, 1) := by decide +kernel
theorem dX2_yaw_34 : decode cX2_yaw 34 = .ok (.ifCond .le 6, 3) := by decide +kernel
theorem dX2_yaw_37 : decode cX2_yaw 37 = .ok (.bipush (-2), 2) := by decide +kernel
theorem dX2_yaw_39 : decode cX2_yaw 39 = .ok (.ireturn, 1) := by decide +kernel
theorem dX2_yaw_40 : decode cX2_yaw 40 = .ok (.lload_n 1, 1) := by decide +kernel
theorem dX2_yaw_41 : decode cX2_yaw 41 = .ok (.lload_n 3, 1) := by decide +kernel
theorem dX2_yaw_42 : decode cX2_yaw 42 = .ok (.lcmp, 1) := by decide +kernel
theorem dX2_yaw_43 : decode cX2_yaw 43 = .ok (.ifCond .le 9, 3) := by decide +kernel
theorem dX2_yaw_46 : decode cX2_yaw 46 = .ok (.lload_n 1, 1) := by decide +kernel
theorem dX2_yaw_47 : decode cX2_yaw 47 = .ok (.lload_n 3, 1) := by decide +kernel
theorem dX2_yaw_48 : decode cX2_yaw 48 = .ok (.lsub, 1) := by decide +kernel
theorem dX2_yaw_49 : decode cX2_yaw 49 = .ok (.goto 6, 3) := by decide +kernel
theorem dX2_yaw_52 : decode cX2_yaw 52 = .ok (.lload_n 3, 1) := by decide +kernel
theorem dX2_yaw_53 : decode cX2_yaw 53 = .ok (.lload_n 1, 1) := by decide +kernel
theorem dX2_yaw_54 : decode cX2_yaw 54 = .ok (.lsub, 1) := by decide +kernel
theorem dX2_yaw_55 : decode cX2_yaw 55 = .ok (.lstore 5, 2) := by decide +kernel
theorem dX2_yaw_57 : decode cX2_yaw 57 = .ok (.lload 5, 2) := by decide +kernel
theorem dX2_yaw_59 : decode cX2_yaw 59 = .ok (.ldc2_w 94, 3) := by decide +kernel
theorem dX2_yaw_62 : decode cX2_yaw 62 = .ok (.lcmp, 1) := by decide +kernel
theorem dX2_yaw_63 : decode cX2_yaw 63 = .ok (.ifCond .le 10, 3) := by decide +kernel
theorem dX2_yaw_66 : decode cX2_yaw 66 = .ok (.aload_n 0, 1) := by decide +kernel
theorem dX2_yaw_67 : decode cX2_yaw 67 = .ok (.invokevirtual 49, 3) := by decide +kernel
theorem dX2_yaw_70 : decode cX2_yaw 70 = .ok (.ifCond .le 5, 3) := by decide +kernel
theorem dX2_yaw_73 : decode cX2_yaw 73 = .ok (.iconst 0, 1) := by decide +kernel
theorem dX2_yaw_74 : decode cX2_yaw 74 = .ok (.ireturn, 1) := by decide +kernel
theorem dX2_yaw_75 : decode cX2_yaw 75 = .ok (.lload_n 1, 1) := by decide +kernel
theorem dX2_yaw_76 : decode cX2_yaw 76 = .ok (.lload_n 3, 1) := by decide +kernel
theorem dX2_yaw_77 : decode cX2_yaw 77 = .ok (.lcmp, 1) := by decide +kernel
theorem dX2_yaw_78 : decode cX2_yaw 78 = .ok (.ifCond .le 7, 3) := by decide +kernel
theorem dX2_yaw_81 : decode cX2_yaw 81 = .ok (.iconst 2, 1) := by decide +kernel
theorem dX2_yaw_82 : decode cX2_yaw 82 = .ok (.goto 4, 3) := by decide +kernel
theorem dX2_yaw_85 : decode cX2_yaw 85 = .ok (.iconst 1, 1) := by decide +kernel
theorem dX2_yaw_86 : decode cX2_yaw 86 = .ok (.istore 7, 2) := by decide +kernel
theorem dX2_yaw_88 : decode cX2_yaw 88 = .ok (.aload_n 0, 1) := by decide +kernel
theorem dX2_yaw_89 : decode cX2_yaw 89 = .ok (.getfield 21, 3) := by decide +kernel
theorem dX2_yaw_92 : decode cX2_yaw 92 = .ok (.iload 7, 2) := by decide +kernel
theorem dX2_yaw_94 : decode cX2_yaw 94 = .ok (.aload_n 0, 1) := by decide +kernel
theorem dX2_yaw_95 : decode cX2_yaw 95 = .ok (.getfield 21, 3) := by decide +kernel
theorem dX2_yaw_98 : decode cX2_yaw 98 = .ok (.iload 7, 2) := by decide +kernel
theorem dX2_yaw_100 : decode cX2_yaw 100 = .ok (.laload, 1) := by decide +kernel
theorem dX2_yaw_101 : decode cX2_yaw 101 = .ok (.ldc2_w 94, 3) := by decide +kernel
theorem dX2_yaw_104 : decode cX2_yaw 104 = .ok (.ladd, 1) := by decide +kernel
theorem dX2_yaw_105 : decode cX2_yaw 105 = .ok (.aload_n 0, 1) := by decide +kernel
theorem dX2_yaw_106 : decode cX2_yaw 106 = .ok (.getfield 24, 3) := by decide +kernel
theorem dX2_yaw_109 : decode cX2_yaw 109 = .ok (.iload 7, 2) := by decide +kernel
theorem dX2_yaw_111 : decode cX2_yaw 111 = .ok (.laload, 1) := by decide +kernel
theorem dX2_yaw_112 : decode cX2_yaw 112 = .ok (.lcmp, 1) := by decide +kernel
theorem dX2_yaw_113 : decode cX2_yaw 113 = .ok (.ifCond .le 13, 3) := by decide +kernel
theorem dX2_yaw_116 : decode cX2_yaw 116 = .ok (.aload_n 0, 1) := by decide +kernel
theorem dX2_yaw_117 : decode cX2_yaw 117 = .ok (.getfield 24, 3) := by decide +kernel
theorem dX2_yaw_120 : decode cX2_yaw 120 = .ok (.iload 7, 2) := by decide +kernel
theorem dX2_yaw_122 : decode cX2_yaw 122 = .ok (.laload, 1) := by decide +kernel
theorem dX2_yaw_123 : decode cX2_yaw 123 = .ok (.goto 14, 3) := by decide +kernel
theorem dX2_yaw_126 : decode cX2_yaw 126 = .ok (.aload_n 0, 1) := by decide +kernel
theorem dX2_yaw_127 : decode cX2_yaw 127 = .ok (.getfield 21, 3) := by decide +kernel
theorem dX2_yaw_130 : decode cX2_yaw 130 = .ok (.iload 7, 2) := by decide +kernel
theorem dX2_yaw_132 : decode cX2_yaw 132 = .ok (.laload, 1) := by decide +kernel
theorem dX2_yaw_133 : decode cX2_yaw 133 = .ok (.ldc2_w 94, 3) := by decide +kernel
theorem dX2_yaw_136 : decode cX2_yaw 136 = .ok (.ladd, 1) := by decide +kernel
theorem dX2_yaw_137 : decode cX2_yaw 137 = .ok (.lastore, 1) := by decide +kernel
theorem dX2_yaw_138 : decode cX2_yaw 138 = .ok (.iload 7, 2) := by decide +kernel
theorem dX2_yaw_140 : decode cX2_yaw 140 = .ok (.ireturn, 1) := by decide +kernel
set_option maxRecDepth 20000 in
theorem ggX2_slip_X2_noWheel : GoodIn wsX2_slip wsX2_noWheel := goodIn_r _ [8, 9, 10, 11, 12, 13, 14, 15, 16, 17, 18, 19, 20, 21, 22, 23] (by decide +kernel) (by decide +kernel)
set_option maxRecDepth 20000 in
theorem gX2_slip_X2_noWheel : GoodIn wsX2_slip (wsV RX2 43 RX2 yX2_noWheel wsX2_noWheel) := goodIn_app (goodIn_of _ (by decide +kernel)) ggX2_slip_X2_noWheel
theorem dX2_slip_0 : decode cX2_slip 0 = .ok (.aload_n 0, 1) := by decide +kernel
theorem dX2_slip_1 : decode cX2_slip 1 = .ok (.iconst 0, 1) := by decide +kernel
theorem dX2_slip_2 : decode cX2_slip 2 = .ok (.putfield 40, 3) := by decide +kernel
theorem dX2_slip_5 : decode cX2_slip 5 = .ok (.aload_n 0, 1) := by decide +kernel
theorem dX2_slip_6 : decode cX2_slip 6 = .ok (.iload_n 1, 1) := by decide +kernel
theorem dX2_slip_7 : decode cX2_slip 7 = .ok (.invokevirtual 43, 3) := by decide +kernel
theorem dX2_slip_10 : decode cX2_slip 10 = .ok (.ifCond .eq 5, 3) := by decide +kernel
theorem dX2_slip_13 : decode cX2_slip 13 = .ok (.lconst 0, 1) := by decide +kernel
theorem dX2_slip_14 : decode cX2_slip 14 = .ok (.lreturn, 1) := by decide +kernel
theorem dX2_slip_15 : decode cX2_slip 15 = .ok (.aload_n 0, 1) := by decide +kernel
theorem dX2_slip_16 : decode cX2_slip 16 = .ok (.aload_n 0, 1) := by decide +kernel
theorem dX2_slip_17 : decode cX2_slip 17 = .ok (.getfield 53, 3) := by decide +kernel
theorem dX2_slip_20 : decode cX2_slip 20 = .ok (.lconst 0, 1) := by decide +kernel
theorem dX2_slip_21 : decode cX2_slip 21 = .ok (.lcmp, 1) := by decide +kernel
theorem dX2_slip_22 : decode cX2_slip 22 = .ok (.ifCond .ne 7, 3) := by decide +kernel
theorem dX2_slip_25 : decode cX2_slip 25 = .ok (.iconst 1, 1) := by decide +kernel
theorem dX2_slip_26 : decode cX2_slip 26 = .ok (.goto 4, 3) := by decide +kernel
theorem dX2_slip_29 : decode cX2_slip 29 = .ok (.iconst 0, 1) := by decide +kernel
theorem dX2_slip_30 : decode cX2_slip 30 = .ok (.putfield 40, 3) := by decide +kernel
theorem dX2_slip_33 : decode cX2_slip 33 = .ok (.aload_n 0, 1) := by decide +kernel
theorem dX2_slip_34 : decode cX2_slip 34 = .ok (.getfield 40, 3) := by decide +kernel
theorem dX2_slip_37 : decode cX2_slip 37 = .ok (.ifCond .le 5, 3) := by decide +kernel
theorem dX2_slip_40 : decode cX2_slip 40 = .ok (.lconst 0, 1) := by decide +kernel
theorem dX2_slip_41 : decode cX2_slip 41 = .ok (.lreturn, 1) := by decide +kernel
theorem dX2_slip_42 : decode cX2_slip 42 = .ok (.aload_n 0, 1) := by decide +kernel
theorem dX2_slip_43 : decode cX2_slip 43 = .ok (.getfield 53, 3) := by decide +kernel
theorem dX2_slip_46 : decode cX2_slip 46 = .ok (.aload_n 0, 1) := by decide +kernel
theorem dX2_slip_47 : decode cX2_slip 47 = .ok (.getfield 7, 3) := by decide +kernel
theorem dX2_slip_50 : decode cX2_slip 50 = .ok (.iload_n 1, 1) := by decide +kernel
theorem dX2_slip_51 : decode cX2_slip 51 = .ok (.laload, 1) := by decide +kernel
theorem dX2_slip_52 : decode cX2_slip 52 = .ok (.lsub, 1) := by decide +kernel
theorem dX2_slip_53 : decode cX2_slip 53 = .ok (.lstore_n 3, 1) := by decide +kernel
theorem dX2_slip_54 : decode cX2_slip 54 = .ok (.lload_n 3, 1) := by decide +kernel
theorem dX2_slip_55 : decode cX2_slip 55 = .ok (.lconst 0, 1) := by decide +kernel
theorem dX2_slip_56 : decode cX2_slip 56 = .ok (.lcmp, 1) := by decide +kernel
theorem dX2_slip_57 : decode cX2_slip 57 = .ok (.ifCond .ge 8, 3) := by decide +kernel
theorem dX2_slip_60 : decode cX2_slip 60 = .ok (.lload_n 3, 1) := by decide +kernel
theorem dX2_slip_61 : decode cX2_slip 61 = .ok (.lneg, 1) := by decide +kernel
theorem dX2_slip_62 : decode cX2_slip 62 = .ok (.goto 4, 3) := by decide +kernel
theorem dX2_slip_65 : decode cX2_slip 65 = .ok (.lload_n 3, 1) := by decide +kernel
theorem dX2_slip_66 : decode cX2_slip 66 = .ok (.lstore 5, 2) := by decide +kernel
theorem dX2_slip_68 : decode cX2_slip 68 = .ok (.aload_n 0, 1) := by decide +kernel
theorem dX2_slip_69 : decode cX2_slip 69 = .ok (.getfield 53, 3) := by decide +kernel
theorem dX2_slip_72 : decode cX2_slip 72 = .ok (.lstore 7, 2) := by decide +kernel
theorem dX2_slip_74 : decode cX2_slip 74 = .ok (.lload 7, 2) := by decide +kernel
theorem dX2_slip_76 : decode cX2_slip 76 = .ok (.lconst 0, 1) := by decide +kernel
theorem dX2_slip_77 : decode cX2_slip 77 = .ok (.lcmp, 1) := by decide +kernel
theorem dX2_slip_78 : decode cX2_slip 78 = .ok (.ifCond .eq 21, 3) := by decide +kernel
theorem dX2_slip_81 : decode cX2_slip 81 = .ok (.lload 5, 2) := by decide +kernel
theorem dX2_slip_83 : decode cX2_slip 83 = .ok (.lload 7, 2) := by decide +kernel
theorem dX2_slip_85 : decode cX2_slip 85 = .ok (.lrem, 1) := by decide +kernel
theorem dX2_slip_86 : decode cX2_slip 86 = .ok (.lstore 9, 2) := by decide +kernel
theorem dX2_slip_88 : decode cX2_slip 88 = .ok (.lload 7, 2) := by decide +kernel
theorem dX2_slip_90 : decode cX2_slip 90 = .ok (.lstore 5, 2) := by decide +kernel
theorem dX2_slip_92 : decode cX2_slip 92 = .ok (.lload 9, 2) := by decide +kernel
theorem dX2_slip_94 : decode cX2_slip 94 = .ok (.lstore 7, 2) := by decide +kernel
theorem dX2_slip_96 : decode cX2_slip 96 = .ok (.goto (-22), 3) := by decide +kernel
theorem dX2_slip_99 : decode cX2_slip 99 = .ok (.iload_n 2, 1) := by decide +kernel
theorem dX2_slip_100 : decode cX2_slip 100 = .ok (.ifCond .ne 10, 3) := by decide +kernel
theorem dX2_slip_103 : decode cX2_slip 103 = .ok (.lload_n 3, 1) := by decide +kernel
theorem dX2_slip_104 : decode cX2_slip 104 = .ok (.lload 5, 2) := by decide +kernel
theorem dX2_slip_106 : decode cX2_slip 106 = .ok (.ldiv, 1) := by decide +kernel
theorem dX2_slip_107 : decode cX2_slip 107 = .ok (.goto 10, 3) := by decide +kernel
theorem dX2_slip_110 : decode cX2_slip 110 = .ok (.aload_n 0, 1) := by decide +kernel
theorem dX2_slip_111 : decode cX2_slip 111 = .ok (.getfield 53, 3) := by decide +kernel
theorem dX2_slip_114 : decode cX2_slip 114 = .ok (.lload 5, 2) := by decide +kernel
theorem dX2_slip_116 : decode cX2_slip 116 = .ok (.ldiv, 1) := by decide +kernel
theorem dX2_slip_117 : decode cX2_slip 117 = .ok (.lreturn, 1) := by decide +kernel
theorem dX2_gear_0 : decode cX2_gear 0 = .ok (.aload_n 0, 1) := by decide +kernel
theorem dX2_gear_1 : decode cX2_gear 1 = .ok (.iconst 0, 1) := by decide +kernel
theorem dX2_gear_2 : decode cX2_gear 2 = .ok (.putfield 40, 3) := by decide +kernel
theorem dX2_gear_5 : decode cX2_gear 5 = .ok (.aload_n 0, 1) := by decide +kernel
theorem dX2_gear_6 : decode cX2_gear 6 = .ok (.getfield 31, 3) := by decide +kernel
theorem dX2_gear_9 : decode cX2_gear 9 = .ok (.ireturn, 1) := by decide +kernel
set_option maxRecDepth 20000 in
theorem ggX2_lost_X2_noWheel : GoodIn wsX2_lost wsX2_noWheel := goodIn_r _ [7, 8, 13, 14, 15, 16, 17, 18, 19, 20, 21, 22, 23, 24, 25, 26] (by decide +kernel) (by decide +kernel)
set_option maxRecDepth 20000 in
theorem gX2_lost_X2_noWheel : GoodIn wsX2_lost (wsV RX2 43 RX2 yX2_noWheel wsX2_noWheel) := goodIn_app (goodIn_of _ (by decide +kernel)) ggX2_lost_X2_noWheel
set_option maxRecDepth 20000 in
theorem ggX2_lost_X2_lostOnes : GoodIn wsX2_lost wsX2_lostOnes := goodIn_r _ [12, 8, 2, 13, 14, 15, 16, 17, 18, 19, 20, 21, 22, 23, 24, 25, 26] (by decide +kernel) (by decide +kernel)
set_option maxRecDepth 20000 in
theorem gX2_lost_X2_lostOnes : GoodIn wsX2_lost (wsV RX2 49 RX2 yX2_lostOnes wsX2_lostOnes) := goodIn_app (goodIn_of _ (by decide +kernel)) ggX2_lost_X2_lostOnes
theorem dX2_lost_0 : decode cX2_lost 0 = .ok (.aload_n 0, 1) := by decide +kernel
theorem dX2_lost_1 : decode cX2_lost 1 = .ok (.iconst 0, 1) := by decide +kernel
theorem dX2_lost_2 : decode cX2_lost 2 = .ok (.putfield 40, 3) := by decide +kernel
theorem dX2_lost_5 : decode cX2_lost 5 = .ok (.aload_n 0, 1) := by decide +kernel
theorem dX2_lost_6 : decode cX2_lost 6 = .ok (.iload_n 1, 1) := by decide +kernel
theorem dX2_lost_7 : decode cX2_lost 7 = .ok (.invokevirtual 43, 3) := by decide +kernel
theorem dX2_lost_10 : decode cX2_lost 10 = .ok (.ifCond .eq 5, 3) := by decide +kernel
theorem dX2_lost_13 : decode cX2_lost 13 = .ok (.iconst (-1), 1) := by decide +kernel
theorem dX2_lost_14 : decode cX2_lost 14 = .ok (.ireturn, 1) := by decide +kernel
theorem dX2_lost_15 : decode cX2_lost 15 = .ok (.aload_n 0, 1) := by decide +kernel
theorem dX2_lost_16 : decode cX2_lost 16 = .ok (.getfield 13, 3) := by decide +kernel
theorem dX2_lost_19 : decode cX2_lost 19 = .ok (.iload_n 1, 1) := by decide +kernel
theorem dX2_lost_20 : decode cX2_lost 20 = .ok (.iload_n 2, 1) := by decide +kernel
theorem dX2_lost_21 : decode cX2_lost 21 = .ok (.bastore, 1) := by decide +kernel
theorem dX2_lost_22 : decode cX2_lost 22 = .ok (.aload_n 0, 1) := by decide +kernel
theorem dX2_lost_23 : decode cX2_lost 23 = .ok (.invokevirtual 49, 3) := by decide +kernel
theorem dX2_lost_26 : decode cX2_lost 26 = .ok (.ireturn, 1) := by decide +kernel
theorem dX2_hold_0 : decode cX2_hold 0 = .ok (.aload_n 0, 1) := by decide +kernel
theorem dX2_hold_1 : decode cX2_hold 1 = .ok (.iconst 0, 1) := by decide +kernel
theorem dX2_hold_2 : decode cX2_hold 2 = .ok (.putfield 40, 3) := by decide +kernel
theorem dX2_hold_5 : decode cX2_hold 5 = .ok (.aload_n 0, 1) := by decide +kernel
theorem dX2_hold_6 : decode cX2_hold 6 = .ok (.iload_n 1, 1) := by decide +kernel
theorem dX2_hold_7 : decode cX2_hold 7 = .ok (.ifCond .eq 23, 3) := by decide +kernel
theorem dX2_hold_10 : decode cX2_hold 10 = .ok (.aload_n 0, 1) := by decide +kernel
theorem dX2_hold_11 : decode cX2_hold 11 = .ok (.getfield 67, 3) := by decide +kernel
theorem dX2_hold_14 : decode cX2_hold 14 = .ok (.ifCond .ne 12, 3) := by decide +kernel
theorem dX2_hold_17 : decode cX2_hold 17 = .ok (.aload_n 0, 1) := by decide +kernel
theorem dX2_hold_18 : decode cX2_hold 18 = .ok (.getfield 53, 3) := by decide +kernel
theorem dX2_hold_21 : decode cX2_hold 21 = .ok (.lconst 0, 1) := by decide +kernel
theorem dX2_hold_22 : decode cX2_hold 22 = .ok (.lcmp, 1) := by decide +kernel
theorem dX2_hold_23 : decode cX2_hold 23 = .ok (.ifCond .ne 7, 3) := by decide +kernel
theorem dX2_hold_26 : decode cX2_hold 26 = .ok (.iconst 1, 1) := by decide +kernel
theorem dX2_hold_27 : decode cX2_hold 27 = .ok (.goto 4, 3) := by decide +kernel
theorem dX2_hold_30 : decode cX2_hold 30 = .ok (.iconst 0, 1) := by decide +kernel
theorem dX2_hold_31 : decode cX2_hold 31 = .ok (.putfield 67, 3) := by decide +kernel
theorem dX2_hold_34 : decode cX2_hold 34 = .ok (.aload_n 0, 1) := by decide +kernel
theorem dX2_hold_35 : decode cX2_hold 35 = .ok (.getfield 67, 3) := by decide +kernel
theorem dX2_hold_38 : decode cX2_hold 38 = .ok (.ifCond .eq 7, 3) := by decide +kernel
theorem dX2_hold_41 : decode cX2_hold 41 = .ok (.iconst 1, 1) := by decide +kernel
theorem dX2_hold_42 : decode cX2_hold 42 = .ok (.goto 4, 3) := by decide +kernel
theorem dX2_hold_45 : decode cX2_hold 45 = .ok (.iconst 0, 1) := by decide +kernel
theorem dX2_hold_46 : decode cX2_hold 46 = .ok (.ireturn, 1) := by decide +kernel
set_option maxRecDepth 20000 in
theorem ggX2_wish_X2_turn : GoodIn wsX2_wish wsX2_turn := goodIn_r _ [10, 11, 12, 13, 14, 15, 16, 17, 18, 19, 20, 21, 22, 23, 24, 25, 26, 27, 28] (by decide +kernel) (by decide +kernel)
set_option maxRecDepth 20000 in
theorem gX2_wish_X2_turn : GoodIn wsX2_wish (wsV RX2 102 RX2 yX2_turn wsX2_turn) := goodIn_app (goodIn_of _ (by decide +kernel)) ggX2_wish_X2_turn
theorem dX2_wish_0 : decode cX2_wish 0 = .ok (.aload_n 0, 1) := by decide +kernel
theorem dX2_wish_1 : decode cX2_wish 1 = .ok (.iconst 0, 1) := by decide +kernel
theorem dX2_wish_2 : decode cX2_wish 2 = .ok (.putfield 40, 3) := by decide +kernel
theorem dX2_wish_5 : decode cX2_wish 5 = .ok (.iload_n 1, 1) := by decide +kernel
theorem dX2_wish_6 : decode cX2_wish 6 = .ok (.iconst 1, 1) := by decide +kernel
theorem dX2_wish_7 : decode cX2_wish 7 = .ok (.if_icmp .lt 9, 3) := by decide +kernel
theorem dX2_wish_10 : decode cX2_wish 10 = .ok (.iload_n 1, 1) := by decide +kernel
theorem dX2_wish_11 : decode cX2_wish 11 = .ok (.bipush 6, 2) := by decide +kernel
theorem dX2_wish_13 : decode cX2_wish 13 = .ok (.if_icmp .le 6, 3) := by decide +kernel
theorem dX2_wish_16 : decode cX2_wish 16 = .ok (.bipush (-2), 2) := by decide +kernel
theorem dX2_wish_18 : decode cX2_wish 18 = .ok (.ireturn, 1) := by decide +kernel
theorem dX2_wish_19 : decode cX2_wish 19 = .ok (.aload_n 0, 1) := by decide +kernel
theorem dX2_wish_20 : decode cX2_wish 20 = .ok (.getfield 53, 3) := by decide +kernel
theorem dX2_wish_23 : decode cX2_wish 23 = .ok (.ldc2_w 94, 3) := by decide +kernel
theorem dX2_wish_26 : decode cX2_wish 26 = .ok (.iload_n 1, 1) := by decide +kernel
theorem dX2_wish_27 : decode cX2_wish 27 = .ok (.iconst 1, 1) := by decide +kernel
theorem dX2_wish_28 : decode cX2_wish 28 = .ok (.isub, 1) := by decide +kernel
theorem dX2_wish_29 : decode cX2_wish 29 = .ok (.i2l, 1) := by decide +kernel
theorem dX2_wish_30 : decode cX2_wish 30 = .ok (.lmul, 1) := by decide +kernel
theorem dX2_wish_31 : decode cX2_wish 31 = .ok (.ldc2_w 63, 3) := by decide +kernel
theorem dX2_wish_34 : decode cX2_wish 34 = .ok (.lsub, 1) := by decide +kernel
theorem dX2_wish_35 : decode cX2_wish 35 = .ok (.lcmp, 1) := by decide +kernel
theorem dX2_wish_36 : decode cX2_wish 36 = .ok (.ifCond .lt 21, 3) := by decide +kernel
theorem dX2_wish_39 : decode cX2_wish 39 = .ok (.aload_n 0, 1) := by decide +kernel
theorem dX2_wish_40 : decode cX2_wish 40 = .ok (.getfield 53, 3) := by decide +kernel
theorem dX2_wish_43 : decode cX2_wish 43 = .ok (.ldc2_w 94, 3) := by decide +kernel
theorem dX2_wish_46 : decode cX2_wish 46 = .ok (.iload_n 1, 1) := by decide +kernel
theorem dX2_wish_47 : decode cX2_wish 47 = .ok (.i2l, 1) := by decide +kernel
theorem dX2_wish_48 : decode cX2_wish 48 = .ok (.lmul, 1) := by decide +kernel
theorem dX2_wish_49 : decode cX2_wish 49 = .ok (.ldc2_w 71, 3) := by decide +kernel
theorem dX2_wish_52 : decode cX2_wish 52 = .ok (.ladd, 1) := by decide +kernel
theorem dX2_wish_53 : decode cX2_wish 53 = .ok (.lcmp, 1) := by decide +kernel
theorem dX2_wish_54 : decode cX2_wish 54 = .ok (.ifCond .le 5, 3) := by decide +kernel
theorem dX2_wish_57 : decode cX2_wish 57 = .ok (.iconst 0, 1) := by decide +kernel
theorem dX2_wish_58 : decode cX2_wish 58 = .ok (.ireturn, 1) := by decide +kernel
theorem dX2_wish_59 : decode cX2_wish 59 = .ok (.aload_n 0, 1) := by decide +kernel
theorem dX2_wish_60 : decode cX2_wish 60 = .ok (.iload_n 1, 1) := by decide +kernel
theorem dX2_wish_61 : decode cX2_wish 61 = .ok (.bipush 10, 2) := by decide +kernel
theorem dX2_wish_63 : decode cX2_wish 63 = .ok (.invokevirtual 102, 3) := by decide +kernel
theorem dX2_wish_66 : decode cX2_wish 66 = .ok (.iconst 1, 1) := by decide +kernel
theorem dX2_wish_67 : decode cX2_wish 67 = .ok (.ireturn, 1) := by decide +kernel
theorem dX2_reference_0 : decode cX2_reference 0 = .ok (.aload_n 0, 1) := by decide +kernel
theorem dX2_reference_1 : decode cX2_reference 1 = .ok (.iconst 0, 1) := by decide +kernel
theorem dX2_reference_2 : decode cX2_reference 2 = .ok (.putfield 40, 3) := by decide +kernel
theorem dX2_reference_5 : decode cX2_reference 5 = .ok (.aload_n 0, 1) := by decide +kernel
theorem dX2_reference_6 : decode cX2_reference 6 = .ok (.getfield 53, 3) := by decide +kernel
theorem dX2_reference_9 : decode cX2_reference 9 = .ok (.lreturn, 1) := by decide +kernel
set_option maxRecDepth 20000 in
theorem ggX2_plant_X2_noWheel : GoodIn wsX2_plant wsX2_noWheel := goodIn_r _ [7, 8, 9, 10, 11, 12, 13, 14, 15, 16, 17, 18, 19, 20, 21, 22] (by decide +kernel) (by decide +kernel)
set_option maxRecDepth 20000 in
theorem gX2_plant_X2_noWheel : GoodIn wsX2_plant (wsV RX2 43 RX2 yX2_noWheel wsX2_noWheel) := goodIn_app (goodIn_of _ (by decide +kernel)) ggX2_plant_X2_noWheel
theorem dX2_plant_0 : decode cX2_plant 0 = .ok (.aload_n 0, 1) := by decide +kernel
theorem dX2_plant_1 : decode cX2_plant 1 = .ok (.iconst 0, 1) := by decide +kernel
theorem dX2_plant_2 : decode cX2_plant 2 = .ok (.putfield 40, 3) := by decide +kernel
theorem dX2_plant_5 : decode cX2_plant 5 = .ok (.aload_n 0, 1) := by decide +kernel
theorem dX2_plant_6 : decode cX2_plant 6 = .ok (.iload_n 1, 1) := by decide +kernel
theorem dX2_plant_7 : decode cX2_plant 7 = .ok (.invokevirtual 43, 3) := by decide +kernel
theorem dX2_plant_10 : decode cX2_plant 10 = .ok (.ifCond .eq 7, 3) := by decide +kernel
theorem dX2_plant_13 : decode cX2_plant 13 = .ok (.dconst 0, 1) := by decide +kernel
theorem dX2_plant_14 : decode cX2_plant 14 = .ok (.goto 9, 3) := by decide +kernel
theorem dX2_plant_17 : decode cX2_plant 17 = .ok (.aload_n 0, 1) := by decide +kernel
theorem dX2_plant_18 : decode cX2_plant 18 = .ok (.getfield 27, 3) := by decide +kernel
theorem dX2_plant_21 : decode cX2_plant 21 = .ok (.iload_n 1, 1) := by decide +kernel
theorem dX2_plant_22 : decode cX2_plant 22 = .ok (.daload, 1) := by decide +kernel
theorem dX2_plant_23 : decode cX2_plant 23 = .ok (.dreturn, 1) := by decide +kernel
set_option maxRecDepth 20000 in
theorem ggX2_bound_X2_noWheel : GoodIn wsX2_bound wsX2_noWheel := goodIn_r _ [9, 10, 11, 12, 13, 14, 15, 16, 17, 18, 19, 20, 21, 22, 23, 24] (by decide +kernel) (by decide +kernel)
set_option maxRecDepth 20000 in
theorem gX2_bound_X2_noWheel : GoodIn wsX2_bound (wsV RX2 43 RX2 yX2_noWheel wsX2_noWheel) := goodIn_app (goodIn_of _ (by decide +kernel)) ggX2_bound_X2_noWheel
theorem dX2_bound_0 : decode cX2_bound 0 = .ok (.aload_n 0, 1) := by decide +kernel
theorem dX2_bound_1 : decode cX2_bound 1 = .ok (.iconst 0, 1) := by decide +kernel
theorem dX2_bound_2 : decode cX2_bound 2 = .ok (.putfield 40, 3) := by decide +kernel
theorem dX2_bound_5 : decode cX2_bound 5 = .ok (.aload_n 0, 1) := by decide +kernel
theorem dX2_bound_6 : decode cX2_bound 6 = .ok (.iload_n 1, 1) := by decide +kernel
theorem dX2_bound_7 : decode cX2_bound 7 = .ok (.invokevirtual 43, 3) := by decide +kernel
theorem dX2_bound_10 : decode cX2_bound 10 = .ok (.ifCond .eq 5, 3) := by decide +kernel
theorem dX2_bound_13 : decode cX2_bound 13 = .ok (.iconst (-1), 1) := by decide +kernel
theorem dX2_bound_14 : decode cX2_bound 14 = .ok (.ireturn, 1) := by decide +kernel
theorem dX2_bound_15 : decode cX2_bound 15 = .ok (.lload_n 2, 1) := by decide +kernel
theorem dX2_bound_16 : decode cX2_bound 16 = .ok (.lconst 0, 1) := by decide +kernel
theorem dX2_bound_17 : decode cX2_bound 17 = .ok (.lcmp, 1) := by decide +kernel
theorem dX2_bound_18 : decode cX2_bound 18 = .ok (.ifCond .lt 11, 3) := by decide +kernel
theorem dX2_bound_21 : decode cX2_bound 21 = .ok (.lload_n 2, 1) := by decide +kernel
theorem dX2_bound_22 : decode cX2_bound 22 = .ok (.ldc2_w 110, 3) := by decide +kernel
theorem dX2_bound_25 : decode cX2_bound 25 = .ok (.lcmp, 1) := by decide +kernel
theorem dX2_bound_26 : decode cX2_bound 26 = .ok (.ifCond .le 6, 3) := by decide +kernel
theorem dX2_bound_29 : decode cX2_bound 29 = .ok (.bipush (-2), 2) := by decide +kernel
theorem dX2_bound_31 : decode cX2_bound 31 = .ok (.ireturn, 1) := by decide +kernel
theorem dX2_bound_32 : decode cX2_bound 32 = .ok (.aload_n 0, 1) := by decide +kernel
theorem dX2_bound_33 : decode cX2_bound 33 = .ok (.getfield 24, 3) := by decide +kernel
theorem dX2_bound_36 : decode cX2_bound 36 = .ok (.iload_n 1, 1) := by decide +kernel
theorem dX2_bound_37 : decode cX2_bound 37 = .ok (.lload_n 2, 1) := by decide +kernel
theorem dX2_bound_38 : decode cX2_bound 38 = .ok (.lastore, 1) := by decide +kernel
theorem dX2_bound_39 : decode cX2_bound 39 = .ok (.aload_n 0, 1) := by decide +kernel
theorem dX2_bound_40 : decode cX2_bound 40 = .ok (.getfield 21, 3) := by decide +kernel
theorem dX2_bound_43 : decode cX2_bound 43 = .ok (.iload_n 1, 1) := by decide +kernel
theorem dX2_bound_44 : decode cX2_bound 44 = .ok (.aload_n 0, 1) := by decide +kernel
theorem dX2_bound_45 : decode cX2_bound 45 = .ok (.getfield 21, 3) := by decide +kernel
theorem dX2_bound_48 : decode cX2_bound 48 = .ok (.iload_n 1, 1) := by decide +kernel
theorem dX2_bound_49 : decode cX2_bound 49 = .ok (.laload, 1) := by decide +kernel
theorem dX2_bound_50 : decode cX2_bound 50 = .ok (.lload_n 2, 1) := by decide +kernel
theorem dX2_bound_51 : decode cX2_bound 51 = .ok (.lcmp, 1) := by decide +kernel
theorem dX2_bound_52 : decode cX2_bound 52 = .ok (.ifCond .le 7, 3) := by decide +kernel
theorem dX2_bound_55 : decode cX2_bound 55 = .ok (.lload_n 2, 1) := by decide +kernel
theorem dX2_bound_56 : decode cX2_bound 56 = .ok (.goto 9, 3) := by decide +kernel
theorem dX2_bound_59 : decode cX2_bound 59 = .ok (.aload_n 0, 1) := by decide +kernel
theorem dX2_bound_60 : decode cX2_bound 60 = .ok (.getfield 21, 3) := by decide +kernel
theorem dX2_bound_63 : decode cX2_bound 63 = .ok (.iload_n 1, 1) := by decide +kernel
theorem dX2_bound_64 : decode cX2_bound 64 = .ok (.laload, 1) := by decide +kernel
theorem dX2_bound_65 : decode cX2_bound 65 = .ok (.lastore, 1) := by decide +kernel
theorem dX2_bound_66 : decode cX2_bound 66 = .ok (.iconst 1, 1) := by decide +kernel
theorem dX2_bound_67 : decode cX2_bound 67 = .ok (.ireturn, 1) := by decide +kernel
set_option maxRecDepth 20000 in
theorem ggX2_mode_X2_lostOnes : GoodIn wsX2_mode wsX2_lostOnes := goodIn_r _ [7, 8, 9, 10, 11, 12, 13, 14, 15, 16, 17, 18, 19, 20, 21, 22, 23] (by decide +kernel) (by decide +kernel)
set_option maxRecDepth 20000 in
theorem gX2_mode_X2_lostOnes : GoodIn wsX2_mode (wsV RX2 49 RX2 yX2_lostOnes wsX2_lostOnes) := goodIn_app (goodIn_of _ (by decide +kernel)) ggX2_mode_X2_lostOnes
theorem dX2_mode_0 : decode cX2_mode 0 = .ok (.aload_n 0, 1) := by decide +kernel
theorem dX2_mode_1 : decode cX2_mode 1 = .ok (.iconst 0, 1) := by decide +kernel
theorem dX2_mode_2 : decode cX2_mode 2 = .ok (.putfield 40, 3) := by decide +kernel
theorem dX2_mode_5 : decode cX2_mode 5 = .ok (.aload_n 0, 1) := by decide +kernel
theorem dX2_mode_6 : decode cX2_mode 6 = .ok (.getfield 67, 3) := by decide +kernel
theorem dX2_mode_9 : decode cX2_mode 9 = .ok (.ifCond .eq 7, 3) := by decide +kernel
theorem dX2_mode_12 : decode cX2_mode 12 = .ok (.iconst 2, 1) := by decide +kernel
theorem dX2_mode_13 : decode cX2_mode 13 = .ok (.goto 15, 3) := by decide +kernel
theorem dX2_mode_16 : decode cX2_mode 16 = .ok (.aload_n 0, 1) := by decide +kernel
theorem dX2_mode_17 : decode cX2_mode 17 = .ok (.invokevirtual 49, 3) := by decide +kernel
theorem dX2_mode_20 : decode cX2_mode 20 = .ok (.ifCond .le 7, 3) := by decide +kernel
theorem dX2_mode_23 : decode cX2_mode 23 = .ok (.iconst 1, 1) := by decide +kernel
theorem dX2_mode_24 : decode cX2_mode 24 = .ok (.goto 4, 3) := by decide +kernel
theorem dX2_mode_27 : decode cX2_mode 27 = .ok (.iconst 0, 1) := by decide +kernel
theorem dX2_mode_28 : decode cX2_mode 28 = .ok (.ireturn, 1) := by decide +kernel
theorem dJ9_abs_067f4_0 : decode cJ9_abs_067f4 0 = .ok (.lload_n 0, 1) := by decide +kernel
theorem dJ9_abs_067f4_1 : decode cJ9_abs_067f4 1 = .ok (.lconst 0, 1) := by decide +kernel
theorem dJ9_abs_067f4_2 : decode cJ9_abs_067f4 2 = .ok (.lcmp, 1) := by decide +kernel
theorem dJ9_abs_067f4_3 : decode cJ9_abs_067f4 3 = .ok (.ifCond .ge 8, 3) := by decide +kernel
theorem dJ9_abs_067f4_6 : decode cJ9_abs_067f4 6 = .ok (.lload_n 0, 1) := by decide +kernel
theorem dJ9_abs_067f4_7 : decode cJ9_abs_067f4 7 = .ok (.lneg, 1) := by decide +kernel
theorem dJ9_abs_067f4_8 : decode cJ9_abs_067f4 8 = .ok (.goto 4, 3) := by decide +kernel
theorem dJ9_abs_067f4_11 : decode cJ9_abs_067f4 11 = .ok (.lload_n 0, 1) := by decide +kernel
theorem dJ9_abs_067f4_12 : decode cJ9_abs_067f4 12 = .ok (.lreturn, 1) := by decide +kernel
theorem dJ9_max_f86c9_0 : decode cJ9_max_f86c9 0 = .ok (.lload_n 0, 1) := by decide +kernel
theorem dJ9_max_f86c9_1 : decode cJ9_max_f86c9 1 = .ok (.lload_n 2, 1) := by decide +kernel
theorem dJ9_max_f86c9_2 : decode cJ9_max_f86c9 2 = .ok (.lcmp, 1) := by decide +kernel
theorem dJ9_max_f86c9_3 : decode cJ9_max_f86c9 3 = .ok (.ifCond .lt 7, 3) := by decide +kernel
theorem dJ9_max_f86c9_6 : decode cJ9_max_f86c9 6 = .ok (.lload_n 0, 1) := by decide +kernel
theorem dJ9_max_f86c9_7 : decode cJ9_max_f86c9 7 = .ok (.goto 4, 3) := by decide +kernel
theorem dJ9_max_f86c9_10 : decode cJ9_max_f86c9 10 = .ok (.lload_n 2, 1) := by decide +kernel
theorem dJ9_max_f86c9_11 : decode cJ9_max_f86c9 11 = .ok (.lreturn, 1) := by decide +kernel
theorem dJ9_min_f86c9_0 : decode cJ9_min_f86c9 0 = .ok (.lload_n 0, 1) := by decide +kernel
theorem dJ9_min_f86c9_1 : decode cJ9_min_f86c9 1 = .ok (.lload_n 2, 1) := by decide +kernel
theorem dJ9_min_f86c9_2 : decode cJ9_min_f86c9 2 = .ok (.lcmp, 1) := by decide +kernel
theorem dJ9_min_f86c9_3 : decode cJ9_min_f86c9 3 = .ok (.ifCond .gt 7, 3) := by decide +kernel
theorem dJ9_min_f86c9_6 : decode cJ9_min_f86c9 6 = .ok (.lload_n 0, 1) := by decide +kernel
theorem dJ9_min_f86c9_7 : decode cJ9_min_f86c9 7 = .ok (.goto 4, 3) := by decide +kernel
theorem dJ9_min_f86c9_10 : decode cJ9_min_f86c9 10 = .ok (.lload_n 2, 1) := by decide +kernel
theorem dJ9_min_f86c9_11 : decode cJ9_min_f86c9 11 = .ok (.lreturn, 1) := by decide +kernel
theorem dL_cell_0 : decode cL_cell 0 = .ok (.iload_n 1, 1) := by decide +kernel
theorem dL_cell_1 : decode cL_cell 1 = .ok (.aload_n 0, 1) := by decide +kernel
theorem dL_cell_2 : decode cL_cell 2 = .ok (.arraylength, 1) := by decide +kernel
theorem dL_cell_3 : decode cL_cell 3 = .ok (.if_icmp .ge 9, 3) := by decide +kernel
theorem dL_cell_6 : decode cL_cell 6 = .ok (.aload_n 0, 1) := by decide +kernel
theorem dL_cell_7 : decode cL_cell 7 = .ok (.iload_n 1, 1) := by decide +kernel
theorem dL_cell_8 : decode cL_cell 8 = .ok (.iaload, 1) := by decide +kernel
theorem dL_cell_9 : decode cL_cell 9 = .ok (.goto 4, 3) := by decide +kernel
theorem dL_cell_12 : decode cL_cell 12 = .ok (.iconst 0, 1) := by decide +kernel
theorem dL_cell_13 : decode cL_cell 13 = .ok (.ireturn, 1) := by decide +kernel
set_option maxRecDepth 20000 in
theorem ggL_slip_X1_slip : GoodIn wsL_slip wsX1_slip := goodIn_ca (goodIn_r _ [6, 7, 8, 9, 10, 11, 12, 13, 14, 15, 16, 5, 17, 18, 19, 20, 21, 22, 23, 24, 25, 26, 27, 28, 29, 30, 31, 32, 33, 34, 35, 36] (by decide +kernel) (by decide +kernel)) (goodIn_sub (fun _ h => List.mem_cons_of_mem _ (List.mem_append_right _ h)) (by decide +kernel))
set_option maxRecDepth 20000 in
theorem gL_slip_X1_slip : GoodIn wsL_slip (wsV RL 7 RX1 yX1_slip wsX1_slip) := goodIn_app (goodIn_of _ (by decide +kernel)) ggL_slip_X1_slip
theorem dL_slip_0 : decode cL_slip 0 = .ok (.aload_n 3, 1) := by decide +kernel
theorem dL_slip_1 : decode cL_slip 1 = .ok (.iconst 0, 1) := by decide +kernel
theorem dL_slip_2 : decode cL_slip 2 = .ok (.aload_n 0, 1) := by decide +kernel
theorem dL_slip_3 : decode cL_slip 3 = .ok (.iload_n 1, 1) := by decide +kernel
theorem dL_slip_4 : decode cL_slip 4 = .ok (.iload_n 2, 1) := by decide +kernel
theorem dL_slip_5 : decode cL_slip 5 = .ok (.invokevirtual 7, 3) := by decide +kernel
theorem dL_slip_8 : decode cL_slip 8 = .ok (.lastore, 1) := by decide +kernel
theorem dL_slip_9 : decode cL_slip 9 = .ok (.goto 7, 3) := by decide +kernel
theorem dL_slip_12 : decode cL_slip 12 = .ok (.astore 4, 2) := by decide +kernel
theorem dL_slip_14 : decode cL_slip 14 = .ok (.iconst 1, 1) := by decide +kernel
theorem dL_slip_15 : decode cL_slip 15 = .ok (.ireturn, 1) := by decide +kernel
theorem dL_slip_16 : decode cL_slip 16 = .ok (.iconst 0, 1) := by decide +kernel
theorem dL_slip_17 : decode cL_slip 17 = .ok (.ireturn, 1) := by decide +kernel
set_option maxRecDepth 20000 in
theorem ggL_law_L_cell : GoodIn wsL_law wsL_cell := goodIn_r _ [11] (by decide +kernel) (by decide +kernel)
set_option maxRecDepth 20000 in
theorem gL_law_L_cell : GoodIn wsL_law (va_wsS RL 15 yL_cell wsL_cell) := goodIn_app (goodIn_of _ (by decide +kernel)) ggL_law_L_cell
set_option maxRecDepth 20000 in
theorem ggL_law_X1_init : GoodIn wsL_law wsX1_init := goodIn_r _ [14, 15, 16, 17, 18, 19, 20, 21, 22, 23, 24, 25, 26, 27, 28, 296, 297, 298, 299, 300, 301, 316, 317, 318, 319, 320, 321] (by decide +kernel) (by decide +kernel)
set_option maxRecDepth 20000 in
theorem gL_law_X1_init : GoodIn wsL_law (wsX1_init) := ggL_law_X1_init
set_option maxRecDepth 20000 in
theorem ggL_law_X2_init : GoodIn wsL_law wsX2_init := goodIn_r _ [31, 32, 16, 17, 6, 33, 34, 35, 36, 37, 38, 39, 40, 41, 42, 43, 44, 302, 303, 304, 305, 306, 307, 308, 309, 310, 311, 312, 313, 314, 315] (by decide +kernel) (by decide +kernel)
set_option maxRecDepth 20000 in
theorem gL_law_X2_init : GoodIn wsL_law (wsX2_init) := ggL_law_X2_init
set_option maxRecDepth 20000 in
theorem ggL_law_X1_wheel : GoodIn wsL_law wsX1_wheel := goodIn_r _ [48, 49, 50, 51, 52, 2, 53, 19, 54, 55, 56, 316, 317, 318, 319, 320, 321, 296, 297, 298, 299, 300, 301] (by decide +kernel) (by decide +kernel)
set_option maxRecDepth 20000 in
theorem gL_law_X1_wheel : GoodIn wsL_law (wsV RL 29 RX1 yX1_wheel wsX1_wheel) := goodIn_app (goodIn_of _ (by decide +kernel)) ggL_law_X1_wheel
set_option maxRecDepth 20000 in
theorem ggL_law_X2_wheel : GoodIn wsL_law wsX2_wheel := goodIn_r _ [60, 61, 62, 33, 63, 64, 65, 5, 66, 43, 302, 303, 304, 305, 306, 307, 308, 309, 310, 311, 312, 313, 314, 315] (by decide +kernel) (by decide +kernel)
set_option maxRecDepth 20000 in
theorem gL_law_X2_wheel : GoodIn wsL_law (wsV RL 33 RX2 yX2_wheel wsX2_wheel) := goodIn_app (goodIn_of _ (by decide +kernel)) ggL_law_X2_wheel
set_option maxRecDepth 20000 in
theorem ggL_law_X1_step : GoodIn wsL_law wsX1_step := goodIn_r _ [70, 71, 72, 73, 74, 75, 19, 76, 77, 22, 54, 55, 2, 56, 78, 79, 80, 81, 82, 83, 84, 85, 86, 87, 88, 89, 90, 91, 92, 93, 94, 95, 21, 96, 97, 26, 98, 99, 100, 101, 102, 103, 104, 27, 105, 106, 107, 108, 109, 110, 111, 112, 113, 114, 115, 116, 117, 118, 119, 120, 121, 28, 122, 123, 124, 125, 126, 127, 128, 129, 130, 131, 132, 133, 134, 135, 136, 137, 296, 297, 298, 299, 300, 301, 316, 317, 318, 319, 320, 321] (by decide +kernel) (by decide +kernel)
set_option maxRecDepth 20000 in
theorem gL_law_X1_step : GoodIn wsL_law (wsV RL 34 RX1 yX1_step wsX1_step) := goodIn_app (goodIn_of _ (by decide +kernel)) ggL_law_X1_step
set_option maxRecDepth 20000 in
theorem ggL_law_X2_step : GoodIn wsL_law wsX2_step := goodIn_r _ [141, 61, 44, 142, 143, 144, 43, 37, 38, 41, 145, 33, 146, 147, 148, 149, 150, 151, 42, 152, 153, 154, 155, 5, 156, 35, 157, 158, 159, 160, 161, 162, 163, 164, 165, 166, 167, 168, 169, 170, 171, 172, 39, 173, 174, 175, 176, 302, 303, 304, 305, 306, 307, 308, 309, 310, 311, 312, 313, 314, 315] (by decide +kernel) (by decide +kernel)
set_option maxRecDepth 20000 in
theorem gL_law_X2_step : GoodIn wsL_law (wsV RL 38 RX2 yX2_step wsX2_step) := goodIn_app (goodIn_of _ (by decide +kernel)) ggL_law_X2_step
set_option maxRecDepth 20000 in
theorem ggL_law_X1_phase : GoodIn wsL_law wsX1_phase := goodIn_r _ [180, 50, 51, 52, 2, 53, 19, 316, 317, 318, 319, 320, 321, 296, 297, 298, 299, 300, 301] (by decide +kernel) (by decide +kernel)
set_option maxRecDepth 20000 in
theorem gL_law_X1_phase : GoodIn wsL_law (wsV RL 39 RX1 yX1_phase wsX1_phase) := goodIn_app (goodIn_of _ (by decide +kernel)) ggL_law_X1_phase
set_option maxRecDepth 20000 in
theorem ggL_law_X2_phase : GoodIn wsL_law wsX2_phase := goodIn_r _ [184, 61, 37, 63, 64, 65, 5, 66, 43, 302, 303, 304, 305, 306, 307, 308, 309, 310, 311, 312, 313, 314, 315] (by decide +kernel) (by decide +kernel)
set_option maxRecDepth 20000 in
theorem gL_law_X2_phase : GoodIn wsL_law (wsV RL 43 RX2 yX2_phase wsX2_phase) := goodIn_app (goodIn_of _ (by decide +kernel)) ggL_law_X2_phase
set_option maxRecDepth 20000 in
theorem ggL_law_X1_pressure : GoodIn wsL_law wsX1_pressure := goodIn_r _ [188, 189, 50, 51, 52, 2, 53, 19, 316, 317, 318, 319, 320, 321, 296, 297, 298, 299, 300, 301] (by decide +kernel) (by decide +kernel)
set_option maxRecDepth 20000 in
theorem gL_law_X1_pressure : GoodIn wsL_law (wsV RL 44 RX1 yX1_pressure wsX1_pressure) := goodIn_app (goodIn_of _ (by decide +kernel)) ggL_law_X1_pressure
set_option maxRecDepth 20000 in
theorem ggL_law_X2_pressure : GoodIn wsL_law wsX2_pressure := goodIn_r _ [193, 61, 194, 38, 63, 64, 65, 5, 66, 43, 302, 303, 304, 305, 306, 307, 308, 309, 310, 311, 312, 313, 314, 315] (by decide +kernel) (by decide +kernel)
set_option maxRecDepth 20000 in
theorem gL_law_X2_pressure : GoodIn wsL_law (wsV RL 48 RX2 yX2_pressure wsX2_pressure) := goodIn_app (goodIn_of _ (by decide +kernel)) ggL_law_X2_pressure
set_option maxRecDepth 20000 in
theorem ggL_law_X1_yaw : GoodIn wsL_law wsX1_yaw := goodIn_r _ [198, 199, 49, 200, 201, 85, 202, 77, 54, 55, 2, 56, 87, 88, 89, 90, 19, 50, 51, 52, 53, 119, 21, 120, 121, 28, 115, 116, 117, 108, 316, 317, 318, 319, 320, 321, 296, 297, 298, 299, 300, 301] (by decide +kernel) (by decide +kernel)
set_option maxRecDepth 20000 in
theorem gL_law_X1_yaw : GoodIn wsL_law (wsV RL 49 RX1 yX1_yaw wsX1_yaw) := goodIn_app (goodIn_of _ (by decide +kernel)) ggL_law_X1_yaw
set_option maxRecDepth 20000 in
theorem ggL_law_X2_yaw : GoodIn wsL_law wsX2_yaw := goodIn_r _ [206, 61, 207, 62, 149, 38, 39, 158, 159, 160, 5, 161, 43, 35, 302, 303, 304, 305, 306, 307, 308, 309, 310, 311, 312, 313, 314, 315] (by decide +kernel) (by decide +kernel)
set_option maxRecDepth 20000 in
theorem gL_law_X2_yaw : GoodIn wsL_law (wsV RL 52 RX2 yX2_yaw wsX2_yaw) := goodIn_app (goodIn_of _ (by decide +kernel)) ggL_law_X2_yaw
set_option maxRecDepth 20000 in
theorem ggL_law_L_slip : GoodIn wsL_law wsL_slip := goodIn_ca (goodIn_r _ [210, 211, 212, 213, 214, 2, 215, 216, 217, 75, 200, 201, 85, 202, 50, 51, 52, 53, 19, 218, 219, 220, 83, 84, 86, 296, 297, 298, 299, 300, 301, 316, 317, 318, 319, 320, 321] (by decide +kernel) (by decide +kernel)) (goodIn_sub (fun _ h => List.mem_append_right _ h) (by decide +kernel))
set_option maxRecDepth 20000 in
theorem gL_law_L_slip : GoodIn wsL_law (va_wsS RL 53 yL_slip wsL_slip) := goodIn_app (goodIn_of _ (by decide +kernel)) ggL_law_L_slip
set_option maxRecDepth 20000 in
theorem ggL_law_X2_slip : GoodIn wsL_law wsX2_slip := goodIn_r _ [224, 61, 148, 33, 63, 64, 65, 5, 66, 43, 302, 303, 304, 305, 306, 307, 308, 309, 310, 311, 312, 313, 314, 315] (by decide +kernel) (by decide +kernel)
set_option maxRecDepth 20000 in
theorem gL_law_X2_slip : GoodIn wsL_law (wsV RL 56 RX2 yX2_slip wsX2_slip) := goodIn_app (goodIn_of _ (by decide +kernel)) ggL_law_X2_slip
set_option maxRecDepth 20000 in
theorem ggL_law_X2_thrown : GoodIn wsL_law wsX2_thrown := goodIn_r _ [228, 61, 302, 303, 304, 305, 306, 307, 308, 309, 310, 311, 312, 313, 314, 315] (by decide +kernel) (by decide +kernel)
set_option maxRecDepth 20000 in
theorem gL_law_X2_thrown : GoodIn wsL_law (wsV RL 57 RX2 yX2_thrown wsX2_thrown) := goodIn_app (goodIn_of _ (by decide +kernel)) ggL_law_X2_thrown
set_option maxRecDepth 20000 in
theorem ggL_law_X1_gear : GoodIn wsL_law wsX1_gear := goodIn_r _ [232, 22, 296, 297, 298, 299, 300, 301] (by decide +kernel) (by decide +kernel)
set_option maxRecDepth 20000 in
theorem gL_law_X1_gear : GoodIn wsL_law (wsV RL 61 RX1 yX1_gear wsX1_gear) := goodIn_app (goodIn_of _ (by decide +kernel)) ggL_law_X1_gear
set_option maxRecDepth 20000 in
theorem ggL_law_X2_gear : GoodIn wsL_law wsX2_gear := goodIn_r _ [236, 61, 42, 302, 303, 304, 305, 306, 307, 308, 309, 310, 311, 312, 313, 314, 315] (by decide +kernel) (by decide +kernel)
set_option maxRecDepth 20000 in
theorem gL_law_X2_gear : GoodIn wsL_law (wsV RL 64 RX2 yX2_gear wsX2_gear) := goodIn_app (goodIn_of _ (by decide +kernel)) ggL_law_X2_gear
set_option maxRecDepth 20000 in
theorem ggL_law_X1_lost : GoodIn wsL_law wsX1_lost := goodIn_r _ [240, 50, 51, 52, 2, 53, 19, 87, 88, 89, 90, 316, 317, 318, 319, 320, 321, 296, 297, 298, 299, 300, 301] (by decide +kernel) (by decide +kernel)
set_option maxRecDepth 20000 in
theorem gL_law_X1_lost : GoodIn wsL_law (wsV RL 65 RX1 yX1_lost wsX1_lost) := goodIn_app (goodIn_of _ (by decide +kernel)) ggL_law_X1_lost
set_option maxRecDepth 20000 in
theorem ggL_law_X2_lost : GoodIn wsL_law wsX2_lost := goodIn_r _ [244, 61, 35, 63, 64, 65, 5, 66, 43, 158, 159, 160, 161, 302, 303, 304, 305, 306, 307, 308, 309, 310, 311, 312, 313, 314, 315] (by decide +kernel) (by decide +kernel)
set_option maxRecDepth 20000 in
theorem gL_law_X2_lost : GoodIn wsL_law (wsV RL 69 RX2 yX2_lost wsX2_lost) := goodIn_app (goodIn_of _ (by decide +kernel)) ggL_law_X2_lost
set_option maxRecDepth 20000 in
theorem ggL_law_X1_hold : GoodIn wsL_law wsX1_hold := goodIn_r _ [248, 76, 75, 296, 297, 298, 299, 300, 301] (by decide +kernel) (by decide +kernel)
set_option maxRecDepth 20000 in
theorem gL_law_X1_hold : GoodIn wsL_law (wsV RL 70 RX1 yX1_hold wsX1_hold) := goodIn_app (goodIn_of _ (by decide +kernel)) ggL_law_X1_hold
set_option maxRecDepth 20000 in
theorem ggL_law_X2_hold : GoodIn wsL_law wsX2_hold := goodIn_r _ [252, 61, 147, 148, 302, 303, 304, 305, 306, 307, 308, 309, 310, 311, 312, 313, 314, 315] (by decide +kernel) (by decide +kernel)
set_option maxRecDepth 20000 in
theorem gL_law_X2_hold : GoodIn wsL_law (wsV RL 74 RX2 yX2_hold wsX2_hold) := goodIn_app (goodIn_of _ (by decide +kernel)) ggL_law_X2_hold
set_option maxRecDepth 20000 in
theorem ggL_law_X1_wish : GoodIn wsL_law wsX1_wish := goodIn_r _ [256, 257, 77, 133, 73, 75, 54, 55, 2, 56, 134, 135, 136, 137, 22, 74, 132, 296, 297, 298, 299, 300, 301] (by decide +kernel) (by decide +kernel)
set_option maxRecDepth 20000 in
theorem gL_law_X1_wish : GoodIn wsL_law (wsV RL 75 RX1 yX1_wish wsX1_wish) := goodIn_app (goodIn_of _ (by decide +kernel)) ggL_law_X1_wish
set_option maxRecDepth 20000 in
theorem ggL_law_X2_wish : GoodIn wsL_law wsX2_wish := goodIn_r _ [261, 61, 148, 149, 152, 143, 173, 174, 175, 5, 176, 42, 144, 150, 151, 302, 303, 304, 305, 306, 307, 308, 309, 310, 311, 312, 313, 314, 315] (by decide +kernel) (by decide +kernel)
set_option maxRecDepth 20000 in
theorem gL_law_X2_wish : GoodIn wsL_law (wsV RL 78 RX2 yX2_wish wsX2_wish) := goodIn_app (goodIn_of _ (by decide +kernel)) ggL_law_X2_wish
set_option maxRecDepth 20000 in
theorem ggL_law_X1_reference : GoodIn wsL_law wsX1_reference := goodIn_r _ [265, 75, 296, 297, 298, 299, 300, 301] (by decide +kernel) (by decide +kernel)
set_option maxRecDepth 20000 in
theorem gL_law_X1_reference : GoodIn wsL_law (wsV RL 79 RX1 yX1_reference wsX1_reference) := goodIn_app (goodIn_of _ (by decide +kernel)) ggL_law_X1_reference
set_option maxRecDepth 20000 in
theorem ggL_law_X2_reference : GoodIn wsL_law wsX2_reference := goodIn_r _ [269, 61, 148, 302, 303, 304, 305, 306, 307, 308, 309, 310, 311, 312, 313, 314, 315] (by decide +kernel) (by decide +kernel)
set_option maxRecDepth 20000 in
theorem gL_law_X2_reference : GoodIn wsL_law (wsV RL 83 RX2 yX2_reference wsX2_reference) := goodIn_app (goodIn_of _ (by decide +kernel)) ggL_law_X2_reference
set_option maxRecDepth 20000 in
theorem ggL_law_X1_plant : GoodIn wsL_law wsX1_plant := goodIn_r _ [273, 50, 51, 52, 2, 53, 19, 316, 317, 318, 319, 320, 321, 296, 297, 298, 299, 300, 301] (by decide +kernel) (by decide +kernel)
set_option maxRecDepth 20000 in
theorem gL_law_X1_plant : GoodIn wsL_law (wsV RL 84 RX1 yX1_plant wsX1_plant) := goodIn_app (goodIn_of _ (by decide +kernel)) ggL_law_X1_plant
set_option maxRecDepth 20000 in
theorem ggL_law_X2_plant : GoodIn wsL_law wsX2_plant := goodIn_r _ [277, 61, 41, 63, 64, 65, 5, 66, 43, 302, 303, 304, 305, 306, 307, 308, 309, 310, 311, 312, 313, 314, 315] (by decide +kernel) (by decide +kernel)
set_option maxRecDepth 20000 in
theorem gL_law_X2_plant : GoodIn wsL_law (wsV RL 88 RX2 yX2_plant wsX2_plant) := goodIn_app (goodIn_of _ (by decide +kernel)) ggL_law_X2_plant
set_option maxRecDepth 20000 in
theorem ggL_law_X1_bound : GoodIn wsL_law wsX1_bound := goodIn_r _ [281, 282, 50, 51, 52, 2, 53, 19, 54, 55, 56, 119, 21, 120, 121, 28, 115, 116, 85, 117, 108, 316, 317, 318, 319, 320, 321, 296, 297, 298, 299, 300, 301] (by decide +kernel) (by decide +kernel)
set_option maxRecDepth 20000 in
theorem gL_law_X1_bound : GoodIn wsL_law (wsV RL 89 RX1 yX1_bound wsX1_bound) := goodIn_app (goodIn_of _ (by decide +kernel)) ggL_law_X1_bound
set_option maxRecDepth 20000 in
theorem ggL_law_X2_bound : GoodIn wsL_law wsX2_bound := goodIn_r _ [286, 61, 287, 39, 38, 63, 64, 65, 5, 66, 43, 302, 303, 304, 305, 306, 307, 308, 309, 310, 311, 312, 313, 314, 315] (by decide +kernel) (by decide +kernel)
set_option maxRecDepth 20000 in
theorem gL_law_X2_bound : GoodIn wsL_law (wsV RL 92 RX2 yX2_bound wsX2_bound) := goodIn_app (goodIn_of _ (by decide +kernel)) ggL_law_X2_bound
set_option maxRecDepth 20000 in
theorem ggL_law_X1_mode : GoodIn wsL_law wsX1_mode := goodIn_r _ [291, 76, 87, 88, 89, 2, 90, 19, 296, 297, 298, 299, 300, 301, 316, 317, 318, 319, 320, 321] (by decide +kernel) (by decide +kernel)
set_option maxRecDepth 20000 in
theorem gL_law_X1_mode : GoodIn wsL_law (wsV RL 93 RX1 yX1_mode wsX1_mode) := goodIn_app (goodIn_of _ (by decide +kernel)) ggL_law_X1_mode
set_option maxRecDepth 20000 in
theorem ggL_law_X2_mode : GoodIn wsL_law wsX2_mode := goodIn_r _ [295, 61, 147, 158, 159, 160, 5, 161, 43, 35, 302, 303, 304, 305, 306, 307, 308, 309, 310, 311, 312, 313, 314, 315] (by decide +kernel) (by decide +kernel)
set_option maxRecDepth 20000 in
theorem gL_law_X2_mode : GoodIn wsL_law (wsV RL 96 RX2 yX2_mode wsX2_mode) := goodIn_app (goodIn_of _ (by decide +kernel)) ggL_law_X2_mode
theorem dL_law_0 : decode cL_law 0 = .ok (.new 8, 3) := by decide +kernel
theorem dL_law_3 : decode cL_law 3 = .ok (.dup, 1) := by decide +kernel
theorem dL_law_4 : decode cL_law 4 = .ok (.aload_n 0, 1) := by decide +kernel
theorem dL_law_5 : decode cL_law 5 = .ok (.iconst 0, 1) := by decide +kernel
theorem dL_law_6 : decode cL_law 6 = .ok (.invokestatic 15, 3) := by decide +kernel
theorem dL_law_9 : decode cL_law 9 = .ok (.invokespecial 21, 3) := by decide +kernel
theorem dL_law_12 : decode cL_law 12 = .ok (.astore_n 1, 1) := by decide +kernel
theorem dL_law_13 : decode cL_law 13 = .ok (.new 24, 3) := by decide +kernel
theorem dL_law_16 : decode cL_law 16 = .ok (.dup, 1) := by decide +kernel
theorem dL_law_17 : decode cL_law 17 = .ok (.aload_n 0, 1) := by decide +kernel
theorem dL_law_18 : decode cL_law 18 = .ok (.iconst 0, 1) := by decide +kernel
theorem dL_law_19 : decode cL_law 19 = .ok (.invokestatic 15, 3) := by decide +kernel
theorem dL_law_22 : decode cL_law 22 = .ok (.invokespecial 26, 3) := by decide +kernel
theorem dL_law_25 : decode cL_law 25 = .ok (.astore_n 2, 1) := by decide +kernel
theorem dL_law_26 : decode cL_law 26 = .ok (.iconst 1, 1) := by decide +kernel
theorem dL_law_27 : decode cL_law 27 = .ok (.newarray .long, 2) := by decide +kernel
theorem dL_law_29 : decode cL_law 29 = .ok (.astore_n 3, 1) := by decide +kernel
theorem dL_law_30 : decode cL_law 30 = .ok (.iconst 1, 1) := by decide +kernel
theorem dL_law_31 : decode cL_law 31 = .ok (.istore 4, 2) := by decide +kernel
theorem dL_law_33 : decode cL_law 33 = .ok (.iload 4, 2) := by decide +kernel
theorem dL_law_35 : decode cL_law 35 = .ok (.aload_n 0, 1) := by decide +kernel
theorem dL_law_36 : decode cL_law 36 = .ok (.arraylength, 1) := by decide +kernel
theorem dL_law_37 : decode cL_law 37 = .ok (.iconst 5, 1) := by decide +kernel
theorem dL_law_38 : decode cL_law 38 = .ok (.isub, 1) := by decide +kernel
theorem dL_law_39 : decode cL_law 39 = .ok (.if_icmp .gt 757, 3) := by decide +kernel
theorem dL_law_42 : decode cL_law 42 = .ok (.aload_n 0, 1) := by decide +kernel
theorem dL_law_43 : decode cL_law 43 = .ok (.iload 4, 2) := by decide +kernel
theorem dL_law_45 : decode cL_law 45 = .ok (.iaload, 1) := by decide +kernel
theorem dL_law_46 : decode cL_law 46 = .ok (.bipush 15, 2) := by decide +kernel
theorem dL_law_48 : decode cL_law 48 = .ok (.iand, 1) := by decide +kernel
theorem dL_law_49 : decode cL_law 49 = .ok (.tableswitch 741 0 13 #[71, 140, 241, 266, 292, 393, 460, 473, 526, 567, 592, 606, 659, 728], 71) := by decide +kernel
theorem dL_law_120 : decode cL_law 120 = .ok (.aload_n 1, 1) := by decide +kernel
theorem dL_law_121 : decode cL_law 121 = .ok (.aload_n 0, 1) := by decide +kernel
theorem dL_law_122 : decode cL_law 122 = .ok (.iload 4, 2) := by decide +kernel
theorem dL_law_124 : decode cL_law 124 = .ok (.iconst 1, 1) := by decide +kernel
theorem dL_law_125 : decode cL_law 125 = .ok (.iadd, 1) := by decide +kernel
theorem dL_law_126 : decode cL_law 126 = .ok (.iaload, 1) := by decide +kernel
theorem dL_law_127 : decode cL_law 127 = .ok (.aload_n 0, 1) := by decide +kernel
theorem dL_law_128 : decode cL_law 128 = .ok (.iload 4, 2) := by decide +kernel
theorem dL_law_130 : decode cL_law 130 = .ok (.iconst 2, 1) := by decide +kernel
theorem dL_law_131 : decode cL_law 131 = .ok (.iadd, 1) := by decide +kernel
theorem dL_law_132 : decode cL_law 132 = .ok (.iaload, 1) := by decide +kernel
theorem dL_law_133 : decode cL_law 133 = .ok (.i2l, 1) := by decide +kernel
theorem dL_law_134 : decode cL_law 134 = .ok (.bipush 32, 2) := by decide +kernel
theorem dL_law_136 : decode cL_law 136 = .ok (.lshl, 1) := by decide +kernel
theorem dL_law_137 : decode cL_law 137 = .ok (.aload_n 0, 1) := by decide +kernel
theorem dL_law_138 : decode cL_law 138 = .ok (.iload 4, 2) := by decide +kernel
theorem dL_law_140 : decode cL_law 140 = .ok (.iconst 3, 1) := by decide +kernel
theorem dL_law_141 : decode cL_law 141 = .ok (.iadd, 1) := by decide +kernel
theorem dL_law_142 : decode cL_law 142 = .ok (.iaload, 1) := by decide +kernel
theorem dL_law_143 : decode cL_law 143 = .ok (.i2l, 1) := by decide +kernel
theorem dL_law_144 : decode cL_law 144 = .ok (.ldc2_w 27, 3) := by decide +kernel
theorem dL_law_147 : decode cL_law 147 = .ok (.land, 1) := by decide +kernel
theorem dL_law_148 : decode cL_law 148 = .ok (.lor, 1) := by decide +kernel
theorem dL_law_149 : decode cL_law 149 = .ok (.invokevirtual 29, 3) := by decide +kernel
theorem dL_law_152 : decode cL_law 152 = .ok (.aload_n 2, 1) := by decide +kernel
theorem dL_law_153 : decode cL_law 153 = .ok (.aload_n 0, 1) := by decide +kernel
theorem dL_law_154 : decode cL_law 154 = .ok (.iload 4, 2) := by decide +kernel
theorem dL_law_156 : decode cL_law 156 = .ok (.iconst 1, 1) := by decide +kernel
theorem dL_law_157 : decode cL_law 157 = .ok (.iadd, 1) := by decide +kernel
theorem dL_law_158 : decode cL_law 158 = .ok (.iaload, 1) := by decide +kernel
theorem dL_law_159 : decode cL_law 159 = .ok (.aload_n 0, 1) := by decide +kernel
theorem dL_law_160 : decode cL_law 160 = .ok (.iload 4, 2) := by decide +kernel
theorem dL_law_162 : decode cL_law 162 = .ok (.iconst 2, 1) := by decide +kernel
theorem dL_law_163 : decode cL_law 163 = .ok (.iadd, 1) := by decide +kernel
theorem dL_law_164 : decode cL_law 164 = .ok (.iaload, 1) := by decide +kernel
theorem dL_law_165 : decode cL_law 165 = .ok (.i2l, 1) := by decide +kernel
theorem dL_law_166 : decode cL_law 166 = .ok (.bipush 32, 2) := by decide +kernel
theorem dL_law_168 : decode cL_law 168 = .ok (.lshl, 1) := by decide +kernel
theorem dL_law_169 : decode cL_law 169 = .ok (.aload_n 0, 1) := by decide +kernel
theorem dL_law_170 : decode cL_law 170 = .ok (.iload 4, 2) := by decide +kernel
theorem dL_law_172 : decode cL_law 172 = .ok (.iconst 3, 1) := by decide +kernel
theorem dL_law_173 : decode cL_law 173 = .ok (.iadd, 1) := by decide +kernel
theorem dL_law_174 : decode cL_law 174 = .ok (.iaload, 1) := by decide +kernel
theorem dL_law_175 : decode cL_law 175 = .ok (.i2l, 1) := by decide +kernel
theorem dL_law_176 : decode cL_law 176 = .ok (.ldc2_w 27, 3) := by decide +kernel
theorem dL_law_179 : decode cL_law 179 = .ok (.land, 1) := by decide +kernel
theorem dL_law_180 : decode cL_law 180 = .ok (.lor, 1) := by decide +kernel
theorem dL_law_181 : decode cL_law 181 = .ok (.invokevirtual 33, 3) := by decide +kernel
theorem dL_law_184 : decode cL_law 184 = .ok (.if_icmp .eq 606, 3) := by decide +kernel
theorem dL_law_187 : decode cL_law 187 = .ok (.iconst 0, 1) := by decide +kernel
theorem dL_law_188 : decode cL_law 188 = .ok (.ireturn, 1) := by decide +kernel
theorem dL_law_189 : decode cL_law 189 = .ok (.aload_n 1, 1) := by decide +kernel
theorem dL_law_190 : decode cL_law 190 = .ok (.aload_n 0, 1) := by decide +kernel
theorem dL_law_191 : decode cL_law 191 = .ok (.iload 4, 2) := by decide +kernel
theorem dL_law_193 : decode cL_law 193 = .ok (.iconst 1, 1) := by decide +kernel
theorem dL_law_194 : decode cL_law 194 = .ok (.iadd, 1) := by decide +kernel
theorem dL_law_195 : decode cL_law 195 = .ok (.iaload, 1) := by decide +kernel
theorem dL_law_196 : decode cL_law 196 = .ok (.i2l, 1) := by decide +kernel
theorem dL_law_197 : decode cL_law 197 = .ok (.bipush 32, 2) := by decide +kernel
theorem dL_law_199 : decode cL_law 199 = .ok (.lshl, 1) := by decide +kernel
theorem dL_law_200 : decode cL_law 200 = .ok (.aload_n 0, 1) := by decide +kernel
theorem dL_law_201 : decode cL_law 201 = .ok (.iload 4, 2) := by decide +kernel
theorem dL_law_203 : decode cL_law 203 = .ok (.iconst 2, 1) := by decide +kernel
theorem dL_law_204 : decode cL_law 204 = .ok (.iadd, 1) := by decide +kernel
theorem dL_law_205 : decode cL_law 205 = .ok (.iaload, 1) := by decide +kernel
theorem dL_law_206 : decode cL_law 206 = .ok (.i2l, 1) := by decide +kernel
theorem dL_law_207 : decode cL_law 207 = .ok (.ldc2_w 27, 3) := by decide +kernel
theorem dL_law_210 : decode cL_law 210 = .ok (.land, 1) := by decide +kernel
theorem dL_law_211 : decode cL_law 211 = .ok (.lor, 1) := by decide +kernel
theorem dL_law_212 : decode cL_law 212 = .ok (.aload_n 0, 1) := by decide +kernel
theorem dL_law_213 : decode cL_law 213 = .ok (.iload 4, 2) := by decide +kernel
theorem dL_law_215 : decode cL_law 215 = .ok (.iconst 3, 1) := by decide +kernel
theorem dL_law_216 : decode cL_law 216 = .ok (.iadd, 1) := by decide +kernel
theorem dL_law_217 : decode cL_law 217 = .ok (.iaload, 1) := by decide +kernel
theorem dL_law_218 : decode cL_law 218 = .ok (.i2l, 1) := by decide +kernel
theorem dL_law_219 : decode cL_law 219 = .ok (.bipush 32, 2) := by decide +kernel
theorem dL_law_221 : decode cL_law 221 = .ok (.lshl, 1) := by decide +kernel
theorem dL_law_222 : decode cL_law 222 = .ok (.aload_n 0, 1) := by decide +kernel
theorem dL_law_223 : decode cL_law 223 = .ok (.iload 4, 2) := by decide +kernel
theorem dL_law_225 : decode cL_law 225 = .ok (.iconst 4, 1) := by decide +kernel
theorem dL_law_226 : decode cL_law 226 = .ok (.iadd, 1) := by decide +kernel
theorem dL_law_227 : decode cL_law 227 = .ok (.iaload, 1) := by decide +kernel
theorem dL_law_228 : decode cL_law 228 = .ok (.i2l, 1) := by decide +kernel
theorem dL_law_229 : decode cL_law 229 = .ok (.ldc2_w 27, 3) := by decide +kernel
theorem dL_law_232 : decode cL_law 232 = .ok (.land, 1) := by decide +kernel
theorem dL_law_233 : decode cL_law 233 = .ok (.lor, 1) := by decide +kernel
theorem dL_law_234 : decode cL_law 234 = .ok (.invokevirtual 34, 3) := by decide +kernel
theorem dL_law_237 : decode cL_law 237 = .ok (.aload_n 2, 1) := by decide +kernel
theorem dL_law_238 : decode cL_law 238 = .ok (.aload_n 0, 1) := by decide +kernel
theorem dL_law_239 : decode cL_law 239 = .ok (.iload 4, 2) := by decide +kernel
theorem dL_law_241 : decode cL_law 241 = .ok (.iconst 1, 1) := by decide +kernel
theorem dL_law_242 : decode cL_law 242 = .ok (.iadd, 1) := by decide +kernel
theorem dL_law_243 : decode cL_law 243 = .ok (.iaload, 1) := by decide +kernel
theorem dL_law_244 : decode cL_law 244 = .ok (.i2l, 1) := by decide +kernel
theorem dL_law_245 : decode cL_law 245 = .ok (.bipush 32, 2) := by decide +kernel
theorem dL_law_247 : decode cL_law 247 = .ok (.lshl, 1) := by decide +kernel
theorem dL_law_248 : decode cL_law 248 = .ok (.aload_n 0, 1) := by decide +kernel
theorem dL_law_249 : decode cL_law 249 = .ok (.iload 4, 2) := by decide +kernel
theorem dL_law_251 : decode cL_law 251 = .ok (.iconst 2, 1) := by decide +kernel
theorem dL_law_252 : decode cL_law 252 = .ok (.iadd, 1) := by decide +kernel
theorem dL_law_253 : decode cL_law 253 = .ok (.iaload, 1) := by decide +kernel
theorem dL_law_254 : decode cL_law 254 = .ok (.i2l, 1) := by decide +kernel
theorem dL_law_255 : decode cL_law 255 = .ok (.ldc2_w 27, 3) := by decide +kernel
theorem dL_law_258 : decode cL_law 258 = .ok (.land, 1) := by decide +kernel
theorem dL_law_259 : decode cL_law 259 = .ok (.lor, 1) := by decide +kernel
theorem dL_law_260 : decode cL_law 260 = .ok (.aload_n 0, 1) := by decide +kernel
theorem dL_law_261 : decode cL_law 261 = .ok (.iload 4, 2) := by decide +kernel
theorem dL_law_263 : decode cL_law 263 = .ok (.iconst 3, 1) := by decide +kernel
theorem dL_law_264 : decode cL_law 264 = .ok (.iadd, 1) := by decide +kernel
theorem dL_law_265 : decode cL_law 265 = .ok (.iaload, 1) := by decide +kernel
theorem dL_law_266 : decode cL_law 266 = .ok (.i2l, 1) := by decide +kernel
theorem dL_law_267 : decode cL_law 267 = .ok (.bipush 32, 2) := by decide +kernel
theorem dL_law_269 : decode cL_law 269 = .ok (.lshl, 1) := by decide +kernel
theorem dL_law_270 : decode cL_law 270 = .ok (.aload_n 0, 1) := by decide +kernel
theorem dL_law_271 : decode cL_law 271 = .ok (.iload 4, 2) := by decide +kernel
theorem dL_law_273 : decode cL_law 273 = .ok (.iconst 4, 1) := by decide +kernel
theorem dL_law_274 : decode cL_law 274 = .ok (.iadd, 1) := by decide +kernel
theorem dL_law_275 : decode cL_law 275 = .ok (.iaload, 1) := by decide +kernel
theorem dL_law_276 : decode cL_law 276 = .ok (.i2l, 1) := by decide +kernel
theorem dL_law_277 : decode cL_law 277 = .ok (.ldc2_w 27, 3) := by decide +kernel
theorem dL_law_280 : decode cL_law 280 = .ok (.land, 1) := by decide +kernel
theorem dL_law_281 : decode cL_law 281 = .ok (.lor, 1) := by decide +kernel
theorem dL_law_282 : decode cL_law 282 = .ok (.invokevirtual 38, 3) := by decide +kernel
theorem dL_law_285 : decode cL_law 285 = .ok (.if_icmp .eq 505, 3) := by decide +kernel
theorem dL_law_288 : decode cL_law 288 = .ok (.iconst 0, 1) := by decide +kernel
theorem dL_law_289 : decode cL_law 289 = .ok (.ireturn, 1) := by decide +kernel
theorem dL_law_290 : decode cL_law 290 = .ok (.aload_n 1, 1) := by decide +kernel
theorem dL_law_291 : decode cL_law 291 = .ok (.aload_n 0, 1) := by decide +kernel
theorem dL_law_292 : decode cL_law 292 = .ok (.iload 4, 2) := by decide +kernel
theorem dL_law_294 : decode cL_law 294 = .ok (.iconst 1, 1) := by decide +kernel
theorem dL_law_295 : decode cL_law 295 = .ok (.iadd, 1) := by decide +kernel
theorem dL_law_296 : decode cL_law 296 = .ok (.iaload, 1) := by decide +kernel
theorem dL_law_297 : decode cL_law 297 = .ok (.invokevirtual 39, 3) := by decide +kernel
theorem dL_law_300 : decode cL_law 300 = .ok (.aload_n 2, 1) := by decide +kernel
theorem dL_law_301 : decode cL_law 301 = .ok (.aload_n 0, 1) := by decide +kernel
theorem dL_law_302 : decode cL_law 302 = .ok (.iload 4, 2) := by decide +kernel
theorem dL_law_304 : decode cL_law 304 = .ok (.iconst 1, 1) := by decide +kernel
theorem dL_law_305 : decode cL_law 305 = .ok (.iadd, 1) := by decide +kernel
theorem dL_law_306 : decode cL_law 306 = .ok (.iaload, 1) := by decide +kernel
theorem dL_law_307 : decode cL_law 307 = .ok (.invokevirtual 43, 3) := by decide +kernel
theorem dL_law_310 : decode cL_law 310 = .ok (.if_icmp .eq 480, 3) := by decide +kernel
theorem dL_law_313 : decode cL_law 313 = .ok (.iconst 0, 1) := by decide +kernel
theorem dL_law_314 : decode cL_law 314 = .ok (.ireturn, 1) := by decide +kernel
theorem dL_law_315 : decode cL_law 315 = .ok (.aload_n 1, 1) := by decide +kernel
theorem dL_law_316 : decode cL_law 316 = .ok (.aload_n 0, 1) := by decide +kernel
theorem dL_law_317 : decode cL_law 317 = .ok (.iload 4, 2) := by decide +kernel
theorem dL_law_319 : decode cL_law 319 = .ok (.iconst 1, 1) := by decide +kernel
theorem dL_law_320 : decode cL_law 320 = .ok (.iadd, 1) := by decide +kernel
theorem dL_law_321 : decode cL_law 321 = .ok (.iaload, 1) := by decide +kernel
theorem dL_law_322 : decode cL_law 322 = .ok (.invokevirtual 44, 3) := by decide +kernel
theorem dL_law_325 : decode cL_law 325 = .ok (.aload_n 2, 1) := by decide +kernel
theorem dL_law_326 : decode cL_law 326 = .ok (.aload_n 0, 1) := by decide +kernel
theorem dL_law_327 : decode cL_law 327 = .ok (.iload 4, 2) := by decide +kernel
theorem dL_law_329 : decode cL_law 329 = .ok (.iconst 1, 1) := by decide +kernel
theorem dL_law_330 : decode cL_law 330 = .ok (.iadd, 1) := by decide +kernel
theorem dL_law_331 : decode cL_law 331 = .ok (.iaload, 1) := by decide +kernel
theorem dL_law_332 : decode cL_law 332 = .ok (.invokevirtual 48, 3) := by decide +kernel
theorem dL_law_335 : decode cL_law 335 = .ok (.lcmp, 1) := by decide +kernel
theorem dL_law_336 : decode cL_law 336 = .ok (.ifCond .eq 454, 3) := by decide +kernel
theorem dL_law_339 : decode cL_law 339 = .ok (.iconst 0, 1) := by decide +kernel
theorem dL_law_340 : decode cL_law 340 = .ok (.ireturn, 1) := by decide +kernel
theorem dL_law_341 : decode cL_law 341 = .ok (.aload_n 1, 1) := by decide +kernel
theorem dL_law_342 : decode cL_law 342 = .ok (.aload_n 0, 1) := by decide +kernel
theorem dL_law_343 : decode cL_law 343 = .ok (.iload 4, 2) := by decide +kernel
theorem dL_law_345 : decode cL_law 345 = .ok (.iconst 1, 1) := by decide +kernel
theorem dL_law_346 : decode cL_law 346 = .ok (.iadd, 1) := by decide +kernel
theorem dL_law_347 : decode cL_law 347 = .ok (.iaload, 1) := by decide +kernel
theorem dL_law_348 : decode cL_law 348 = .ok (.i2l, 1) := by decide +kernel
theorem dL_law_349 : decode cL_law 349 = .ok (.bipush 32, 2) := by decide +kernel
theorem dL_law_351 : decode cL_law 351 = .ok (.lshl, 1) := by decide +kernel
theorem dL_law_352 : decode cL_law 352 = .ok (.aload_n 0, 1) := by decide +kernel
theorem dL_law_353 : decode cL_law 353 = .ok (.iload 4, 2) := by decide +kernel
theorem dL_law_355 : decode cL_law 355 = .ok (.iconst 2, 1) := by decide +kernel
theorem dL_law_356 : decode cL_law 356 = .ok (.iadd, 1) := by decide +kernel
theorem dL_law_357 : decode cL_law 357 = .ok (.iaload, 1) := by decide +kernel
theorem dL_law_358 : decode cL_law 358 = .ok (.i2l, 1) := by decide +kernel
theorem dL_law_359 : decode cL_law 359 = .ok (.ldc2_w 27, 3) := by decide +kernel
theorem dL_law_362 : decode cL_law 362 = .ok (.land, 1) := by decide +kernel
theorem dL_law_363 : decode cL_law 363 = .ok (.lor, 1) := by decide +kernel
theorem dL_law_364 : decode cL_law 364 = .ok (.aload_n 0, 1) := by decide +kernel
theorem dL_law_365 : decode cL_law 365 = .ok (.iload 4, 2) := by decide +kernel
theorem dL_law_367 : decode cL_law 367 = .ok (.iconst 3, 1) := by decide +kernel
theorem dL_law_368 : decode cL_law 368 = .ok (.iadd, 1) := by decide +kernel
theorem dL_law_369 : decode cL_law 369 = .ok (.iaload, 1) := by decide +kernel
theorem dL_law_370 : decode cL_law 370 = .ok (.i2l, 1) := by decide +kernel
theorem dL_law_371 : decode cL_law 371 = .ok (.bipush 32, 2) := by decide +kernel
theorem dL_law_373 : decode cL_law 373 = .ok (.lshl, 1) := by decide +kernel
theorem dL_law_374 : decode cL_law 374 = .ok (.aload_n 0, 1) := by decide +kernel
theorem dL_law_375 : decode cL_law 375 = .ok (.iload 4, 2) := by decide +kernel
theorem dL_law_377 : decode cL_law 377 = .ok (.iconst 4, 1) := by decide +kernel
theorem dL_law_378 : decode cL_law 378 = .ok (.iadd, 1) := by decide +kernel
theorem dL_law_379 : decode cL_law 379 = .ok (.iaload, 1) := by decide +kernel
theorem dL_law_380 : decode cL_law 380 = .ok (.i2l, 1) := by decide +kernel
theorem dL_law_381 : decode cL_law 381 = .ok (.ldc2_w 27, 3) := by decide +kernel
theorem dL_law_384 : decode cL_law 384 = .ok (.land, 1) := by decide +kernel
theorem dL_law_385 : decode cL_law 385 = .ok (.lor, 1) := by decide +kernel
theorem dL_law_386 : decode cL_law 386 = .ok (.invokevirtual 49, 3) := by decide +kernel
theorem dL_law_389 : decode cL_law 389 = .ok (.aload_n 2, 1) := by decide +kernel
theorem dL_law_390 : decode cL_law 390 = .ok (.aload_n 0, 1) := by decide +kernel
theorem dL_law_391 : decode cL_law 391 = .ok (.iload 4, 2) := by decide +kernel
theorem dL_law_393 : decode cL_law 393 = .ok (.iconst 1, 1) := by decide +kernel
theorem dL_law_394 : decode cL_law 394 = .ok (.iadd, 1) := by decide +kernel
theorem dL_law_395 : decode cL_law 395 = .ok (.iaload, 1) := by decide +kernel
theorem dL_law_396 : decode cL_law 396 = .ok (.i2l, 1) := by decide +kernel
theorem dL_law_397 : decode cL_law 397 = .ok (.bipush 32, 2) := by decide +kernel
theorem dL_law_399 : decode cL_law 399 = .ok (.lshl, 1) := by decide +kernel
theorem dL_law_400 : decode cL_law 400 = .ok (.aload_n 0, 1) := by decide +kernel
theorem dL_law_401 : decode cL_law 401 = .ok (.iload 4, 2) := by decide +kernel
theorem dL_law_403 : decode cL_law 403 = .ok (.iconst 2, 1) := by decide +kernel
theorem dL_law_404 : decode cL_law 404 = .ok (.iadd, 1) := by decide +kernel
theorem dL_law_405 : decode cL_law 405 = .ok (.iaload, 1) := by decide +kernel
theorem dL_law_406 : decode cL_law 406 = .ok (.i2l, 1) := by decide +kernel
theorem dL_law_407 : decode cL_law 407 = .ok (.ldc2_w 27, 3) := by decide +kernel
theorem dL_law_410 : decode cL_law 410 = .ok (.land, 1) := by decide +kernel
theorem dL_law_411 : decode cL_law 411 = .ok (.lor, 1) := by decide +kernel
theorem dL_law_412 : decode cL_law 412 = .ok (.aload_n 0, 1) := by decide +kernel
theorem dL_law_413 : decode cL_law 413 = .ok (.iload 4, 2) := by decide +kernel
theorem dL_law_415 : decode cL_law 415 = .ok (.iconst 3, 1) := by decide +kernel
theorem dL_law_416 : decode cL_law 416 = .ok (.iadd, 1) := by decide +kernel
theorem dL_law_417 : decode cL_law 417 = .ok (.iaload, 1) := by decide +kernel
theorem dL_law_418 : decode cL_law 418 = .ok (.i2l, 1) := by decide +kernel
theorem dL_law_419 : decode cL_law 419 = .ok (.bipush 32, 2) := by decide +kernel
theorem dL_law_421 : decode cL_law 421 = .ok (.lshl, 1) := by decide +kernel
theorem dL_law_422 : decode cL_law 422 = .ok (.aload_n 0, 1) := by decide +kernel
theorem dL_law_423 : decode cL_law 423 = .ok (.iload 4, 2) := by decide +kernel
theorem dL_law_425 : decode cL_law 425 = .ok (.iconst 4, 1) := by decide +kernel
theorem dL_law_426 : decode cL_law 426 = .ok (.iadd, 1) := by decide +kernel
theorem dL_law_427 : decode cL_law 427 = .ok (.iaload, 1) := by decide +kernel
theorem dL_law_428 : decode cL_law 428 = .ok (.i2l, 1) := by decide +kernel
theorem dL_law_429 : decode cL_law 429 = .ok (.ldc2_w 27, 3) := by decide +kernel
theorem dL_law_432 : decode cL_law 432 = .ok (.land, 1) := by decide +kernel
theorem dL_law_433 : decode cL_law 433 = .ok (.lor, 1) := by decide +kernel
theorem dL_law_434 : decode cL_law 434 = .ok (.invokevirtual 52, 3) := by decide +kernel
theorem dL_law_437 : decode cL_law 437 = .ok (.if_icmp .eq 353, 3) := by decide +kernel
theorem dL_law_440 : decode cL_law 440 = .ok (.iconst 0, 1) := by decide +kernel
theorem dL_law_441 : decode cL_law 441 = .ok (.ireturn, 1) := by decide +kernel
theorem dL_law_442 : decode cL_law 442 = .ok (.aload_n 1, 1) := by decide +kernel
theorem dL_law_443 : decode cL_law 443 = .ok (.aload_n 0, 1) := by decide +kernel
theorem dL_law_444 : decode cL_law 444 = .ok (.iload 4, 2) := by decide +kernel
theorem dL_law_446 : decode cL_law 446 = .ok (.iconst 1, 1) := by decide +kernel
theorem dL_law_447 : decode cL_law 447 = .ok (.iadd, 1) := by decide +kernel
theorem dL_law_448 : decode cL_law 448 = .ok (.iaload, 1) := by decide +kernel
theorem dL_law_449 : decode cL_law 449 = .ok (.aload_n 0, 1) := by decide +kernel
theorem dL_law_450 : decode cL_law 450 = .ok (.iload 4, 2) := by decide +kernel
theorem dL_law_452 : decode cL_law 452 = .ok (.iconst 2, 1) := by decide +kernel
theorem dL_law_453 : decode cL_law 453 = .ok (.iadd, 1) := by decide +kernel
theorem dL_law_454 : decode cL_law 454 = .ok (.iaload, 1) := by decide +kernel
theorem dL_law_455 : decode cL_law 455 = .ok (.aload_n 3, 1) := by decide +kernel
theorem dL_law_456 : decode cL_law 456 = .ok (.invokestatic 53, 3) := by decide +kernel
theorem dL_law_459 : decode cL_law 459 = .ok (.istore 5, 2) := by decide +kernel
theorem dL_law_461 : decode cL_law 461 = .ok (.aload_n 2, 1) := by decide +kernel
theorem dL_law_462 : decode cL_law 462 = .ok (.aload_n 0, 1) := by decide +kernel
theorem dL_law_463 : decode cL_law 463 = .ok (.iload 4, 2) := by decide +kernel
theorem dL_law_465 : decode cL_law 465 = .ok (.iconst 1, 1) := by decide +kernel
theorem dL_law_466 : decode cL_law 466 = .ok (.iadd, 1) := by decide +kernel
theorem dL_law_467 : decode cL_law 467 = .ok (.iaload, 1) := by decide +kernel
theorem dL_law_468 : decode cL_law 468 = .ok (.aload_n 0, 1) := by decide +kernel
theorem dL_law_469 : decode cL_law 469 = .ok (.iload 4, 2) := by decide +kernel
theorem dL_law_471 : decode cL_law 471 = .ok (.iconst 2, 1) := by decide +kernel
theorem dL_law_472 : decode cL_law 472 = .ok (.iadd, 1) := by decide +kernel
theorem dL_law_473 : decode cL_law 473 = .ok (.iaload, 1) := by decide +kernel
theorem dL_law_474 : decode cL_law 474 = .ok (.invokevirtual 56, 3) := by decide +kernel
theorem dL_law_477 : decode cL_law 477 = .ok (.lstore 6, 2) := by decide +kernel
theorem dL_law_479 : decode cL_law 479 = .ok (.aload_n 2, 1) := by decide +kernel
theorem dL_law_480 : decode cL_law 480 = .ok (.invokevirtual 57, 3) := by decide +kernel
theorem dL_law_483 : decode cL_law 483 = .ok (.iload 5, 2) := by decide +kernel
theorem dL_law_485 : decode cL_law 485 = .ok (.if_icmp .eq 5, 3) := by decide +kernel
theorem dL_law_488 : decode cL_law 488 = .ok (.iconst 0, 1) := by decide +kernel
theorem dL_law_489 : decode cL_law 489 = .ok (.ireturn, 1) := by decide +kernel
theorem dL_law_490 : decode cL_law 490 = .ok (.iload 5, 2) := by decide +kernel
theorem dL_law_492 : decode cL_law 492 = .ok (.ifCond .ne 14, 3) := by decide +kernel
theorem dL_law_495 : decode cL_law 495 = .ok (.aload_n 3, 1) := by decide +kernel
theorem dL_law_496 : decode cL_law 496 = .ok (.iconst 0, 1) := by decide +kernel
theorem dL_law_497 : decode cL_law 497 = .ok (.laload, 1) := by decide +kernel
theorem dL_law_498 : decode cL_law 498 = .ok (.lload 6, 2) := by decide +kernel
theorem dL_law_500 : decode cL_law 500 = .ok (.lcmp, 1) := by decide +kernel
theorem dL_law_501 : decode cL_law 501 = .ok (.ifCond .eq 5, 3) := by decide +kernel
theorem dL_law_504 : decode cL_law 504 = .ok (.iconst 0, 1) := by decide +kernel
theorem dL_law_505 : decode cL_law 505 = .ok (.ireturn, 1) := by decide +kernel
theorem dL_law_506 : decode cL_law 506 = .ok (.goto 284, 3) := by decide +kernel
theorem dL_law_509 : decode cL_law 509 = .ok (.aload_n 1, 1) := by decide +kernel
theorem dL_law_510 : decode cL_law 510 = .ok (.invokevirtual 61, 3) := by decide +kernel
theorem dL_law_513 : decode cL_law 513 = .ok (.aload_n 2, 1) := by decide +kernel
theorem dL_law_514 : decode cL_law 514 = .ok (.invokevirtual 64, 3) := by decide +kernel
theorem dL_law_517 : decode cL_law 517 = .ok (.if_icmp .eq 273, 3) := by decide +kernel
theorem dL_law_520 : decode cL_law 520 = .ok (.iconst 0, 1) := by decide +kernel
theorem dL_law_521 : decode cL_law 521 = .ok (.ireturn, 1) := by decide +kernel
theorem dL_law_522 : decode cL_law 522 = .ok (.aload_n 1, 1) := by decide +kernel
theorem dL_law_523 : decode cL_law 523 = .ok (.aload_n 0, 1) := by decide +kernel
theorem dL_law_524 : decode cL_law 524 = .ok (.iload 4, 2) := by decide +kernel
theorem dL_law_526 : decode cL_law 526 = .ok (.iconst 1, 1) := by decide +kernel
theorem dL_law_527 : decode cL_law 527 = .ok (.iadd, 1) := by decide +kernel
theorem dL_law_528 : decode cL_law 528 = .ok (.iaload, 1) := by decide +kernel
theorem dL_law_529 : decode cL_law 529 = .ok (.aload_n 0, 1) := by decide +kernel
theorem dL_law_530 : decode cL_law 530 = .ok (.iload 4, 2) := by decide +kernel
theorem dL_law_532 : decode cL_law 532 = .ok (.iconst 2, 1) := by decide +kernel
theorem dL_law_533 : decode cL_law 533 = .ok (.iadd, 1) := by decide +kernel
theorem dL_law_534 : decode cL_law 534 = .ok (.iaload, 1) := by decide +kernel
theorem dL_law_535 : decode cL_law 535 = .ok (.ifCond .eq 7, 3) := by decide +kernel
theorem dL_law_538 : decode cL_law 538 = .ok (.iconst 1, 1) := by decide +kernel
theorem dL_law_539 : decode cL_law 539 = .ok (.goto 4, 3) := by decide +kernel
theorem dL_law_542 : decode cL_law 542 = .ok (.iconst 0, 1) := by decide +kernel
theorem dL_law_543 : decode cL_law 543 = .ok (.invokevirtual 65, 3) := by decide +kernel
theorem dL_law_546 : decode cL_law 546 = .ok (.aload_n 2, 1) := by decide +kernel
theorem dL_law_547 : decode cL_law 547 = .ok (.aload_n 0, 1) := by decide +kernel
theorem dL_law_548 : decode cL_law 548 = .ok (.iload 4, 2) := by decide +kernel
theorem dL_law_550 : decode cL_law 550 = .ok (.iconst 1, 1) := by decide +kernel
theorem dL_law_551 : decode cL_law 551 = .ok (.iadd, 1) := by decide +kernel
theorem dL_law_552 : decode cL_law 552 = .ok (.iaload, 1) := by decide +kernel
theorem dL_law_553 : decode cL_law 553 = .ok (.aload_n 0, 1) := by decide +kernel
theorem dL_law_554 : decode cL_law 554 = .ok (.iload 4, 2) := by decide +kernel
theorem dL_law_556 : decode cL_law 556 = .ok (.iconst 2, 1) := by decide +kernel
theorem dL_law_557 : decode cL_law 557 = .ok (.iadd, 1) := by decide +kernel
theorem dL_law_558 : decode cL_law 558 = .ok (.iaload, 1) := by decide +kernel
theorem dL_law_559 : decode cL_law 559 = .ok (.ifCond .eq 7, 3) := by decide +kernel
theorem dL_law_562 : decode cL_law 562 = .ok (.iconst 1, 1) := by decide +kernel
theorem dL_law_563 : decode cL_law 563 = .ok (.goto 4, 3) := by decide +kernel
theorem dL_law_566 : decode cL_law 566 = .ok (.iconst 0, 1) := by decide +kernel
theorem dL_law_567 : decode cL_law 567 = .ok (.invokevirtual 69, 3) := by decide +kernel
theorem dL_law_570 : decode cL_law 570 = .ok (.if_icmp .eq 220, 3) := by decide +kernel
theorem dL_law_573 : decode cL_law 573 = .ok (.iconst 0, 1) := by decide +kernel
theorem dL_law_574 : decode cL_law 574 = .ok (.ireturn, 1) := by decide +kernel
theorem dL_law_575 : decode cL_law 575 = .ok (.aload_n 1, 1) := by decide +kernel
theorem dL_law_576 : decode cL_law 576 = .ok (.aload_n 0, 1) := by decide +kernel
theorem dL_law_577 : decode cL_law 577 = .ok (.iload 4, 2) := by decide +kernel
theorem dL_law_579 : decode cL_law 579 = .ok (.iconst 1, 1) := by decide +kernel
theorem dL_law_580 : decode cL_law 580 = .ok (.iadd, 1) := by decide +kernel
theorem dL_law_581 : decode cL_law 581 = .ok (.iaload, 1) := by decide +kernel
theorem dL_law_582 : decode cL_law 582 = .ok (.ifCond .eq 7, 3) := by decide +kernel
theorem dL_law_585 : decode cL_law 585 = .ok (.iconst 1, 1) := by decide +kernel
theorem dL_law_586 : decode cL_law 586 = .ok (.goto 4, 3) := by decide +kernel
theorem dL_law_589 : decode cL_law 589 = .ok (.iconst 0, 1) := by decide +kernel
theorem dL_law_590 : decode cL_law 590 = .ok (.invokevirtual 70, 3) := by decide +kernel
theorem dL_law_593 : decode cL_law 593 = .ok (.aload_n 2, 1) := by decide +kernel
theorem dL_law_594 : decode cL_law 594 = .ok (.aload_n 0, 1) := by decide +kernel
theorem dL_law_595 : decode cL_law 595 = .ok (.iload 4, 2) := by decide +kernel
theorem dL_law_597 : decode cL_law 597 = .ok (.iconst 1, 1) := by decide +kernel
theorem dL_law_598 : decode cL_law 598 = .ok (.iadd, 1) := by decide +kernel
theorem dL_law_599 : decode cL_law 599 = .ok (.iaload, 1) := by decide +kernel
theorem dL_law_600 : decode cL_law 600 = .ok (.ifCond .eq 7, 3) := by decide +kernel
theorem dL_law_603 : decode cL_law 603 = .ok (.iconst 1, 1) := by decide +kernel
theorem dL_law_604 : decode cL_law 604 = .ok (.goto 4, 3) := by decide +kernel
theorem dL_law_607 : decode cL_law 607 = .ok (.iconst 0, 1) := by decide +kernel
theorem dL_law_608 : decode cL_law 608 = .ok (.invokevirtual 74, 3) := by decide +kernel
theorem dL_law_611 : decode cL_law 611 = .ok (.if_icmp .eq 179, 3) := by decide +kernel
theorem dL_law_614 : decode cL_law 614 = .ok (.iconst 0, 1) := by decide +kernel
theorem dL_law_615 : decode cL_law 615 = .ok (.ireturn, 1) := by decide +kernel
theorem dL_law_616 : decode cL_law 616 = .ok (.aload_n 1, 1) := by decide +kernel
theorem dL_law_617 : decode cL_law 617 = .ok (.aload_n 0, 1) := by decide +kernel
theorem dL_law_618 : decode cL_law 618 = .ok (.iload 4, 2) := by decide +kernel
theorem dL_law_620 : decode cL_law 620 = .ok (.iconst 1, 1) := by decide +kernel
theorem dL_law_621 : decode cL_law 621 = .ok (.iadd, 1) := by decide +kernel
theorem dL_law_622 : decode cL_law 622 = .ok (.iaload, 1) := by decide +kernel
theorem dL_law_623 : decode cL_law 623 = .ok (.invokevirtual 75, 3) := by decide +kernel
theorem dL_law_626 : decode cL_law 626 = .ok (.aload_n 2, 1) := by decide +kernel
theorem dL_law_627 : decode cL_law 627 = .ok (.aload_n 0, 1) := by decide +kernel
theorem dL_law_628 : decode cL_law 628 = .ok (.iload 4, 2) := by decide +kernel
theorem dL_law_630 : decode cL_law 630 = .ok (.iconst 1, 1) := by decide +kernel
theorem dL_law_631 : decode cL_law 631 = .ok (.iadd, 1) := by decide +kernel
theorem dL_law_632 : decode cL_law 632 = .ok (.iaload, 1) := by decide +kernel
theorem dL_law_633 : decode cL_law 633 = .ok (.invokevirtual 78, 3) := by decide +kernel
theorem dL_law_636 : decode cL_law 636 = .ok (.if_icmp .eq 154, 3) := by decide +kernel
theorem dL_law_639 : decode cL_law 639 = .ok (.iconst 0, 1) := by decide +kernel
theorem dL_law_640 : decode cL_law 640 = .ok (.ireturn, 1) := by decide +kernel
theorem dL_law_641 : decode cL_law 641 = .ok (.aload_n 1, 1) := by decide +kernel
theorem dL_law_642 : decode cL_law 642 = .ok (.invokevirtual 79, 3) := by decide +kernel
theorem dL_law_645 : decode cL_law 645 = .ok (.aload_n 2, 1) := by decide +kernel
theorem dL_law_646 : decode cL_law 646 = .ok (.invokevirtual 83, 3) := by decide +kernel
theorem dL_law_649 : decode cL_law 649 = .ok (.lcmp, 1) := by decide +kernel
theorem dL_law_650 : decode cL_law 650 = .ok (.ifCond .eq 140, 3) := by decide +kernel
theorem dL_law_653 : decode cL_law 653 = .ok (.iconst 0, 1) := by decide +kernel
theorem dL_law_654 : decode cL_law 654 = .ok (.ireturn, 1) := by decide +kernel
theorem dL_law_655 : decode cL_law 655 = .ok (.aload_n 1, 1) := by decide +kernel
theorem dL_law_656 : decode cL_law 656 = .ok (.aload_n 0, 1) := by decide +kernel
theorem dL_law_657 : decode cL_law 657 = .ok (.iload 4, 2) := by decide +kernel
theorem dL_law_659 : decode cL_law 659 = .ok (.iconst 1, 1) := by decide +kernel
theorem dL_law_660 : decode cL_law 660 = .ok (.iadd, 1) := by decide +kernel
theorem dL_law_661 : decode cL_law 661 = .ok (.iaload, 1) := by decide +kernel
theorem dL_law_662 : decode cL_law 662 = .ok (.invokevirtual 84, 3) := by decide +kernel
theorem dL_law_665 : decode cL_law 665 = .ok (.dstore 5, 2) := by decide +kernel
theorem dL_law_667 : decode cL_law 667 = .ok (.aload_n 2, 1) := by decide +kernel
theorem dL_law_668 : decode cL_law 668 = .ok (.aload_n 0, 1) := by decide +kernel
theorem dL_law_669 : decode cL_law 669 = .ok (.iload 4, 2) := by decide +kernel
theorem dL_law_671 : decode cL_law 671 = .ok (.iconst 1, 1) := by decide +kernel
theorem dL_law_672 : decode cL_law 672 = .ok (.iadd, 1) := by decide +kernel
theorem dL_law_673 : decode cL_law 673 = .ok (.iaload, 1) := by decide +kernel
theorem dL_law_674 : decode cL_law 674 = .ok (.invokevirtual 88, 3) := by decide +kernel
theorem dL_law_677 : decode cL_law 677 = .ok (.dstore 7, 2) := by decide +kernel
theorem dL_law_679 : decode cL_law 679 = .ok (.dload 5, 2) := by decide +kernel
theorem dL_law_681 : decode cL_law 681 = .ok (.dload 7, 2) := by decide +kernel
theorem dL_law_683 : decode cL_law 683 = .ok (.dcmp .l, 1) := by decide +kernel
theorem dL_law_684 : decode cL_law 684 = .ok (.ifCond .eq 21, 3) := by decide +kernel
theorem dL_law_687 : decode cL_law 687 = .ok (.dload 5, 2) := by decide +kernel
theorem dL_law_689 : decode cL_law 689 = .ok (.dload 5, 2) := by decide +kernel
theorem dL_law_691 : decode cL_law 691 = .ok (.dcmp .l, 1) := by decide +kernel
theorem dL_law_692 : decode cL_law 692 = .ok (.ifCond .eq 11, 3) := by decide +kernel
theorem dL_law_695 : decode cL_law 695 = .ok (.dload 7, 2) := by decide +kernel
theorem dL_law_697 : decode cL_law 697 = .ok (.dload 7, 2) := by decide +kernel
theorem dL_law_699 : decode cL_law 699 = .ok (.dcmp .l, 1) := by decide +kernel
theorem dL_law_700 : decode cL_law 700 = .ok (.ifCond .ne 5, 3) := by decide +kernel
theorem dL_law_703 : decode cL_law 703 = .ok (.iconst 0, 1) := by decide +kernel
theorem dL_law_704 : decode cL_law 704 = .ok (.ireturn, 1) := by decide +kernel
theorem dL_law_705 : decode cL_law 705 = .ok (.goto 85, 3) := by decide +kernel
theorem dL_law_708 : decode cL_law 708 = .ok (.aload_n 1, 1) := by decide +kernel
theorem dL_law_709 : decode cL_law 709 = .ok (.aload_n 0, 1) := by decide +kernel
theorem dL_law_710 : decode cL_law 710 = .ok (.iload 4, 2) := by decide +kernel
theorem dL_law_712 : decode cL_law 712 = .ok (.iconst 1, 1) := by decide +kernel
theorem dL_law_713 : decode cL_law 713 = .ok (.iadd, 1) := by decide +kernel
theorem dL_law_714 : decode cL_law 714 = .ok (.iaload, 1) := by decide +kernel
theorem dL_law_715 : decode cL_law 715 = .ok (.aload_n 0, 1) := by decide +kernel
theorem dL_law_716 : decode cL_law 716 = .ok (.iload 4, 2) := by decide +kernel
theorem dL_law_718 : decode cL_law 718 = .ok (.iconst 2, 1) := by decide +kernel
theorem dL_law_719 : decode cL_law 719 = .ok (.iadd, 1) := by decide +kernel
theorem dL_law_720 : decode cL_law 720 = .ok (.iaload, 1) := by decide +kernel
theorem dL_law_721 : decode cL_law 721 = .ok (.i2l, 1) := by decide +kernel
theorem dL_law_722 : decode cL_law 722 = .ok (.bipush 32, 2) := by decide +kernel
theorem dL_law_724 : decode cL_law 724 = .ok (.lshl, 1) := by decide +kernel
theorem dL_law_725 : decode cL_law 725 = .ok (.aload_n 0, 1) := by decide +kernel
theorem dL_law_726 : decode cL_law 726 = .ok (.iload 4, 2) := by decide +kernel
theorem dL_law_728 : decode cL_law 728 = .ok (.iconst 3, 1) := by decide +kernel
theorem dL_law_729 : decode cL_law 729 = .ok (.iadd, 1) := by decide +kernel
theorem dL_law_730 : decode cL_law 730 = .ok (.iaload, 1) := by decide +kernel
theorem dL_law_731 : decode cL_law 731 = .ok (.i2l, 1) := by decide +kernel
theorem dL_law_732 : decode cL_law 732 = .ok (.ldc2_w 27, 3) := by decide +kernel
theorem dL_law_735 : decode cL_law 735 = .ok (.land, 1) := by decide +kernel
theorem dL_law_736 : decode cL_law 736 = .ok (.lor, 1) := by decide +kernel
theorem dL_law_737 : decode cL_law 737 = .ok (.invokevirtual 89, 3) := by decide +kernel
theorem dL_law_740 : decode cL_law 740 = .ok (.aload_n 2, 1) := by decide +kernel
theorem dL_law_741 : decode cL_law 741 = .ok (.aload_n 0, 1) := by decide +kernel
theorem dL_law_742 : decode cL_law 742 = .ok (.iload 4, 2) := by decide +kernel
theorem dL_law_744 : decode cL_law 744 = .ok (.iconst 1, 1) := by decide +kernel
theorem dL_law_745 : decode cL_law 745 = .ok (.iadd, 1) := by decide +kernel
theorem dL_law_746 : decode cL_law 746 = .ok (.iaload, 1) := by decide +kernel
theorem dL_law_747 : decode cL_law 747 = .ok (.aload_n 0, 1) := by decide +kernel
theorem dL_law_748 : decode cL_law 748 = .ok (.iload 4, 2) := by decide +kernel
theorem dL_law_750 : decode cL_law 750 = .ok (.iconst 2, 1) := by decide +kernel
theorem dL_law_751 : decode cL_law 751 = .ok (.iadd, 1) := by decide +kernel
theorem dL_law_752 : decode cL_law 752 = .ok (.iaload, 1) := by decide +kernel
theorem dL_law_753 : decode cL_law 753 = .ok (.i2l, 1) := by decide +kernel
theorem dL_law_754 : decode cL_law 754 = .ok (.bipush 32, 2) := by decide +kernel
theorem dL_law_756 : decode cL_law 756 = .ok (.lshl, 1) := by decide +kernel
theorem dL_law_757 : decode cL_law 757 = .ok (.aload_n 0, 1) := by decide +kernel
theorem dL_law_758 : decode cL_law 758 = .ok (.iload 4, 2) := by decide +kernel
theorem dL_law_760 : decode cL_law 760 = .ok (.iconst 3, 1) := by decide +kernel
theorem dL_law_761 : decode cL_law 761 = .ok (.iadd, 1) := by decide +kernel
theorem dL_law_762 : decode cL_law 762 = .ok (.iaload, 1) := by decide +kernel
theorem dL_law_763 : decode cL_law 763 = .ok (.i2l, 1) := by decide +kernel
theorem dL_law_764 : decode cL_law 764 = .ok (.ldc2_w 27, 3) := by decide +kernel
theorem dL_law_767 : decode cL_law 767 = .ok (.land, 1) := by decide +kernel
theorem dL_law_768 : decode cL_law 768 = .ok (.lor, 1) := by decide +kernel
theorem dL_law_769 : decode cL_law 769 = .ok (.invokevirtual 92, 3) := by decide +kernel
theorem dL_law_772 : decode cL_law 772 = .ok (.if_icmp .eq 18, 3) := by decide +kernel
theorem dL_law_775 : decode cL_law 775 = .ok (.iconst 0, 1) := by decide +kernel
theorem dL_law_776 : decode cL_law 776 = .ok (.ireturn, 1) := by decide +kernel
theorem dL_law_777 : decode cL_law 777 = .ok (.aload_n 1, 1) := by decide +kernel
theorem dL_law_778 : decode cL_law 778 = .ok (.invokevirtual 93, 3) := by decide +kernel
theorem dL_law_781 : decode cL_law 781 = .ok (.aload_n 2, 1) := by decide +kernel
theorem dL_law_782 : decode cL_law 782 = .ok (.invokevirtual 96, 3) := by decide +kernel
theorem dL_law_785 : decode cL_law 785 = .ok (.if_icmp .eq 5, 3) := by decide +kernel
theorem dL_law_788 : decode cL_law 788 = .ok (.iconst 0, 1) := by decide +kernel
theorem dL_law_789 : decode cL_law 789 = .ok (.ireturn, 1) := by decide +kernel
theorem dL_law_790 : decode cL_law 790 = .ok (.iinc 4 5, 3) := by decide +kernel
theorem dL_law_793 : decode cL_law 793 = .ok (.goto (-760), 3) := by decide +kernel
theorem dL_law_796 : decode cL_law 796 = .ok (.iconst 1, 1) := by decide +kernel
theorem dL_law_797 : decode cL_law 797 = .ok (.ireturn, 1) := by decide +kernel
abbrev vwCl : List vw_C := [(RX0, TX0, 6), (RX1, TX1, 6), (RX2, TX2, 14)]
end
section
/-! ===== the state of the car and of its reference, as cells ===== -/
/-- wheel k's cell -/
abbrev cE (sp : Nat → Int64) (lo ph : Nat → Int32) (pr bo : Nat → Int64) (mo : Nat → UInt64) (k : Nat) : va_E := .inr (0, [.long (sp k), .int (lo k), .int (ph k), .long (pr k), .long (bo k), .double (mo k)])
/-- the wheels: wheel i + 1 at q i -/
def cL (n : Nat) (q : Nat → Nat) (f : Nat → va_E) : va_W := (List.range n).map (fun i => (q i, f (i + 1)))
/-- the car: the object, its row of wheels, the wheels -/
def cw (h0 hw : Nat) (cW : ClassId) (n : Nat) (q : Nat → Nat) (g : Nat → Option Nat) (sp : Nat → Int64) (lo ph : Nat → Int32) (pr bo : Nat → Int64) (mo : Nat → UInt64) (rf : Int64) (hd gr st nx : Int32) : va_W :=
  (h0, .inr (1, [.ref hw, .long rf, .int hd, .int gr, .int st, .int nx])) :: (hw, .inl (cW, n, .inr (.inr (.inr (.inr g))))) :: cL n q (cE sp lo ph pr bo mo)
/-- the reference: the object, its six rows -/
def mw (m0 : Nat) (a : Nat → Nat) (C : Nat → ClassId) (th wh : Int32) (sp : Nat → Int64) (lo ph : Nat → Int32) (pr bo : Nat → Int64) (mo : Nat → UInt64) (rf : Int64) (gr hd st ch rs : Int32) : va_W :=
  [(m0, .inr (2, [.int th, .int wh, .ref (a 1), .ref (a 2), .ref (a 3), .ref (a 4), .ref (a 5), .ref (a 6), .long rf, .int gr, .int hd, .int st, .int ch, .int rs])), (a 1, .inl (C 1, 9, .inr (.inl sp))), (a 2, .inl (C 2, 9, .inl lo)), (a 3, .inl (C 3, 9, .inl ph)), (a 4, .inl (C 4, 9, .inr (.inl pr))), (a 5, .inl (C 5, 9, .inr (.inl bo))), (a 6, .inl (C 6, 9, .inr (.inr (.inr (.inl mo)))))]
theorem cL_at {n : Nat} {q : Nat → Nat} {f : Nat → va_E} {i : Nat} (hi : i < n) : (cL n q f)[i]? = some (q i, f (i + 1)) := by
  simp [cL, hi]
theorem cL_set {n : Nat} {q : Nat → Nat} {f f' : Nat → va_E} {i : Nat} {e : va_E} (h : ∀ j, f' j = va_up f (i + 1) e j) : (cL n q f).set i (q i, e) = cL n q f' := by
  apply List.ext_getElem?
  intro j
  by_cases hj : j = i
  · subst hj
    by_cases hl : j < n
    · rw [List.getElem?_set_self (by simpa [cL] using hl), cL_at hl, h, va_up_self]
    · rw [List.getElem?_eq_none (by simpa [cL] using hl), List.getElem?_eq_none (by simpa [cL] using hl)]
  · rw [List.getElem?_set_ne (Ne.symm hj)]
    by_cases hl : j < n
    · rw [cL_at hl, cL_at hl, h, va_up_ne _ _ (by omega)]
    · rw [List.getElem?_eq_none (by simpa [cL] using hl), List.getElem?_eq_none (by simpa [cL] using hl)]
theorem cL_push {n : Nat} {q : Nat → Nat} {f : Nat → va_E} {a : Nat} : cL n q f ++ [(a, f (n + 1))] = cL (n + 1) (va_up q n a) f := by
  unfold cL
  rw [List.range_succ, List.map_append]
  simp only [List.map_cons, List.map_nil, va_up_self]
  congr 1
  apply List.map_congr_left
  intro b hb
  rw [va_up_ne _ _ (by have := List.mem_range.mp hb; omega)]
theorem w_P {D : va_G} {w1 w2 : va_W} {H : Heap} (h : w1 = w2) (hP : va_P D vwCl w1 H) : va_P D vwCl w2 H := h ▸ hP
theorem w_D {A : Nat → Prop} {w1 w2 : va_W} (h : w1 = w2) (hD : va_D A w1) : va_D A w2 := h ▸ hD
section CW
variable {h0 hw n : Nat} {cW : ClassId} {q : Nat → Nat} {g : Nat → Option Nat} {sp : Nat → Int64} {lo ph : Nat → Int32} {pr bo : Nat → Int64} {mo : Nat → UInt64} {rf : Int64} {hd gr st nx : Int32} {i : Nat}
theorem cw_at (hi : i < n) : (cw h0 hw cW n q g sp lo ph pr bo mo rf hd gr st nx)[i + 2]? = some (q i, .inr (0, [.long (sp (i + 1)), .int (lo (i + 1)), .int (ph (i + 1)), .long (pr (i + 1)), .long (bo (i + 1)), .double (mo (i + 1))])) := by
  unfold cw
  rw [List.getElem?_cons_succ, List.getElem?_cons_succ]
  exact cL_at hi
theorem cw_set {f' : Nat → va_E} {e : va_E} {sp' : Nat → Int64} {lo' ph' : Nat → Int32} {pr' bo' : Nat → Int64} {mo' : Nat → UInt64} (h : ∀ j, cE sp' lo' ph' pr' bo' mo' j = va_up (cE sp lo ph pr bo mo) (i + 1) e j) : (cw h0 hw cW n q g sp lo ph pr bo mo rf hd gr st nx).set (i + 2) (q i, e) = cw h0 hw cW n q g sp' lo' ph' pr' bo' mo' rf hd gr st nx := by
  unfold cw
  rw [List.set_cons_succ, List.set_cons_succ, cL_set h]
theorem cw_sp (v : Int64) : (cw h0 hw cW n q g sp lo ph pr bo mo rf hd gr st nx).set (i + 2) (q i, .inr (0, [.long v, .int (lo (i + 1)), .int (ph (i + 1)), .long (pr (i + 1)), .long (bo (i + 1)), .double (mo (i + 1))])) = cw h0 hw cW n q g (va_up sp (i + 1) v) lo ph pr bo mo rf hd gr st nx :=
  cw_set (f' := fun _ => .inr (0, [])) (fun j => by by_cases h : j = i + 1 <;> simp [cE, va_up, h])
theorem cw_lo (v : Int32) : (cw h0 hw cW n q g sp lo ph pr bo mo rf hd gr st nx).set (i + 2) (q i, .inr (0, [.long (sp (i + 1)), .int v, .int (ph (i + 1)), .long (pr (i + 1)), .long (bo (i + 1)), .double (mo (i + 1))])) = cw h0 hw cW n q g sp (va_up lo (i + 1) v) ph pr bo mo rf hd gr st nx :=
  cw_set (f' := fun _ => .inr (0, [])) (fun j => by by_cases h : j = i + 1 <;> simp [cE, va_up, h])
theorem cw_ph (v : Int32) : (cw h0 hw cW n q g sp lo ph pr bo mo rf hd gr st nx).set (i + 2) (q i, .inr (0, [.long (sp (i + 1)), .int (lo (i + 1)), .int v, .long (pr (i + 1)), .long (bo (i + 1)), .double (mo (i + 1))])) = cw h0 hw cW n q g sp lo (va_up ph (i + 1) v) pr bo mo rf hd gr st nx :=
  cw_set (f' := fun _ => .inr (0, [])) (fun j => by by_cases h : j = i + 1 <;> simp [cE, va_up, h])
theorem cw_pr (v : Int64) : (cw h0 hw cW n q g sp lo ph pr bo mo rf hd gr st nx).set (i + 2) (q i, .inr (0, [.long (sp (i + 1)), .int (lo (i + 1)), .int (ph (i + 1)), .long v, .long (bo (i + 1)), .double (mo (i + 1))])) = cw h0 hw cW n q g sp lo ph (va_up pr (i + 1) v) bo mo rf hd gr st nx :=
  cw_set (f' := fun _ => .inr (0, [])) (fun j => by by_cases h : j = i + 1 <;> simp [cE, va_up, h])
theorem cw_bo (v : Int64) : (cw h0 hw cW n q g sp lo ph pr bo mo rf hd gr st nx).set (i + 2) (q i, .inr (0, [.long (sp (i + 1)), .int (lo (i + 1)), .int (ph (i + 1)), .long (pr (i + 1)), .long v, .double (mo (i + 1))])) = cw h0 hw cW n q g sp lo ph pr (va_up bo (i + 1) v) mo rf hd gr st nx :=
  cw_set (f' := fun _ => .inr (0, [])) (fun j => by by_cases h : j = i + 1 <;> simp [cE, va_up, h])
theorem cw_mo (v : UInt64) : (cw h0 hw cW n q g sp lo ph pr bo mo rf hd gr st nx).set (i + 2) (q i, .inr (0, [.long (sp (i + 1)), .int (lo (i + 1)), .int (ph (i + 1)), .long (pr (i + 1)), .long (bo (i + 1)), .double v])) = cw h0 hw cW n q g sp lo ph pr bo (va_up mo (i + 1) v) rf hd gr st nx :=
  cw_set (f' := fun _ => .inr (0, [])) (fun j => by by_cases h : j = i + 1 <;> simp [cE, va_up, h])
end CW
/-! ===== what the car reaches of its nest mates ===== -/
def cN (U : State) : Prop := va_Nw (.fieldLinkNest "GearBrake" 30 "GearBrake$Wheel" "speed" "J" "GearBrake") U ∧ va_Nw (.fieldLinkNest "GearBrake" 100 "GearBrake$Wheel" "lost" "Z" "GearBrake") U ∧ va_Nw (.fieldLinkNest "GearBrake" 67 "GearBrake$Wheel" "phase" "I" "GearBrake") U ∧ va_Nw (.fieldLinkNest "GearBrake" 72 "GearBrake$Wheel" "pressure" "J" "GearBrake") U ∧ va_Nw (.fieldLinkNest "GearBrake" 117 "GearBrake$Wheel" "bound" "J" "GearBrake") U ∧ va_Nw (.fieldLinkNest "GearBrake" 111 "GearBrake$Wheel" "model" "D" "GearBrake") U ∧ va_Nw (.methodLinkNest "GearBrake" 15 yX0_init "GearBrake") U ∧ va_Nw (.methodLinkNest "GearBrake" 54 yX0_brake "GearBrake") U ∧ va_Nw (.methodLinkNest "GearBrake" 58 yX0_followModel "GearBrake") U ∧ va_Nw (.methodLinkNest "GearBrake" 86 yX0_press "GearBrake") U
theorem cN_same {u U : State} (h : u.vm = U.vm) (hN : cN u) : cN U := by
  obtain ⟨a1, a2, a3, a4, a5, a6, a7, a8, a9, a0⟩ := hN
  exact ⟨va_Nw.same rfl h a1, va_Nw.same rfl h a2, va_Nw.same rfl h a3, va_Nw.same rfl h a4, va_Nw.same rfl h a5, va_Nw.same rfl h a6, va_Nw.same rfl h a7, va_Nw.same rfl h a8, va_Nw.same rfl h a9, va_Nw.same rfl h a0⟩
theorem cN_warm {s U : State} (hW : s.WarmedH U.vm) (hN : cN s) : cN U := by
  obtain ⟨a1, a2, a3, a4, a5, a6, a7, a8, a9, a0⟩ := hN
  exact ⟨va_Nw.warmF hW a1, va_Nw.warmF hW a2, va_Nw.warmF hW a3, va_Nw.warmF hW a4, va_Nw.warmF hW a5, va_Nw.warmF hW a6, va_Nw.warmM hW a7, va_Nw.warmM hW a8, va_Nw.warmM hW a9, va_Nw.warmM hW a0⟩
/-! ===== what holds at a method's start and end ===== -/
def xP (D : va_G) (tys : List (ClassId × FieldType)) (ws : va_W) (U : State) : Prop := va_P D vwCl ws U.heap ∧ va_K D vwCl tys U ∧ cN U
def xW (D : va_G) (tys : List (ClassId × FieldType)) (ws : va_W) (sz : Nat) (U : State) : Prop := U.heap.size = sz ∧ xP D tys ws U ∧ va_D (fun _ => True) ws
def xB (D : va_G) (tys : List (ClassId × FieldType)) (A : Nat → Prop) (ws : va_W) (U : State) : Prop := xP D tys ws U ∧ va_D A ws
section XP
variable {D : va_G} {tys : List (ClassId × FieldType)} {ws ws' : va_W} {A : Nat → Prop} {s t : State} {H H0 : Heap} {locs : List Loc} {av : List Value} {sz : Nat}
theorem xP_calling {U : State} (g : JFrame) (mk : MethodId) (a : Array Value) (h : xP D tys ws U) : xP D tys ws (U.calling g mk a) := ⟨h.1, va_K.moved (u := U) (U := U.calling g mk a) (Vm.Alike.refl U.vm) h.2.1, cN_same (u := U) rfl h.2.2⟩
theorem xP_blind : FrameBlind (va_Pc av (xP D tys ws)) := fun a U g mk h => ⟨h.1, xP_calling g mk a h.2⟩
theorem xW_blind : FrameBlind (va_Pc av (xW D tys ws sz)) := fun a U g mk h => ⟨h.1, h.2.1, xP_calling g mk a h.2.2.1, h.2.2.2⟩
theorem xP_at (hP : va_P D vwCl ws H) (hK : va_K D vwCl tys s) (hN : cN s) : ∀ U : State, U.heap = H → s.WarmedH U.vm → va_Pc av (xP D tys ws) av.toArray U := fun U hU hW => ⟨rfl, by rw [hU]; exact hP, va_K.moved hW.alike hK, cN_warm hW hN⟩
theorem xW_at (hP : va_P D vwCl ws H) (hK : va_K D vwCl tys s) (hN : cN s) (hD : va_D A ws) : ∀ U : State, U.heap = H → s.WarmedH U.vm → va_Pc av (xW D tys ws H.size) av.toArray U := fun U hU hW => ⟨rfl, by rw [hU], ⟨by rw [hU]; exact hP, va_K.moved hW.alike hK, cN_warm hW hN⟩, hD.weaken (fun _ _ _ _ => trivial)⟩
theorem xF (hD : va_D A ws) (hS : va_S A H0 H locs) (hA : ∀ q, H0.size ≤ q → A q) : ∀ q, va_A ws H.size q → A q := by
  intro q h
  rcases h with ⟨k, e, h⟩ | h
  · exact hD.2 k (q, e) h
  · exact hA q (Nat.le_trans hS.1 h)
theorem xB_use {B : Nat → Prop} (hB : xB D tys B ws' t) (ht : t.heap = H) (hF : ∀ q, B q → A q) : va_P D vwCl ws' H ∧ va_D A ws' := ⟨by rw [← ht]; exact hB.1.1, hB.2.weaken (fun _ q _ h => hF q.1 h)⟩
theorem xB_end (hP : va_P D vwCl ws H) (hK : va_K D vwCl tys s) (hN : cN s) (hD : va_D A ws) (ht : t.heap = H) (hW : s.WarmedH t.vm) : xB D tys A ws t := ⟨⟨by rw [ht]; exact hP, va_K.moved hW.alike hK, cN_warm hW hN⟩, hD⟩
end XP
/-! ===== which wheel ===== -/
abbrev wOut (n : Nat) (w : Int32) : Prop := w < 1 ∨ nI n < w
theorem w_io (n : Nat) (w : Int32) (hn : n ≤ 8) : wOut n w ∨ ∃ i, i < n ∧ w = nI (i + 1) := by
  by_cases h1 : w < 1
  · exact Or.inl (Or.inl h1)
  · by_cases h2 : nI n < w
    · exact Or.inl (Or.inr h2)
    · right
      obtain ⟨j, hj, rfl⟩ := nI_of (x := w) (by
        intro h; apply h1
        rw [Int32.lt_iff_toInt_lt] at h ⊢
        have e1 : (1 : Int32).toInt = 1 := rfl
        have e0 : (0 : Int32).toInt = 0 := rfl
        omega)
      have h3 : ¬ n < j := fun h => h2 (nI_lt h hj)
      have h4 : ¬ j < 1 := fun h => h1 (by have := nI_lt h (by omega); exact this)
      exact ⟨j - 1, by omega, by rw [show j - 1 + 1 = j by omega]⟩
theorem wOut_in {n i : Nat} (hn : n ≤ 8) (hi : i < n) : ¬ wOut n (nI (i + 1)) := by
  rintro (h | h)
  · exact nI_nlt (a := i + 1) (b := 1) (by omega) (by omega) h
  · exact nI_nlt (a := n) (b := i + 1) (by omega) (by omega) h
theorem wIx {n i : Nat} (hn : n ≤ 8) (hi : i < n) : (nI (i + 1)).toNatClampNeg = i + 1 := nI_clamp (by omega)
theorem cN_draw {s : State} {d : Drawn} (h : cN s) : cN (s.setDrawn d) := cN_same (u := s) rfl h
theorem ix_pred {n i : Nat} (hn : n ≤ 8) (hi : i < n) : vp_in (nI (i + 1) - 1) n := by
  rw [nI_pred]; exact nI_in hi (by omega)
theorem ix_predc {n i : Nat} (hn : n ≤ 8) (hi : i < n) : (nI (i + 1) - 1).toNatClampNeg = i := by
  rw [nI_pred]; exact nI_clamp (by omega)
theorem ix_n {n i : Nat} (hn : n ≤ 8) (hi : i < n) : vp_in (nI i) n := nI_in hi (by omega)
theorem ix_nc {n i : Nat} (hn : n ≤ 8) (hi : i < n) : (nI i).toNatClampNeg = i := nI_clamp (by omega)
theorem ix_9 {n i : Nat} (hn : n ≤ 8) (hi : i < n) : vp_in (nI (i + 1)) 9 := nI_in (by omega) (by omega)
/-! ===== a switch over 1, 2, 3 ===== -/
theorem sw_out {x : Int32} (h : x < 1 ∨ 3 < x) : x.toInt < 1 ∨ 3 < x.toInt := by
  rcases h with h | h
  · exact Or.inl (by rw [Int32.lt_iff_toInt_lt] at h; exact h)
  · exact Or.inr (by rw [Int32.lt_iff_toInt_lt] at h; exact h)
theorem sw_n1 {x : Int32} (h : x < 1 ∨ 3 < x) : ¬ x = 1 := fun e => by subst e; revert h; decide
theorem sw_n2 {x : Int32} (h : x < 1 ∨ 3 < x) : ¬ x = 2 := fun e => by subst e; revert h; decide
theorem sw_n3 {x : Int32} (h : x < 1 ∨ 3 < x) : ¬ x = 3 := fun e => by subst e; revert h; decide
theorem sw_in {x : Int32} (h : ¬ (x < 1 ∨ 3 < x)) : x = 1 ∨ x = 2 ∨ x = 3 := by
  have h1 : ¬ x < 1 := fun z => h (Or.inl z)
  have h3 : ¬ 3 < x := fun z => h (Or.inr z)
  rw [Int32.lt_iff_toInt_lt] at h1 h3
  have e1 : (1 : Int32).toInt = 1 := rfl
  have e3 : (3 : Int32).toInt = 3 := rfl
  have : x.toInt = 1 ∨ x.toInt = 2 ∨ x.toInt = 3 := by omega
  rcases this with e | e | e
  · exact Or.inl (Int32.toInt_inj.mp e)
  · exact Or.inr (Or.inl (Int32.toInt_inj.mp e))
  · exact Or.inr (Or.inr (Int32.toInt_inj.mp e))
end
section
/-! ===== doubles: what an operation sees of an operand is its datum ===== -/
def fd (x : UInt64) : FP.Core.Datum := FP.Core.decode FP.Core.b64 x.toNat
theorem fd_nan {x : UInt64} (h : isNaN64 x = true) : fd x = .nan := by
  have h1 : (0x7ff0000000000000 : UInt64) < x &&& 0x7fffffffffffffff := by simpa [isNaN64] using h
  rw [UInt64.lt_iff_toNat_lt, UInt64.toNat_and] at h1
  rw [show (0x7fffffffffffffff : UInt64).toNat = 2 ^ 63 - 1 from rfl, Nat.and_two_pow_sub_one_eq_mod, show (0x7ff0000000000000 : UInt64).toNat = 9218868437227405312 from rfl] at h1
  have hx : x.toNat < 18446744073709551616 := x.toNat_lt
  unfold fd FP.Core.decode FP.Core.fieldE FP.Core.fieldT
  rw [show FP.Core.b64.tails = 4503599627370496 from rfl, show FP.Core.b64.exps = 2048 from rfl]
  rw [if_pos (by omega), if_neg (by omega)]
theorem fd_alike {x y : UInt64} (h : alike64 x y = true) : fd x = fd y := by
  unfold alike64 at h
  rcases Bool.or_eq_true_iff.mp h with h | h
  · rw [of_decide_eq_true h]
  · have h2 := Bool.and_eq_true_iff.mp h
    rw [fd_nan h2.1, fd_nan h2.2]
theorem fd_dadd {x y x' y' : UInt64} (hx : fd x = fd x') (hy : fd y = fd y') : FP.dadd x y = FP.dadd x' y' := by
  unfold fd at hx hy
  simp only [FP.dadd, FP.Core.dadd, FP.Core.add, hx, hy]
theorem fd_dsub {x y x' y' : UInt64} (hx : fd x = fd x') (hy : fd y = fd y') : FP.dsub x y = FP.dsub x' y' := by
  unfold fd at hx hy
  simp only [FP.dsub, FP.Core.dsub, FP.Core.sub, hx, hy]
theorem fd_dmul {x y x' y' : UInt64} (hx : fd x = fd x') (hy : fd y = fd y') : FP.dmul x y = FP.dmul x' y' := by
  unfold fd at hx hy
  simp only [FP.dmul, FP.Core.dmul, FP.Core.mul, hx, hy]
theorem fd_dcmp {x y x' y' : UInt64} (hx : fd x = fd x') (hy : fd y = fd y') : FP.dcmp x y = FP.dcmp x' y' := by
  unfold fd at hx hy
  simp only [FP.dcmp, FP.Core.dcmp, FP.Core.cmp, hx, hy]
/-- a wheel's model behind a step: x + 0.125 (speed - x), less 0.0625 pressure, then 0 if below 0 -/
def stepM (x : UInt64) (s v : Int64) (y : UInt64) : Prop := ∃ a b c d e : UInt64, alike64 a (FP.dsub (FP.l2d s) x) = true ∧ alike64 b (FP.dmul 4593671619917905920 a) = true ∧ alike64 c (FP.dadd x b) = true ∧ alike64 d (FP.dmul 4589168020290535424 (FP.l2d v)) = true ∧ alike64 e (FP.dsub c d) = true ∧ y = if 0 ≤ Op.cmpValue (FP.dcmp e FP.dconst0) CmpOp.g then e else FP.dconst0
theorem stepM_fd {x x' y y' : UInt64} {s v : Int64} (h : stepM x s v y) (h' : stepM x' s v y') (hx : fd x = fd x') : fd y = fd y' := by
  obtain ⟨a, b, c, d, e, h1, h2, h3, h4, h5, rfl⟩ := h
  obtain ⟨a', b', c', d', e', k1, k2, k3, k4, k5, rfl⟩ := h'
  have e1 : fd a = fd a' := by rw [fd_alike h1, fd_alike k1, fd_dsub rfl hx]
  have e2 : fd b = fd b' := by rw [fd_alike h2, fd_alike k2, fd_dmul rfl e1]
  have e3 : fd c = fd c' := by rw [fd_alike h3, fd_alike k3, fd_dadd hx e2]
  have e4 : fd d = fd d' := by rw [fd_alike h4, fd_alike k4]
  have e5 : fd e = fd e' := by rw [fd_alike h5, fd_alike k5, fd_dsub e3 e4]
  rw [fd_dcmp e5 rfl]
  by_cases h : 0 ≤ Op.cmpValue (FP.dcmp e' FP.dconst0) CmpOp.g
  · rw [if_pos h, if_pos h, e5]
  · rw [if_neg h, if_neg h]
/-! ===== what the calls answer, and what they leave ===== -/
def cnt (lo : Nat → Int32) : Nat → Int32
  | 0 => 0
  | k + 1 => if lo (k + 1) = 0 then cnt lo k else cnt lo k + 1
def cTop (lo : Nat → Int32) (sp : Nat → Int64) : Nat → Int64
  | 0 => 0
  | k + 1 => if lo (k + 1) = 0 then (if sp (k + 1) < cTop lo sp k then cTop lo sp k else sp (k + 1)) else cTop lo sp k
def mTop (lo : Nat → Int32) (sp : Nat → Int64) : Nat → Int64
  | 0 => 0
  | k + 1 => if lo (k + 1) = 0 then (if sp (k + 1) ≤ mTop lo sp k then mTop lo sp k else sp (k + 1)) else mTop lo sp k
def cLess (rf : Int64) : Int64 := if 0 < rf - 3 then rf - 3 else 0
def mLess (rf : Int64) : Int64 := if 3 ≤ rf then rf - 3 else 0
def cRef (n : Nat) (ped rf : Int64) (lo : Nat → Int32) (sp : Nat → Int64) : Int64 :=
  if cnt lo n = nI n then cLess rf else if ped ≤ 0 then cTop lo sp n else if cLess rf < cTop lo sp n then cTop lo sp n else cLess rf
def mRef (n : Nat) (ped rf : Int64) (lo : Nat → Int32) (sp : Nat → Int64) : Int64 :=
  if cnt lo n = nI n then mLess rf else if ped ≤ 0 then mTop lo sp n else if mLess rf ≤ mTop lo sp n then mTop lo sp n else mLess rf
def sPh (lo : Int32) (rf ped sp : Int64) (ph : Int32) (pr : Int64) : Int32 :=
  if lo = 0 then (if rf = 0 then 0 else if ped = 0 then 0 else if 80 * rf ≤ 100 * sp then (if 90 * rf ≤ 100 * sp then (if ph = 1 then 3 else if ph = 2 then 3 else if ph = 3 then (if ped ≤ pr then 0 else 3) else 0) else 1) else 2) else 0
def cWant (ph : Int32) (ped pr : Int64) : Int64 :=
  if ph = 1 then pr else if ph = 2 then (if 0 < pr - 10 then pr - 10 else 0) else if ph = 3 then (if ped < pr + 5 then ped else pr + 5) else ped
def cMin (v bo : Int64) : Int64 := if bo < v then bo else v
def cPr (ph : Int32) (ped pr : Int64) (hd : Int32) (bo : Int64) : Int64 :=
  cMin (if hd = 0 then cWant ph ped pr else if 30 < cWant ph ped pr then cWant ph ped pr else 30) bo
def mWant (ph : Int32) (ped pr : Int64) : Int64 :=
  if ph = 0 then ped else if ph = 2 then (if 10 ≤ pr then pr - 10 else 0) else if ph = 3 then (if pr + 5 ≤ ped then pr + 5 else ped) else pr
def mHold (hd : Int32) (v : Int64) : Int64 := if hd = 0 then v else if 30 ≤ v then v else 30
def mPr (ph : Int32) (ped pr : Int64) (hd : Int32) (bo : Int64) : Int64 :=
  if mHold hd (mWant ph ped pr) ≤ bo then mHold hd (mWant ph ped pr) else bo
def cMx (sl : Int64) : Int64 := if 0 < sl then sl else 0
def mMx (sl : Int64) : Int64 := if sl ≤ 0 then 0 else sl
/-- which way the gear goes, if it may: 1, 0, -1 -/
def sCode (gr : Int32) (rf mx : Int64) : Int32 :=
  if 6 ≤ gr then (if gr ≤ 1 then 0 else if 20 * (gr - 1).toInt64 ≤ rf then 0 else -1) else if rf ≤ 20 * gr.toInt64 + 10 + mx then (if gr ≤ 1 then 0 else if 20 * (gr - 1).toInt64 ≤ rf then 0 else -1) else 1
def sGr (k gr : Int32) : Int32 := if k = 0 then gr else if k = 1 then gr + 1 else gr - 1
def sNx (k old new : Int32) : Int32 := if k = 0 then old else new
abbrev fBad (ped sl : Int64) : Prop := (ped < 0 ∨ 100 < ped) ∨ (sl < -30 ∨ 30 < sl)
abbrev fBadY (a b : Int64) : Prop := (a < -1000 ∨ 1000 < a) ∨ (b < -1000 ∨ 1000 < b)
/-- the phases and pressures behind a step's first j wheels -/
def jPh (lo ph : Nat → Int32) (rf ped : Int64) (sp pr : Nat → Int64) (j : Nat) : Nat → Int32 := fun k => if 1 ≤ k ∧ k ≤ j then sPh (lo k) rf ped (sp k) (ph k) (pr k) else ph k
def jPr (f : Int32 → Int64 → Int64 → Int32 → Int64 → Int64) (lo ph : Nat → Int32) (rf ped : Int64) (sp pr bo : Nat → Int64) (hd : Int32) (j : Nat) : Nat → Int64 := fun k => if 1 ≤ k ∧ k ≤ j then f (sPh (lo k) rf ped (sp k) (ph k) (pr k)) ped (pr k) hd (bo k) else pr k
theorem jPh_0 (lo ph : Nat → Int32) (rf ped : Int64) (sp pr : Nat → Int64) : jPh lo ph rf ped sp pr 0 = ph := by
  funext k; unfold jPh; rw [if_neg (by omega)]
theorem jPr_0 (f : Int32 → Int64 → Int64 → Int32 → Int64 → Int64) (lo ph : Nat → Int32) (rf ped : Int64) (sp pr bo : Nat → Int64) (hd : Int32) : jPr f lo ph rf ped sp pr bo hd 0 = pr := by
  funext k; unfold jPr; rw [if_neg (by omega)]
theorem jPh_at (lo ph : Nat → Int32) (rf ped : Int64) (sp pr : Nat → Int64) {j k : Nat} (h : j < k) : jPh lo ph rf ped sp pr j k = ph k := by
  unfold jPh; rw [if_neg (by omega)]
theorem jPr_at (f : Int32 → Int64 → Int64 → Int32 → Int64 → Int64) (lo ph : Nat → Int32) (rf ped : Int64) (sp pr bo : Nat → Int64) (hd : Int32) {j k : Nat} (h : j < k) : jPr f lo ph rf ped sp pr bo hd j k = pr k := by
  unfold jPr; rw [if_neg (by omega)]
theorem jPh_up (lo ph : Nat → Int32) (rf ped : Int64) (sp pr : Nat → Int64) (j : Nat) : va_up (jPh lo ph rf ped sp pr j) (j + 1) (sPh (lo (j + 1)) rf ped (sp (j + 1)) (ph (j + 1)) (pr (j + 1))) = jPh lo ph rf ped sp pr (j + 1) := by
  funext k
  by_cases hk : k = j + 1
  · subst hk; rw [va_up_self]; unfold jPh; rw [if_pos (by omega)]
  · rw [va_up_ne _ _ hk]; unfold jPh
    by_cases h : 1 ≤ k ∧ k ≤ j
    · rw [if_pos h, if_pos (by omega)]
    · rw [if_neg h, if_neg (by omega)]
theorem jPr_up (f : Int32 → Int64 → Int64 → Int32 → Int64 → Int64) (lo ph : Nat → Int32) (rf ped : Int64) (sp pr bo : Nat → Int64) (hd : Int32) (j : Nat) : va_up (jPr f lo ph rf ped sp pr bo hd j) (j + 1) (f (sPh (lo (j + 1)) rf ped (sp (j + 1)) (ph (j + 1)) (pr (j + 1))) ped (pr (j + 1)) hd (bo (j + 1))) = jPr f lo ph rf ped sp pr bo hd (j + 1) := by
  funext k
  by_cases hk : k = j + 1
  · subst hk; rw [va_up_self]; unfold jPr; rw [if_pos (by omega)]
  · rw [va_up_ne _ _ hk]; unfold jPr
    by_cases h : 1 ≤ k ∧ k ≤ j
    · rw [if_pos h, if_pos (by omega)]
    · rw [if_neg h, if_neg (by omega)]

def fW (n : Nat) (w : Int32) (v m : Int64) : Int32 := if wOut n w then -1 else if v < 0 ∨ m < v then -2 else 1
def gW (n : Nat) (w : Int32) (v m : Int64) (old : Nat → Int64) (x : Int64) : Nat → Int64 := if wOut n w then old else if v < 0 ∨ m < v then old else va_up old w.toNatClampNeg x
def sHold (on hd : Int32) (rf : Int64) : Int32 := if on = 0 then 0 else if hd = 0 then (if rf = 0 then 1 else 0) else 1
def sWish (x : Int32) (rf : Int64) : Int32 := if x < 1 ∨ 6 < x then -2 else if rf < 20 * (x - 1).toInt64 - 10 ∨ 20 * x.toInt64 + 30 < rf then 0 else 1
def cAbs (x : Int64) : Int64 := if 0 < x then x else -x
def mApart (a b : Int64) : Int64 := if a ≤ b then b - a else a - b
def sYaw (a b apart : Int64) (lost : Int32) : Int32 := if fBadY a b then -2 else if apart ≤ 20 then 0 else if lost ≤ 0 then (if a ≤ b then 1 else 2) else 0
def mMin (v bo : Int64) : Int64 := if v ≤ bo then v else bo
def gYaw (mn : Int64 → Int64 → Int64) (a b apart : Int64) (lost : Int32) (pr bo : Nat → Int64) : Nat → Int64 := if fBadY a b then pr else if apart ≤ 20 then pr else if lost ≤ 0 then (if a ≤ b then va_up pr 1 (mn (pr 1 + 20) (bo 1)) else va_up pr 2 (mn (pr 2 + 20) (bo 2))) else pr
theorem i64_lt1 (x : Int32) : x.toInt64 < 1 ↔ x < 1 := by
  rw [Int64.lt_iff_toInt_lt, Int32.lt_iff_toInt_lt, Int32.toInt_toInt64]
  exact Iff.rfl
theorem i64_6lt (x : Int32) : 6 < x.toInt64 ↔ 6 < x := by
  rw [Int64.lt_iff_toInt_lt, Int32.lt_iff_toInt_lt, Int32.toInt_toInt64]
  exact Iff.rfl
theorem bool_nar {x : Int32} (h : x = 0 ∨ x = 1) : narrow .boolean (.int x) = .int x := by rcases h with rfl | rfl <;> rfl
theorem bool_fit {x : Int32} (h : x = 0 ∨ x = 1) : fits .boolean (.int x) = true := by rcases h with rfl | rfl <;> rfl
theorem bool_vp {x : Int32} (h : x = 0 ∨ x = 1) : vp_nar .boolean x = x := by rcases h with rfl | rfl <;> rfl

theorem jPr_in (f : Int32 → Int64 → Int64 → Int32 → Int64 → Int64) (lo ph : Nat → Int32) (rf ped : Int64) (sp pr bo : Nat → Int64) (hd : Int32) {j k : Nat} (h1 : 1 ≤ k) (h2 : k ≤ j) : jPr f lo ph rf ped sp pr bo hd j k = f (sPh (lo k) rf ped (sp k) (ph k) (pr k)) ped (pr k) hd (bo k) := by
  unfold jPr; rw [if_pos ⟨h1, h2⟩]
/-- the models behind a step's first j wheels -/
def jM (j : Nat) (mo : Nat → UInt64) (sp F : Nat → Int64) (mo2 : Nat → UInt64) : Prop := (∀ k, 1 ≤ k → k ≤ j → stepM (mo k) (sp k) (F k) (mo2 k)) ∧ ∀ k, j < k → mo2 k = mo k
theorem jM_0 (mo : Nat → UInt64) (sp F : Nat → Int64) : jM 0 mo sp F mo := ⟨fun k h1 h2 => by omega, fun _ _ => rfl⟩
theorem jM_up {j : Nat} {mo : Nat → UInt64} {sp F : Nat → Int64} {mo2 : Nat → UInt64} {v : Int64} {y : UInt64} (h : jM j mo sp F mo2) (hy : stepM (mo2 (j + 1)) (sp (j + 1)) v y) (hv : v = F (j + 1)) : jM (j + 1) mo sp F (va_up mo2 (j + 1) y) := by
  subst hv
  refine ⟨fun k h1 h2 => ?_, fun k hk => ?_⟩
  · by_cases e : k = j + 1
    · subst e; rw [va_up_self]; rw [h.2 _ (Nat.lt_succ_self j)] at hy; exact hy
    · rw [va_up_ne _ _ e]; exact h.1 k h1 (by omega)
  · rw [va_up_ne _ _ (by omega)]; exact h.2 k (by omega)

theorem jPh_in (lo ph : Nat → Int32) (rf ped : Int64) (sp pr : Nat → Int64) {j k : Nat} (h1 : 1 ≤ k) (h2 : k ≤ j) : jPh lo ph rf ped sp pr j k = sPh (lo k) rf ped (sp k) (ph k) (pr k) := by
  unfold jPh; rw [if_pos ⟨h1, h2⟩]
theorem i32_nlt {a b : Int32} (h : a ≤ b) : ¬ b < a := by rw [Int32.lt_iff_toInt_lt]; rw [Int32.le_iff_toInt_le] at h; omega
theorem i32_lt {a b : Int32} (h : ¬ a ≤ b) : b < a := by rw [Int32.lt_iff_toInt_lt]; rw [Int32.le_iff_toInt_le] at h; omega
theorem i64_nlt {a b : Int64} (h : a ≤ b) : ¬ b < a := by rw [Int64.lt_iff_toInt_lt]; rw [Int64.le_iff_toInt_le] at h; omega
theorem i64_lt {a b : Int64} (h : ¬ a ≤ b) : b < a := by rw [Int64.lt_iff_toInt_lt]; rw [Int64.le_iff_toInt_le] at h; omega
theorem vp_1 : vp_in 1 9 := by unfold vp_in; decide
theorem vp_2 : vp_in 2 9 := by unfold vp_in; decide
end
section
/-! ===== the car: methods that only read ===== -/
set_option maxHeartbeats 4000000 in
set_option maxRecDepth 100000 in
/-- isWithin -/
theorem c1_within (l : Launch) (v x y : Int64) : Met l yX1_isWithin wsX1_isWithin ({ frames := 0, cells := 0, slots := 0, locals := 0 }) (va_Pc [.long v, .long x, .long y] (fun _ => True)) (vp_Si (fun r : Int32 => (r = 1 ∧ ¬ v < x ∧ ¬ y < v) ∨ (r = 0 ∧ (v < x ∨ y < v)))) 0 0 (fun _ => False) := by
  refine Met.ofW (cc := cX1_isWithin) (maxL := 6) (ret := (some .boolean)) (by decide) rfl ?_
  intro p e s m args below meth c s₁ B hml hv
  obtain ⟨rfl, -⟩ := hv
  have hx := B.exec
  have hb := B.bytes
  have hr := B.returns
  have hts := atoms_spec (ws := wsX1_isWithin) B.pre
  have hown : s.vm.findClass RX1 = some m.cls := findClass_of_methodNamed B.named
  have hlocks := B.notSynchronized
  have hl := lv_entry ([.long v, .long x, .long y]) (n := 6) (Nat.le_of_ble_eq_true rfl)
  rw [lg_entry_eq]
  generalize (lg_sl ([.long v, .long x, .long y]) ++ List.replicate (6 - (lg_sl ([.long v, .long x, .long y])).length) Slot.unset).toArray = ls at hl ⊢
  replace hl : lv_has ls 6 [(0, .long v), (2, .long x), (4, .long y)] := hl
  refine lv_lload_n hx hb dX1_isWithin_0 rfl (lv_at hl 0 rfl) ?_
  refine lv_lload_n hx hb dX1_isWithin_1 rfl (lv_at hl 1 rfl) ?_
  refine W.lcmp hx hb dX1_isWithin_2 ?_
  refine lv_if_lt (tgt := 17) hx hb dX1_isWithin_3 (by decide) (fun c_1 => ?_) (fun c_1 => ?_)
  · skip
    replace c_1 := (lg_cmp_lt _ _).mp c_1
    refine lv_iconst (v := 0) hx hb dX1_isWithin_17 (by decide) ?_
    exact W.zret (v := 0) (ty := .boolean) hx hb hr rfl (fun t ht hW => ⟨_, rfl, by first | (simp [c_1]; done) | (simp [c_1]; rfl), ht⟩) (fun q h => absurd h List.not_mem_nil) dX1_isWithin_18
  · skip
    replace c_1 := mt (lg_cmp_lt _ _).mpr c_1
    refine lv_lload_n hx hb dX1_isWithin_6 rfl (lv_at hl 0 rfl) ?_
    refine lv_lload hx hb dX1_isWithin_7 (lv_at hl 2 rfl) ?_
    refine W.lcmp hx hb dX1_isWithin_9 ?_
    refine lv_if_gt (tgt := 17) hx hb dX1_isWithin_10 (by decide) (fun c_2 => ?_) (fun c_2 => ?_)
    · skip
      replace c_2 := (lg_cmp_gt _ _).mp c_2
      refine lv_iconst (v := 0) hx hb dX1_isWithin_17 (by decide) ?_
      exact W.zret (v := 0) (ty := .boolean) hx hb hr rfl (fun t ht hW => ⟨_, rfl, by first | (simp [c_1, c_2]; done) | (simp [c_1, c_2]; rfl), ht⟩) (fun q h => absurd h List.not_mem_nil) dX1_isWithin_18
    · skip
      replace c_2 := mt (lg_cmp_gt _ _).mpr c_2
      refine lv_iconst (v := 1) hx hb dX1_isWithin_13 (by decide) ?_
      refine lv_goto (tgt := 18) hx hb dX1_isWithin_14 (by decide) ?_
      exact W.zret (v := 1) (ty := .boolean) hx hb hr rfl (fun t ht hW => ⟨_, rfl, by first | (simp [c_1, c_2]; done) | (simp [c_1, c_2]; rfl), ht⟩) (fun q h => absurd h List.not_mem_nil) dX1_isWithin_18
set_option maxHeartbeats 4000000 in
set_option maxRecDepth 100000 in
/-- find of no wheel -/
theorem c1_find_out (l : Launch) (D : va_G) (cW : ClassId) (h0 hw n : Nat) (q : Nat → Nat) (g : Nat → Option Nat) (sp : Nat → Int64) (lo ph : Nat → Int32) (pr bo : Nat → Int64) (mo : Nat → UInt64) (rf : Int64) (hd gr st nx : Int32) (hn : n ≤ 8) (hg : ∀ i, i < n → g i = some (q i)) (w : Int32) (hwo : wOut n w) : Met l yX1_find wsX1_find ({ frames := 0, cells := 0, slots := 0, locals := 0 }) (va_Pc [.ref h0, .int w] (xP D [(cW, .object RX0)] (cw h0 hw cW n q g sp lo ph pr bo mo rf hd gr st nx))) (va_Sq (fun r : Option Nat => r = none)) 0 0 (fun _ => False) := by
  refine Met.ofW (cc := cX1_find) (maxL := 2) (ret := (some (.object "GearBrake$Wheel"))) (by decide) rfl ?_
  intro p e s m args below meth c s₁ B hml hv
  obtain ⟨rfl, hP, hK, hN⟩ := hv
  have hx := B.exec
  have hb := B.bytes
  have hr := B.returns
  have hts := atoms_spec (ws := wsX1_find) B.pre
  have hown : s.vm.findClass RX1 = some m.cls := findClass_of_methodNamed B.named
  have hlocks := B.notSynchronized
  have hm1 : (.fieldLink RX1 11 "GearBrake" "wheels" "[LGearBrake$Wheel;" : Cond) ∈ wsX1_find := by decide +kernel
  have hl := lv_entry ([.ref h0, .int w]) (n := 2) (Nat.le_of_ble_eq_true rfl)
  rw [lg_entry_eq]
  generalize (lg_sl ([.ref h0, .int w]) ++ List.replicate (2 - (lg_sl ([.ref h0, .int w])).length) Slot.unset).toArray = ls at hl ⊢
  replace hl : lv_has ls 2 [(0, .ref h0), (1, .int w)] := hl
  refine lv_iload_n hx hb dX1_find_0 rfl (lv_at hl 1 rfl) ?_
  refine lv_iconst (v := 1) hx hb dX1_find_1 (by decide) ?_
  refine lv_icmp_lt (tgt := 25) hx hb dX1_find_2 (by decide) (fun c_1 => ?_) (fun c_1 => ?_)
  · skip
    refine lv_null hx hb dX1_find_25 ?_
    exact W.aret (v := .null) hx hb hr (Or.inl ⟨_, rfl⟩) (Or.inl rfl) (fun t ht hW => ⟨none, rfl, rfl, ht⟩) (fun q h => absurd h List.not_mem_nil) dX1_find_26
  · skip
    refine lv_iload_n hx hb dX1_find_5 rfl (lv_at hl 1 rfl) ?_
    refine lv_aload_n hx hb dX1_find_6 rfl (lv_at hl 0 rfl) ?_
    refine va_get (D := D) (ci := 1) (v := .ref hw) (C := RX1) (T := TX1) (N := 6) hx hb hts (by decide +kernel) hown hK hP 0 rfl rfl 0 (by decide) (hts _ hm1) (fun _ h9 => h9) rfl dX1_find_7 ?_
    refine va_alen (D := D) (x := (n, .inr (.inr (.inr (.inr g))))) (v := nI n) hx hb hK hP 1 0 rfl rfl rfl dX1_find_10 ?_
    refine lv_icmp_gt (tgt := 25) hx hb dX1_find_11 (by decide) (fun c_2 => ?_) (fun c_2 => ?_)
    · skip
      refine lv_null hx hb dX1_find_25 ?_
      exact W.aret (v := .null) hx hb hr (Or.inl ⟨_, rfl⟩) (Or.inl rfl) (fun t ht hW => ⟨none, rfl, rfl, ht⟩) (fun q h => absurd h List.not_mem_nil) dX1_find_26
    · skip
      exact (hwo.elim c_1 c_2).elim
set_option maxHeartbeats 4000000 in
set_option maxRecDepth 100000 in
/-- find of wheel i + 1 -/
theorem c1_find_in (l : Launch) (D : va_G) (cW : ClassId) (h0 hw n : Nat) (q : Nat → Nat) (g : Nat → Option Nat) (sp : Nat → Int64) (lo ph : Nat → Int32) (pr bo : Nat → Int64) (mo : Nat → UInt64) (rf : Int64) (hd gr st nx : Int32) (hn : n ≤ 8) (hg : ∀ i, i < n → g i = some (q i)) (i : Nat) (hi : i < n) : Met l yX1_find wsX1_find ({ frames := 0, cells := 0, slots := 0, locals := 0 }) (va_Pc [.ref h0, .int (nI (i + 1))] (xP D [(cW, .object RX0)] (cw h0 hw cW n q g sp lo ph pr bo mo rf hd gr st nx))) (va_Sq (fun r : Option Nat => r = some (q i))) 0 0 (fun _ => False) := by
  refine Met.ofW (cc := cX1_find) (maxL := 2) (ret := (some (.object "GearBrake$Wheel"))) (by decide) rfl ?_
  intro p e s m args below meth c s₁ B hml hv
  obtain ⟨rfl, hP, hK, hN⟩ := hv
  have hx := B.exec
  have hb := B.bytes
  have hr := B.returns
  have hts := atoms_spec (ws := wsX1_find) B.pre
  have hown : s.vm.findClass RX1 = some m.cls := findClass_of_methodNamed B.named
  have hlocks := B.notSynchronized
  have hm1 : (.fieldLink RX1 11 "GearBrake" "wheels" "[LGearBrake$Wheel;" : Cond) ∈ wsX1_find := by decide +kernel
  have hl := lv_entry ([.ref h0, .int (nI (i + 1))]) (n := 2) (Nat.le_of_ble_eq_true rfl)
  rw [lg_entry_eq]
  generalize (lg_sl ([.ref h0, .int (nI (i + 1))]) ++ List.replicate (2 - (lg_sl ([.ref h0, .int (nI (i + 1))])).length) Slot.unset).toArray = ls at hl ⊢
  replace hl : lv_has ls 2 [(0, .ref h0), (1, .int (nI (i + 1)))] := hl
  refine lv_iload_n hx hb dX1_find_0 rfl (lv_at hl 1 rfl) ?_
  refine lv_iconst (v := 1) hx hb dX1_find_1 (by decide) ?_
  refine lv_icmp_lt (tgt := 25) hx hb dX1_find_2 (by decide) (fun c_1 => absurd (Or.inl c_1) (wOut_in hn hi)) (fun c_1 => ?_)
  refine lv_iload_n hx hb dX1_find_5 rfl (lv_at hl 1 rfl) ?_
  refine lv_aload_n hx hb dX1_find_6 rfl (lv_at hl 0 rfl) ?_
  refine va_get (D := D) (ci := 1) (v := .ref hw) (C := RX1) (T := TX1) (N := 6) hx hb hts (by decide +kernel) hown hK hP 0 rfl rfl 0 (by decide) (hts _ hm1) (fun _ h9 => h9) rfl dX1_find_7 ?_
  refine va_alen (D := D) (x := (n, .inr (.inr (.inr (.inr g))))) (v := nI n) hx hb hK hP 1 0 rfl rfl rfl dX1_find_10 ?_
  refine lv_icmp_gt (tgt := 25) hx hb dX1_find_11 (by decide) (fun c_2 => absurd (Or.inr c_2) (wOut_in hn hi)) (fun c_2 => ?_)
  refine lv_aload_n hx hb dX1_find_14 rfl (lv_at hl 0 rfl) ?_
  refine va_get (D := D) (ci := 1) (v := .ref hw) (C := RX1) (T := TX1) (N := 6) hx hb hts (by decide +kernel) hown hK hP 0 rfl rfl 0 (by decide) (hts _ hm1) (fun _ h9 => h9) rfl dX1_find_15 ?_
  refine lv_iload_n hx hb dX1_find_18 rfl (lv_at hl 1 rfl) ?_
  refine lv_iconst (v := 1) hx hb dX1_find_19 (by decide) ?_
  refine lv_isub hx hb dX1_find_20 ?_
  refine va_aldq (D := D) hx hb hK hP 1 0 rfl rfl (ix_pred hn hi) dX1_find_21 ?_
  refine W.eq (g2 := F0 m 22 ls [.ref (q i)]) (by rw [ix_predc hn hi, hg i hi]; rfl) ?_
  refine lv_goto (tgt := 26) hx hb dX1_find_22 (by decide) ?_
  exact W.aret (v := .ref (q i)) hx hb hr (Or.inl ⟨_, rfl⟩) (Or.inr ⟨_, rfl⟩) (fun t ht hW => ⟨some (q i), rfl, rfl, ht⟩) (fun q h => absurd h List.not_mem_nil) dX1_find_26
set_option maxHeartbeats 4000000 in
set_option maxRecDepth 100000 in
/-- countLost -/
theorem c1_countLost (l : Launch) (D : va_G) (cW : ClassId) (h0 hw n : Nat) (q : Nat → Nat) (g : Nat → Option Nat) (sp : Nat → Int64) (lo ph : Nat → Int32) (pr bo : Nat → Int64) (mo : Nat → UInt64) (rf : Int64) (hd gr st nx : Int32) (hn : n ≤ 8) (hg : ∀ i, i < n → g i = some (q i)) : Met l yX1_countLost wsX1_countLost ({ frames := 0, cells := 0, slots := 0, locals := 0 }) (va_Pc [.ref h0] (xP D [(cW, .object RX0)] (cw h0 hw cW n q g sp lo ph pr bo mo rf hd gr st nx))) (vp_Si (fun r : Int32 => r = cnt lo n)) 0 0 (fun _ => False) := by
  refine Met.ofW (cc := cX1_countLost) (maxL := 3) (ret := (some .int)) (by decide) rfl ?_
  intro p e s m args below meth c s₁ B hml hv
  obtain ⟨rfl, hP, hK, hN⟩ := hv
  have hx := B.exec
  have hb := B.bytes
  have hr := B.returns
  have hts := atoms_spec (ws := wsX1_countLost) B.pre
  have hown : s.vm.findClass RX1 = some m.cls := findClass_of_methodNamed B.named
  have hlocks := B.notSynchronized
  have hm1 : (.fieldLink RX1 11 "GearBrake" "wheels" "[LGearBrake$Wheel;" : Cond) ∈ wsX1_countLost := by decide +kernel
  have hl := lv_entry ([.ref h0]) (n := 3) (Nat.le_of_ble_eq_true rfl)
  rw [lg_entry_eq]
  generalize (lg_sl ([.ref h0]) ++ List.replicate (3 - (lg_sl ([.ref h0])).length) Slot.unset).toArray = ls at hl ⊢
  replace hl : lv_has ls 3 [(0, .ref h0)] := hl
  refine lv_iconst (v := 0) hx hb dX1_countLost_0 (by decide) ?_
  refine lv_istore_n (lv' := [(1, .int 0), (0, .ref h0)]) hx hb dX1_countLost_1 rfl hl (by decide) rfl (fun ls hl => ?_)
  refine lv_iconst (v := 0) hx hb dX1_countLost_2 (by decide) ?_
  refine lv_istore_n (lv' := [(2, .int 0), (1, .int 0), (0, .ref h0)]) hx hb dX1_countLost_3 rfl hl (by decide) rfl (fun ls hl => ?_)
  obtain ⟨j, hI⟩ : ∃ (j : Nat), j ≤ n ∧ lv_has ls 3 [(2, .int (nI j)), (1, .int (cnt lo j)), (0, .ref h0)] := ⟨0, Nat.zero_le _, by exact lv_sub hl [0, 1, 2] rfl⟩
  obtain ⟨d, hjd⟩ : ∃ d, j + d = n := ⟨n - j, by omega⟩
  clear hl
  induction d generalizing ls j with
  | zero =>
    obtain ⟨hjn, hl⟩ := hI
    have hjn : j = n := by omega
    rw [hjn] at hl
    refine lv_iload_n hx hb dX1_countLost_4 rfl (lv_at hl 0 rfl) ?_
    refine lv_aload_n hx hb dX1_countLost_5 rfl (lv_at hl 2 rfl) ?_
    refine va_get (D := D) (ci := 1) (v := .ref hw) (C := RX1) (T := TX1) (N := 6) hx hb hts (by decide +kernel) hown hK hP 0 rfl rfl 0 (by decide) (hts _ hm1) (fun _ h9 => h9) rfl dX1_countLost_6 ?_
    refine va_alen (D := D) (x := (n, .inr (.inr (.inr (.inr g))))) (v := nI n) hx hb hK hP 1 0 rfl rfl rfl dX1_countLost_9 ?_
    refine lv_icmp_ge (tgt := 34) hx hb dX1_countLost_10 (by decide) (fun c_1 => ?_) (fun c_1 => absurd (nI_le (Nat.le_refl n) (by omega)) c_1)
    refine lv_iload_n hx hb dX1_countLost_34 rfl (lv_at hl 1 rfl) ?_
    exact W.iret (v := (cnt lo n)) hx hb hr (fun t ht hW => ⟨_, rfl, rfl, ht⟩) (fun q h => absurd h List.not_mem_nil) dX1_countLost_35
  | succ d ih =>
    obtain ⟨hjn, hl⟩ := hI
    have hlt : j < n := by omega
    refine lv_iload_n hx hb dX1_countLost_4 rfl (lv_at hl 0 rfl) ?_
    refine lv_aload_n hx hb dX1_countLost_5 rfl (lv_at hl 2 rfl) ?_
    refine va_get (D := D) (ci := 1) (v := .ref hw) (C := RX1) (T := TX1) (N := 6) hx hb hts (by decide +kernel) hown hK hP 0 rfl rfl 0 (by decide) (hts _ hm1) (fun _ h9 => h9) rfl dX1_countLost_6 ?_
    refine va_alen (D := D) (x := (n, .inr (.inr (.inr (.inr g))))) (v := nI n) hx hb hK hP 1 0 rfl rfl rfl dX1_countLost_9 ?_
    refine lv_icmp_ge (tgt := 34) hx hb dX1_countLost_10 (by decide) (fun c_2 => absurd c_2 (nI_ge hlt (by omega))) (fun c_2 => ?_)
    refine lv_aload_n hx hb dX1_countLost_13 rfl (lv_at hl 2 rfl) ?_
    refine va_get (D := D) (ci := 1) (v := .ref hw) (C := RX1) (T := TX1) (N := 6) hx hb hts (by decide +kernel) hown hK hP 0 rfl rfl 0 (by decide) (hts _ hm1) (fun _ h9 => h9) rfl dX1_countLost_14 ?_
    refine lv_iload_n hx hb dX1_countLost_17 rfl (lv_at hl 0 rfl) ?_
    refine va_aldq (D := D) hx hb hK hP 1 0 rfl rfl (ix_n hn hlt) dX1_countLost_18 ?_
    refine W.eq (g2 := F0 m 19 ls [.ref (q j)]) (by rw [ix_nc hn hlt, hg j hlt]; rfl) ?_
    refine va_getN (D := D) (ci := 0) (v := .int (lo (j + 1))) (C := RX0) (T := TX0) (N := 6) hx hb hts (by decide +kernel) hown hK hP (j + 2) (cw_at hlt) rfl 1 (by decide) (va_Nw.use rfl hN.2.1) (fun _ h9 => h9) rfl dX1_countLost_19 ?_
    refine lv_if_eq (tgt := 28) hx hb dX1_countLost_22 (by decide) (fun c_3 => ?_) (fun c_3 => ?_)
    · skip
      refine lv_iinc (v := nI (j + 1)) (lv' := [(2, .int (nI (j + 1))), (1, .int (cnt lo j)), (0, .ref h0)]) hx hb dX1_countLost_28 hl (k := 0) rfl (nI_1 j) (by decide) rfl (fun ls hl => ?_)
      refine lv_goto (tgt := 4) hx hb dX1_countLost_31 (by decide) ?_
      exact ih _ (j + 1) ⟨by omega, by rw [show cnt lo (j + 1) = cnt lo j from by simp [cnt, c_3]]; exact lv_sub hl [0, 1, 2] rfl⟩ (by omega)
    · skip
      refine lv_iinc (v := (cnt lo j) + 1) (lv' := [(1, .int ((cnt lo j) + 1)), (2, .int (nI j)), (0, .ref h0)]) hx hb dX1_countLost_25 hl (k := 1) rfl rfl (by decide) rfl (fun ls hl => ?_)
      refine lv_iinc (v := nI (j + 1)) (lv' := [(2, .int (nI (j + 1))), (1, .int ((cnt lo j) + 1)), (0, .ref h0)]) hx hb dX1_countLost_28 hl (k := 1) rfl (nI_1 j) (by decide) rfl (fun ls hl => ?_)
      refine lv_goto (tgt := 4) hx hb dX1_countLost_31 (by decide) ?_
      exact ih _ (j + 1) ⟨by omega, by rw [show cnt lo (j + 1) = (cnt lo j) + 1 from by simp [cnt, c_3]]; exact lv_sub hl [0, 1, 2] rfl⟩ (by omega)
set_option maxHeartbeats 4000000 in
set_option maxRecDepth 100000 in
/-- greatestSpeed -/
theorem c1_greatest (l : Launch) (D : va_G) (cW : ClassId) (h0 hw n : Nat) (q : Nat → Nat) (g : Nat → Option Nat) (sp : Nat → Int64) (lo ph : Nat → Int32) (pr bo : Nat → Int64) (mo : Nat → UInt64) (rf : Int64) (hd gr st nx : Int32) (hn : n ≤ 8) (hg : ∀ i, i < n → g i = some (q i)) : Met l yX1_greatestSpeed wsX1_greatestSpeed ({ frames := 1, cells := 0, slots := 0, locals := 23 }) (va_Pc [.ref h0] (xP D [(cW, .object RX0)] (cw h0 hw cW n q g sp lo ph pr bo mo rf hd gr st nx))) (vp_Sl (fun r : Int64 => r = cTop lo sp n)) 0 0 (fun _ => False) := by
  refine Met.ofW (cc := cX1_greatestSpeed) (maxL := 4) (ret := (some .long)) (by decide) rfl ?_
  intro p e s m args below meth c s₁ B hml hv
  obtain ⟨rfl, hP, hK, hN⟩ := hv
  have hx := B.exec
  have hb := B.bytes
  have hr := B.returns
  have hts := atoms_spec (ws := wsX1_greatestSpeed) B.pre
  have hown : s.vm.findClass RX1 = some m.cls := findClass_of_methodNamed B.named
  have hlocks := B.notSynchronized
  have hm1 : (.fieldLink RX1 11 "GearBrake" "wheels" "[LGearBrake$Wheel;" : Cond) ∈ wsX1_greatestSpeed := by decide +kernel
  have hm2 : (.methodLink RX1 122 Lib.MathLoose.max_long.x : Cond) ∈ wsX1_greatestSpeed := by decide +kernel
  have hm3 : (.static Lib.MathLoose.max_long.x : Cond) ∈ wsX1_greatestSpeed := by decide +kernel
  have hm4 : (.initialized "java/lang/Math" : Cond) ∈ wsX1_greatestSpeed := by decide +kernel
  have hm5 : (.code Lib.MathLoose.max_long.x Lib.MathLoose.max_long.code 4 (some .long) : Cond) ∈ wsX1_greatestSpeed := by decide +kernel
  have hl := lv_entry ([.ref h0]) (n := 4) (Nat.le_of_ble_eq_true rfl)
  rw [lg_entry_eq]
  generalize (lg_sl ([.ref h0]) ++ List.replicate (4 - (lg_sl ([.ref h0])).length) Slot.unset).toArray = ls at hl ⊢
  replace hl : lv_has ls 4 [(0, .ref h0)] := hl
  refine lv_lconst (v := 0) hx hb dX1_greatestSpeed_0 (by decide) ?_
  refine lv_lstore_n (lv' := [(1, .long 0), (0, .ref h0)]) hx hb dX1_greatestSpeed_1 rfl hl (by decide) rfl (fun ls hl => ?_)
  refine lv_iconst (v := 0) hx hb dX1_greatestSpeed_2 (by decide) ?_
  refine lv_istore_n (lv' := [(3, .int 0), (1, .long 0), (0, .ref h0)]) hx hb dX1_greatestSpeed_3 rfl hl (by decide) rfl (fun ls hl => ?_)
  obtain ⟨j, hI⟩ : ∃ (j : Nat), j ≤ n ∧ lv_has ls 4 [(3, .int (nI j)), (1, .long (cTop lo sp j)), (0, .ref h0)] := ⟨0, Nat.zero_le _, by exact lv_sub hl [0, 1, 2] rfl⟩
  obtain ⟨d, hjd⟩ : ∃ d, j + d = n := ⟨n - j, by omega⟩
  clear hl
  induction d generalizing ls j with
  | zero =>
    obtain ⟨hjn, hl⟩ := hI
    have hjn : j = n := by omega
    rw [hjn] at hl
    refine lv_iload_n hx hb dX1_greatestSpeed_4 rfl (lv_at hl 0 rfl) ?_
    refine lv_aload_n hx hb dX1_greatestSpeed_5 rfl (lv_at hl 2 rfl) ?_
    refine va_get (D := D) (ci := 1) (v := .ref hw) (C := RX1) (T := TX1) (N := 6) hx hb hts (by decide +kernel) hown hK hP 0 rfl rfl 0 (by decide) (hts _ hm1) (fun _ h9 => h9) rfl dX1_greatestSpeed_6 ?_
    refine va_alen (D := D) (x := (n, .inr (.inr (.inr (.inr g))))) (v := nI n) hx hb hK hP 1 0 rfl rfl rfl dX1_greatestSpeed_9 ?_
    refine lv_icmp_ge (tgt := 45) hx hb dX1_greatestSpeed_10 (by decide) (fun c_1 => ?_) (fun c_1 => absurd (nI_le (Nat.le_refl n) (by omega)) c_1)
    refine lv_lload_n hx hb dX1_greatestSpeed_45 rfl (lv_at hl 1 rfl) ?_
    exact W.lret (v := (cTop lo sp n)) hx hb hr (fun t ht hW => ⟨_, rfl, rfl, ht⟩) (fun q h => absurd h List.not_mem_nil) dX1_greatestSpeed_46
  | succ d ih =>
    obtain ⟨hjn, hl⟩ := hI
    have hlt : j < n := by omega
    refine lv_iload_n hx hb dX1_greatestSpeed_4 rfl (lv_at hl 0 rfl) ?_
    refine lv_aload_n hx hb dX1_greatestSpeed_5 rfl (lv_at hl 2 rfl) ?_
    refine va_get (D := D) (ci := 1) (v := .ref hw) (C := RX1) (T := TX1) (N := 6) hx hb hts (by decide +kernel) hown hK hP 0 rfl rfl 0 (by decide) (hts _ hm1) (fun _ h9 => h9) rfl dX1_greatestSpeed_6 ?_
    refine va_alen (D := D) (x := (n, .inr (.inr (.inr (.inr g))))) (v := nI n) hx hb hK hP 1 0 rfl rfl rfl dX1_greatestSpeed_9 ?_
    refine lv_icmp_ge (tgt := 45) hx hb dX1_greatestSpeed_10 (by decide) (fun c_2 => absurd c_2 (nI_ge hlt (by omega))) (fun c_2 => ?_)
    refine lv_aload_n hx hb dX1_greatestSpeed_13 rfl (lv_at hl 2 rfl) ?_
    refine va_get (D := D) (ci := 1) (v := .ref hw) (C := RX1) (T := TX1) (N := 6) hx hb hts (by decide +kernel) hown hK hP 0 rfl rfl 0 (by decide) (hts _ hm1) (fun _ h9 => h9) rfl dX1_greatestSpeed_14 ?_
    refine lv_iload_n hx hb dX1_greatestSpeed_17 rfl (lv_at hl 0 rfl) ?_
    refine va_aldq (D := D) hx hb hK hP 1 0 rfl rfl (ix_n hn hlt) dX1_greatestSpeed_18 ?_
    refine W.eq (g2 := F0 m 19 ls [.ref (q j)]) (by rw [ix_nc hn hlt, hg j hlt]; rfl) ?_
    refine va_getN (D := D) (ci := 0) (v := .int (lo (j + 1))) (C := RX0) (T := TX0) (N := 6) hx hb hts (by decide +kernel) hown hK hP (j + 2) (cw_at hlt) rfl 1 (by decide) (va_Nw.use rfl hN.2.1) (fun _ h9 => h9) rfl dX1_greatestSpeed_19 ?_
    refine lv_if_ne (tgt := 39) hx hb dX1_greatestSpeed_22 (by decide) (fun c_3 => ?_) (fun c_3 => ?_)
    · skip
      refine lv_iinc (v := nI (j + 1)) (lv' := [(3, .int (nI (j + 1))), (1, .long (cTop lo sp j)), (0, .ref h0)]) hx hb dX1_greatestSpeed_39 hl (k := 0) rfl (nI_1 j) (by decide) rfl (fun ls hl => ?_)
      refine lv_goto (tgt := 4) hx hb dX1_greatestSpeed_42 (by decide) ?_
      exact ih _ (j + 1) ⟨by omega, by rw [show cTop lo sp (j + 1) = cTop lo sp j from by simp only [cTop]; simp [c_3]]; exact lv_sub hl [0, 1, 2] rfl⟩ (by omega)
    · skip
      refine lv_lload_n hx hb dX1_greatestSpeed_25 rfl (lv_at hl 1 rfl) ?_
      refine lv_aload_n hx hb dX1_greatestSpeed_26 rfl (lv_at hl 2 rfl) ?_
      refine va_get (D := D) (ci := 1) (v := .ref hw) (C := RX1) (T := TX1) (N := 6) hx hb hts (by decide +kernel) hown hK hP 0 rfl rfl 0 (by decide) (hts _ hm1) (fun _ h9 => h9) rfl dX1_greatestSpeed_27 ?_
      refine lv_iload_n hx hb dX1_greatestSpeed_30 rfl (lv_at hl 0 rfl) ?_
      refine va_aldq (D := D) hx hb hK hP 1 0 rfl rfl (ix_n hn hlt) dX1_greatestSpeed_31 ?_
      refine W.eq (g2 := F0 m 32 ls [.ref (q j), .long (cTop lo sp j)]) (by rw [ix_nc hn hlt, hg j hlt]; rfl) ?_
      refine va_getN (D := D) (ci := 0) (v := .long (sp (j + 1))) (C := RX0) (T := TX0) (N := 6) hx hb hts (by decide +kernel) hown hK hP (j + 2) (cw_at hlt) rfl 0 (by decide) (va_Nw.use rfl hN.1) (fun _ h9 => h9) rfl dX1_greatestSpeed_32 ?_
      refine va_mmax_long hx hb (by rw [hml]; exact hl.1.symm) hown (hts _ hm2) (hts _ hm3) (hts _ hm4) (hts _ hm5) (Nat.le_of_ble_eq_true rfl) (Nat.le_of_ble_eq_true rfl) (Nat.le_of_ble_eq_true rfl) (Nat.le_of_ble_eq_true rfl) dX1_greatestSpeed_35 ?_
      refine lv_lstore_n (lv' := [(1, .long (if (sp (j + 1)) < (cTop lo sp j) then (cTop lo sp j) else (sp (j + 1)))), (3, .int (nI j)), (0, .ref h0)]) hx hb dX1_greatestSpeed_38 rfl hl (by decide) rfl (fun ls hl => ?_)
      refine lv_iinc (v := nI (j + 1)) (lv' := [(3, .int (nI (j + 1))), (1, .long (if (sp (j + 1)) < (cTop lo sp j) then (cTop lo sp j) else (sp (j + 1)))), (0, .ref h0)]) hx hb dX1_greatestSpeed_39 hl (k := 1) rfl (nI_1 j) (by decide) rfl (fun ls hl => ?_)
      refine lv_goto (tgt := 4) hx hb dX1_greatestSpeed_42 (by decide) ?_
      exact ih _ (j + 1) ⟨by omega, by rw [show cTop lo sp (j + 1) = if (sp (j + 1)) < (cTop lo sp j) then (cTop lo sp j) else (sp (j + 1)) from by simp only [cTop]; simp [c_3]]; exact lv_sub hl [0, 1, 2] rfl⟩ (by omega)
end
section
/-! ===== the car: readers that call ===== -/
set_option maxHeartbeats 4000000 in
set_option maxRecDepth 100000 in
/-- nextReference -/
theorem c1_nextRef (l : Launch) (D : va_G) (cW : ClassId) (h0 hw n : Nat) (q : Nat → Nat) (g : Nat → Option Nat) (sp : Nat → Int64) (lo ph : Nat → Int32) (pr bo : Nat → Int64) (mo : Nat → UInt64) (rf : Int64) (hd gr st nx : Int32) (hn : n ≤ 8) (hg : ∀ i, i < n → g i = some (q i)) (ped : Int64) : Met l yX1_nextReference wsX1_nextReference ({ frames := 2, cells := 0, slots := 0, locals := 46 }) (va_Pc [.ref h0, .long ped] (xP D [(cW, .object RX0)] (cw h0 hw cW n q g sp lo ph pr bo mo rf hd gr st nx))) (vp_Sl (fun r : Int64 => r = cRef n ped rf lo sp)) 0 0 (fun _ => False) := by
  refine Met.ofW (cc := cX1_nextReference) (maxL := 7) (ret := (some .long)) (by decide) rfl ?_
  intro p e s m args below meth c s₁ B hml hv
  obtain ⟨rfl, hP, hK, hN⟩ := hv
  have hx := B.exec
  have hb := B.bytes
  have hr := B.returns
  have hts := atoms_spec (ws := wsX1_nextReference) B.pre
  have hown : s.vm.findClass RX1 = some m.cls := findClass_of_methodNamed B.named
  have hlocks := B.notSynchronized
  have hm1 : (.fieldLink RX1 47 "GearBrake" "reference" "J" : Cond) ∈ wsX1_nextReference := by decide +kernel
  have hm2 : (.constantLong RX1 120 (3) : Cond) ∈ wsX1_nextReference := by decide +kernel
  have hm3 : (.methodLink RX1 122 Lib.MathLoose.max_long.x : Cond) ∈ wsX1_nextReference := by decide +kernel
  have hm4 : (.static Lib.MathLoose.max_long.x : Cond) ∈ wsX1_nextReference := by decide +kernel
  have hm5 : (.initialized "java/lang/Math" : Cond) ∈ wsX1_nextReference := by decide +kernel
  have hm6 : (.code Lib.MathLoose.max_long.x Lib.MathLoose.max_long.code 4 (some .long) : Cond) ∈ wsX1_nextReference := by decide +kernel
  have hm7 : (.fieldLink RX1 11 "GearBrake" "wheels" "[LGearBrake$Wheel;" : Cond) ∈ wsX1_nextReference := by decide +kernel
  have hl := lv_entry ([.ref h0, .long ped]) (n := 7) (Nat.le_of_ble_eq_true rfl)
  rw [lg_entry_eq]
  generalize (lg_sl ([.ref h0, .long ped]) ++ List.replicate (7 - (lg_sl ([.ref h0, .long ped])).length) Slot.unset).toArray = ls at hl ⊢
  replace hl : lv_has ls 7 [(0, .ref h0), (1, .long ped)] := hl
  refine lv_aload_n hx hb dX1_nextReference_0 rfl (lv_at hl 0 rfl) ?_
  refine va_get (D := D) (ci := 1) (v := .long rf) (C := RX1) (T := TX1) (N := 6) hx hb hts (by decide +kernel) hown hK hP 0 rfl rfl 1 (by decide) (hts _ hm1) (fun _ h9 => h9) rfl dX1_nextReference_1 ?_
  refine lv_ldc2 hx hb hown (hts _ hm2) dX1_nextReference_4 ?_
  refine lv_lsub hx hb dX1_nextReference_7 ?_
  refine lv_lconst (v := 0) hx hb dX1_nextReference_8 (by decide) ?_
  refine va_mmax_long hx hb (by rw [hml]; exact hl.1.symm) hown (hts _ hm3) (hts _ hm4) (hts _ hm5) (hts _ hm6) (Nat.le_of_ble_eq_true rfl) (Nat.le_of_ble_eq_true rfl) (Nat.le_of_ble_eq_true rfl) (Nat.le_of_ble_eq_true rfl) dX1_nextReference_9 ?_
  refine lv_lstore_n (lv' := [(3, .long (if 0 < (rf - 3) then (rf - 3) else 0)), (0, .ref h0), (1, .long ped)]) hx hb dX1_nextReference_12 rfl hl (by decide) rfl (fun ls hl => ?_)
  refine lv_aload_n hx hb dX1_nextReference_13 rfl (lv_at hl 1 rfl) ?_
  refine vp_callSi (W.runV (As := []) (rest := []) ⟨hx, hb, hml, hown, hts⟩ (c1_countLost l D cW h0 hw n q g sp lo ph pr bo mo rf hd gr st nx hn hg) (cwV 0 hts gX1_nextReference_X1_countLost rfl rfl rfl (by decide +kernel) ⟨Nat.le_of_ble_eq_true rfl, Nat.le_of_ble_eq_true rfl⟩) ⟨xP_blind, va_recv hK hP (ci := 1) (q0 := 0) rfl rfl, xP_at hP hK hN⟩ rfl rfl hl.1 rfl (lv_room (Nat.le_of_ble_eq_true rfl)) dX1_nextReference_14 ⟨Nat.le_of_ble_eq_true rfl, Nat.le_of_ble_eq_true rfl⟩) (fun r_1 hr_2 => ?_)
  subst hr_2
  refine lv_aload_n hx hb dX1_nextReference_17 rfl (lv_at hl 1 rfl) ?_
  refine va_get (D := D) (ci := 1) (v := .ref hw) (C := RX1) (T := TX1) (N := 6) hx hb hts (by decide +kernel) hown hK hP 0 rfl rfl 0 (by decide) (hts _ hm7) (fun _ h9 => h9) rfl dX1_nextReference_18 ?_
  refine va_alen (D := D) (x := (n, .inr (.inr (.inr (.inr g))))) (v := nI n) hx hb hK hP 1 0 rfl rfl rfl dX1_nextReference_21 ?_
  refine lv_icmp_ne (tgt := 27) hx hb dX1_nextReference_22 (by decide) (fun c_3 => ?_) (fun c_3 => ?_)
  · skip
    refine lv_aload_n hx hb dX1_nextReference_27 rfl (lv_at hl 1 rfl) ?_
    refine vp_callSl (W.runV (As := []) (rest := []) ⟨hx, hb, hml, hown, hts⟩ (c1_greatest l D cW h0 hw n q g sp lo ph pr bo mo rf hd gr st nx hn hg) (cwV 0 hts gX1_nextReference_X1_greatestSpeed rfl rfl rfl (by decide +kernel) ⟨Nat.le_of_ble_eq_true rfl, Nat.le_of_ble_eq_true rfl⟩) ⟨xP_blind, va_recv hK hP (ci := 1) (q0 := 0) rfl rfl, xP_at hP hK hN⟩ rfl rfl hl.1 rfl (lv_room (Nat.le_of_ble_eq_true rfl)) dX1_nextReference_28 ⟨Nat.le_of_ble_eq_true rfl, Nat.le_of_ble_eq_true rfl⟩) (fun r_4 hr_5 => ?_)
    subst hr_5
    refine lv_lstore (lv' := [(5, .long (cTop lo sp n)), (3, .long (if 0 < (rf - 3) then (rf - 3) else 0)), (0, .ref h0), (1, .long ped)]) hx hb dX1_nextReference_31 hl (by decide) rfl (fun ls hl => ?_)
    refine lv_lload_n hx hb dX1_nextReference_33 rfl (lv_at hl 3 rfl) ?_
    refine lv_lconst (v := 0) hx hb dX1_nextReference_34 (by decide) ?_
    refine W.lcmp hx hb dX1_nextReference_35 ?_
    refine lv_if_le (tgt := 48) hx hb dX1_nextReference_36 (by decide) (fun c_6 => ?_) (fun c_6 => ?_)
    · skip
      replace c_6 := (lg_cmp_le _ _).mp c_6
      refine lv_lload hx hb dX1_nextReference_48 (lv_at hl 0 rfl) ?_
      exact W.lret (v := (cTop lo sp n)) hx hb hr (fun t ht hW => ⟨_, rfl, by first | (simp [cRef, cLess, c_3, c_6]; done) | (simp [cRef, cLess, c_3, c_6]; rfl), ht⟩) (fun q h => absurd h List.not_mem_nil) dX1_nextReference_50
    · skip
      replace c_6 := mt (lg_cmp_le _ _).mpr c_6
      refine lv_lload hx hb dX1_nextReference_39 (lv_at hl 0 rfl) ?_
      refine lv_lload_n hx hb dX1_nextReference_41 rfl (lv_at hl 1 rfl) ?_
      refine va_mmax_long hx hb (by rw [hml]; exact hl.1.symm) hown (hts _ hm3) (hts _ hm4) (hts _ hm5) (hts _ hm6) (Nat.le_of_ble_eq_true rfl) (Nat.le_of_ble_eq_true rfl) (Nat.le_of_ble_eq_true rfl) (Nat.le_of_ble_eq_true rfl) dX1_nextReference_42 ?_
      refine lv_goto (tgt := 50) hx hb dX1_nextReference_45 (by decide) ?_
      exact W.lret (v := (if (if 0 < (rf - 3) then (rf - 3) else 0) < (cTop lo sp n) then (cTop lo sp n) else (if 0 < (rf - 3) then (rf - 3) else 0))) hx hb hr (fun t ht hW => ⟨_, rfl, by first | (simp [cRef, cLess, c_3, c_6]; done) | (simp [cRef, cLess, c_3, c_6]; rfl), ht⟩) (fun q h => absurd h List.not_mem_nil) dX1_nextReference_50
  · skip
    refine lv_lload_n hx hb dX1_nextReference_25 rfl (lv_at hl 0 rfl) ?_
    exact W.lret (v := (if 0 < (rf - 3) then (rf - 3) else 0)) hx hb hr (fun t ht hW => ⟨_, rfl, by first | (simp [cRef, cLess, c_3]; done) | (simp [cRef, cLess, c_3]; rfl), ht⟩) (fun q h => absurd h List.not_mem_nil) dX1_nextReference_26
set_option maxHeartbeats 4000000 in
set_option maxRecDepth 100000 in
/-- nextPhase of wheel i + 1 -/
theorem c0_nextPhase (l : Launch) (D : va_G) (cW : ClassId) (h0 hw n : Nat) (q : Nat → Nat) (g : Nat → Option Nat) (sp : Nat → Int64) (lo ph : Nat → Int32) (pr bo : Nat → Int64) (mo : Nat → UInt64) (rf : Int64) (hd gr st nx : Int32) (hn : n ≤ 8) (hg : ∀ i, i < n → g i = some (q i)) (i : Nat) (hi : i < n) (ped rfA : Int64) : Met l yX0_nextPhase wsX0_nextPhase ({ frames := 0, cells := 0, slots := 0, locals := 0 }) (va_Pc [.ref (q i), .long ped, .long rfA] (xP D [(cW, .object RX0)] (cw h0 hw cW n q g sp lo ph pr bo mo rf hd gr st nx))) (vp_Si (fun r : Int32 => r = sPh (lo (i + 1)) rfA ped (sp (i + 1)) (ph (i + 1)) (pr (i + 1)))) 0 0 (fun _ => False) := by
  refine Met.ofW (cc := cX0_nextPhase) (maxL := 6) (ret := (some .int)) (by decide) rfl ?_
  intro p e s m args below meth c s₁ B hml hv
  obtain ⟨rfl, hP, hK, hN⟩ := hv
  have hx := B.exec
  have hb := B.bytes
  have hr := B.returns
  have hts := atoms_spec (ws := wsX0_nextPhase) B.pre
  have hown : s.vm.findClass RX0 = some m.cls := findClass_of_methodNamed B.named
  have hlocks := B.notSynchronized
  have hm1 : (.fieldLink RX0 41 "GearBrake$Wheel" "lost" "Z" : Cond) ∈ wsX0_nextPhase := by decide +kernel
  have hm2 : (.constantLong RX0 15 (100) : Cond) ∈ wsX0_nextPhase := by decide +kernel
  have hm3 : (.fieldLink RX0 45 "GearBrake$Wheel" "speed" "J" : Cond) ∈ wsX0_nextPhase := by decide +kernel
  have hm4 : (.constantLong RX0 48 (80) : Cond) ∈ wsX0_nextPhase := by decide +kernel
  have hm5 : (.constantLong RX0 50 (90) : Cond) ∈ wsX0_nextPhase := by decide +kernel
  have hm6 : (.fieldLink RX0 9 "GearBrake$Wheel" "phase" "I" : Cond) ∈ wsX0_nextPhase := by decide +kernel
  have hm7 : (.fieldLink RX0 52 "GearBrake$Wheel" "pressure" "J" : Cond) ∈ wsX0_nextPhase := by decide +kernel
  have hl := lv_entry ([.ref (q i), .long ped, .long rfA]) (n := 6) (Nat.le_of_ble_eq_true rfl)
  rw [lg_entry_eq]
  generalize (lg_sl ([.ref (q i), .long ped, .long rfA]) ++ List.replicate (6 - (lg_sl ([.ref (q i), .long ped, .long rfA])).length) Slot.unset).toArray = ls at hl ⊢
  replace hl : lv_has ls 6 [(0, .ref (q i)), (1, .long ped), (3, .long rfA)] := hl
  refine lv_aload_n hx hb dX0_nextPhase_0 rfl (lv_at hl 0 rfl) ?_
  refine va_get (D := D) (ci := 0) (v := .int (lo (i + 1))) (C := RX0) (T := TX0) (N := 6) hx hb hts (by decide +kernel) hown hK hP (i + 2) (cw_at hi) rfl 1 (by decide) (hts _ hm1) (fun _ h9 => h9) rfl dX0_nextPhase_1 ?_
  refine lv_if_ne (tgt := 19) hx hb dX0_nextPhase_4 (by decide) (fun c_1 => ?_) (fun c_1 => ?_)
  · skip
    refine lv_iconst (v := 0) hx hb dX0_nextPhase_19 (by decide) ?_
    exact W.iret (v := 0) hx hb hr (fun t ht hW => ⟨_, rfl, by first | (simp [sPh, c_1]; done) | (simp [sPh, c_1]; rfl), ht⟩) (fun q h => absurd h List.not_mem_nil) dX0_nextPhase_20
  · skip
    refine lv_lload_n hx hb dX0_nextPhase_7 rfl (lv_at hl 2 rfl) ?_
    refine lv_lconst (v := 0) hx hb dX0_nextPhase_8 (by decide) ?_
    refine W.lcmp hx hb dX0_nextPhase_9 ?_
    refine lv_if_eq (tgt := 19) hx hb dX0_nextPhase_10 (by decide) (fun c_2 => ?_) (fun c_2 => ?_)
    · skip
      replace c_2 := (lg_cmp_eq _ _).mp c_2
      refine lv_iconst (v := 0) hx hb dX0_nextPhase_19 (by decide) ?_
      exact W.iret (v := 0) hx hb hr (fun t ht hW => ⟨_, rfl, by first | (simp [sPh, c_1, c_2]; done) | (simp [sPh, c_1, c_2]; rfl), ht⟩) (fun q h => absurd h List.not_mem_nil) dX0_nextPhase_20
    · skip
      replace c_2 := mt (lg_cmp_eq _ _).mpr c_2
      refine lv_lload_n hx hb dX0_nextPhase_13 rfl (lv_at hl 1 rfl) ?_
      refine lv_lconst (v := 0) hx hb dX0_nextPhase_14 (by decide) ?_
      refine W.lcmp hx hb dX0_nextPhase_15 ?_
      refine lv_if_ne (tgt := 21) hx hb dX0_nextPhase_16 (by decide) (fun c_3 => ?_) (fun c_3 => ?_)
      · skip
        replace c_3 := mt (lg_cmp_eq _ _).mpr c_3
        refine lv_ldc2 hx hb hown (hts _ hm2) dX0_nextPhase_21 ?_
        refine lv_aload_n hx hb dX0_nextPhase_24 rfl (lv_at hl 0 rfl) ?_
        refine va_get (D := D) (ci := 0) (v := .long (sp (i + 1))) (C := RX0) (T := TX0) (N := 6) hx hb hts (by decide +kernel) hown hK hP (i + 2) (cw_at hi) rfl 0 (by decide) (hts _ hm3) (fun _ h9 => h9) rfl dX0_nextPhase_25 ?_
        refine lv_lmul hx hb dX0_nextPhase_28 ?_
        refine lv_ldc2 hx hb hown (hts _ hm4) dX0_nextPhase_29 ?_
        refine lv_lload_n hx hb dX0_nextPhase_32 rfl (lv_at hl 2 rfl) ?_
        refine lv_lmul hx hb dX0_nextPhase_33 ?_
        refine W.lcmp hx hb dX0_nextPhase_34 ?_
        refine lv_if_ge (tgt := 40) hx hb dX0_nextPhase_35 (by decide) (fun c_4 => ?_) (fun c_4 => ?_)
        · skip
          replace c_4 := (lg_cmp_ge _ _).mp c_4
          refine lv_ldc2 hx hb hown (hts _ hm2) dX0_nextPhase_40 ?_
          refine lv_aload_n hx hb dX0_nextPhase_43 rfl (lv_at hl 0 rfl) ?_
          refine va_get (D := D) (ci := 0) (v := .long (sp (i + 1))) (C := RX0) (T := TX0) (N := 6) hx hb hts (by decide +kernel) hown hK hP (i + 2) (cw_at hi) rfl 0 (by decide) (hts _ hm3) (fun _ h9 => h9) rfl dX0_nextPhase_44 ?_
          refine lv_lmul hx hb dX0_nextPhase_47 ?_
          refine lv_ldc2 hx hb hown (hts _ hm5) dX0_nextPhase_48 ?_
          refine lv_lload_n hx hb dX0_nextPhase_51 rfl (lv_at hl 2 rfl) ?_
          refine lv_lmul hx hb dX0_nextPhase_52 ?_
          refine W.lcmp hx hb dX0_nextPhase_53 ?_
          refine lv_if_ge (tgt := 59) hx hb dX0_nextPhase_54 (by decide) (fun c_5 => ?_) (fun c_5 => ?_)
          · skip
            replace c_5 := (lg_cmp_ge _ _).mp c_5
            refine lv_aload_n hx hb dX0_nextPhase_59 rfl (lv_at hl 0 rfl) ?_
            refine va_get (D := D) (ci := 0) (v := .int (ph (i + 1))) (C := RX0) (T := TX0) (N := 6) hx hb hts (by decide +kernel) hown hK hP (i + 2) (cw_at hi) rfl 2 (by decide) (hts _ hm6) (fun _ h9 => h9) rfl dX0_nextPhase_60 ?_
            refine lv_iconst (v := 1) hx hb dX0_nextPhase_63 (by decide) ?_
            refine lv_icmp_eq (tgt := 92) hx hb dX0_nextPhase_64 (by decide) (fun c_6 => ?_) (fun c_6 => ?_)
            · skip
              refine lv_iconst (v := 1) hx hb dX0_nextPhase_92 (by decide) ?_
              refine lv_goto (tgt := 97) hx hb dX0_nextPhase_93 (by decide) ?_
              refine lv_istore (lv' := [(5, .int 1), (0, .ref (q i)), (1, .long ped), (3, .long rfA)]) hx hb dX0_nextPhase_97 hl (by decide) rfl (fun ls hl => ?_)
              refine lv_iload hx hb dX0_nextPhase_99 (lv_at hl 0 rfl) ?_
              refine lv_if_eq (tgt := 108) hx hb dX0_nextPhase_101 (by decide) (fun c_7 => absurd c_7 (by decide)) (fun c_7 => ?_)
              refine lv_iconst (v := 3) hx hb dX0_nextPhase_104 (by decide) ?_
              refine lv_goto (tgt := 109) hx hb dX0_nextPhase_105 (by decide) ?_
              exact W.iret (v := 3) hx hb hr (fun t ht hW => ⟨_, rfl, by first | (simp [sPh, c_1, c_2, c_3, c_4, c_5, c_6]; done) | (simp [sPh, c_1, c_2, c_3, c_4, c_5, c_6]; rfl), ht⟩) (fun q h => absurd h List.not_mem_nil) dX0_nextPhase_109
            · skip
              refine lv_aload_n hx hb dX0_nextPhase_67 rfl (lv_at hl 0 rfl) ?_
              refine va_get (D := D) (ci := 0) (v := .int (ph (i + 1))) (C := RX0) (T := TX0) (N := 6) hx hb hts (by decide +kernel) hown hK hP (i + 2) (cw_at hi) rfl 2 (by decide) (hts _ hm6) (fun _ h9 => h9) rfl dX0_nextPhase_68 ?_
              refine lv_iconst (v := 2) hx hb dX0_nextPhase_71 (by decide) ?_
              refine lv_icmp_eq (tgt := 92) hx hb dX0_nextPhase_72 (by decide) (fun c_8 => ?_) (fun c_8 => ?_)
              · skip
                refine lv_iconst (v := 1) hx hb dX0_nextPhase_92 (by decide) ?_
                refine lv_goto (tgt := 97) hx hb dX0_nextPhase_93 (by decide) ?_
                refine lv_istore (lv' := [(5, .int 1), (0, .ref (q i)), (1, .long ped), (3, .long rfA)]) hx hb dX0_nextPhase_97 hl (by decide) rfl (fun ls hl => ?_)
                refine lv_iload hx hb dX0_nextPhase_99 (lv_at hl 0 rfl) ?_
                refine lv_if_eq (tgt := 108) hx hb dX0_nextPhase_101 (by decide) (fun c_9 => absurd c_9 (by decide)) (fun c_9 => ?_)
                refine lv_iconst (v := 3) hx hb dX0_nextPhase_104 (by decide) ?_
                refine lv_goto (tgt := 109) hx hb dX0_nextPhase_105 (by decide) ?_
                exact W.iret (v := 3) hx hb hr (fun t ht hW => ⟨_, rfl, by first | (simp [sPh, c_1, c_2, c_3, c_4, c_5, c_6, c_8]; done) | (simp [sPh, c_1, c_2, c_3, c_4, c_5, c_6, c_8]; rfl), ht⟩) (fun q h => absurd h List.not_mem_nil) dX0_nextPhase_109
              · skip
                refine lv_aload_n hx hb dX0_nextPhase_75 rfl (lv_at hl 0 rfl) ?_
                refine va_get (D := D) (ci := 0) (v := .int (ph (i + 1))) (C := RX0) (T := TX0) (N := 6) hx hb hts (by decide +kernel) hown hK hP (i + 2) (cw_at hi) rfl 2 (by decide) (hts _ hm6) (fun _ h9 => h9) rfl dX0_nextPhase_76 ?_
                refine lv_iconst (v := 3) hx hb dX0_nextPhase_79 (by decide) ?_
                refine lv_icmp_ne (tgt := 96) hx hb dX0_nextPhase_80 (by decide) (fun c_10 => ?_) (fun c_10 => ?_)
                · skip
                  refine lv_iconst (v := 0) hx hb dX0_nextPhase_96 (by decide) ?_
                  refine lv_istore (lv' := [(5, .int 0), (0, .ref (q i)), (1, .long ped), (3, .long rfA)]) hx hb dX0_nextPhase_97 hl (by decide) rfl (fun ls hl => ?_)
                  refine lv_iload hx hb dX0_nextPhase_99 (lv_at hl 0 rfl) ?_
                  refine lv_if_eq (tgt := 108) hx hb dX0_nextPhase_101 (by decide) (fun c_11 => ?_) (fun c_11 => absurd (by decide) c_11)
                  refine lv_iconst (v := 0) hx hb dX0_nextPhase_108 (by decide) ?_
                  exact W.iret (v := 0) hx hb hr (fun t ht hW => ⟨_, rfl, by first | (simp [sPh, c_1, c_2, c_3, c_4, c_5, c_6, c_8, c_10]; done) | (simp [sPh, c_1, c_2, c_3, c_4, c_5, c_6, c_8, c_10]; rfl), ht⟩) (fun q h => absurd h List.not_mem_nil) dX0_nextPhase_109
                · skip
                  refine lv_aload_n hx hb dX0_nextPhase_83 rfl (lv_at hl 0 rfl) ?_
                  refine va_get (D := D) (ci := 0) (v := .long (pr (i + 1))) (C := RX0) (T := TX0) (N := 6) hx hb hts (by decide +kernel) hown hK hP (i + 2) (cw_at hi) rfl 3 (by decide) (hts _ hm7) (fun _ h9 => h9) rfl dX0_nextPhase_84 ?_
                  refine lv_lload_n hx hb dX0_nextPhase_87 rfl (lv_at hl 1 rfl) ?_
                  refine W.lcmp hx hb dX0_nextPhase_88 ?_
                  refine lv_if_ge (tgt := 96) hx hb dX0_nextPhase_89 (by decide) (fun c_12 => ?_) (fun c_12 => ?_)
                  · skip
                    replace c_12 := (lg_cmp_ge _ _).mp c_12
                    refine lv_iconst (v := 0) hx hb dX0_nextPhase_96 (by decide) ?_
                    refine lv_istore (lv' := [(5, .int 0), (0, .ref (q i)), (1, .long ped), (3, .long rfA)]) hx hb dX0_nextPhase_97 hl (by decide) rfl (fun ls hl => ?_)
                    refine lv_iload hx hb dX0_nextPhase_99 (lv_at hl 0 rfl) ?_
                    refine lv_if_eq (tgt := 108) hx hb dX0_nextPhase_101 (by decide) (fun c_13 => ?_) (fun c_13 => absurd (by decide) c_13)
                    refine lv_iconst (v := 0) hx hb dX0_nextPhase_108 (by decide) ?_
                    exact W.iret (v := 0) hx hb hr (fun t ht hW => ⟨_, rfl, by first | (simp [sPh, c_1, c_2, c_3, c_4, c_5, c_6, c_8, c_10, c_12]; done) | (simp [sPh, c_1, c_2, c_3, c_4, c_5, c_6, c_8, c_10, c_12]; rfl), ht⟩) (fun q h => absurd h List.not_mem_nil) dX0_nextPhase_109
                  · skip
                    replace c_12 := mt (lg_cmp_ge _ _).mpr c_12
                    refine lv_iconst (v := 1) hx hb dX0_nextPhase_92 (by decide) ?_
                    refine lv_goto (tgt := 97) hx hb dX0_nextPhase_93 (by decide) ?_
                    refine lv_istore (lv' := [(5, .int 1), (0, .ref (q i)), (1, .long ped), (3, .long rfA)]) hx hb dX0_nextPhase_97 hl (by decide) rfl (fun ls hl => ?_)
                    refine lv_iload hx hb dX0_nextPhase_99 (lv_at hl 0 rfl) ?_
                    refine lv_if_eq (tgt := 108) hx hb dX0_nextPhase_101 (by decide) (fun c_14 => absurd c_14 (by decide)) (fun c_14 => ?_)
                    refine lv_iconst (v := 3) hx hb dX0_nextPhase_104 (by decide) ?_
                    refine lv_goto (tgt := 109) hx hb dX0_nextPhase_105 (by decide) ?_
                    exact W.iret (v := 3) hx hb hr (fun t ht hW => ⟨_, rfl, by first | (simp [sPh, c_1, c_2, c_3, c_4, c_5, c_6, c_8, c_10, c_12]; done) | (simp [sPh, c_1, c_2, c_3, c_4, c_5, c_6, c_8, c_10, c_12]; rfl), ht⟩) (fun q h => absurd h List.not_mem_nil) dX0_nextPhase_109
          · skip
            replace c_5 := mt (lg_cmp_ge _ _).mpr c_5
            refine lv_iconst (v := 1) hx hb dX0_nextPhase_57 (by decide) ?_
            exact W.iret (v := 1) hx hb hr (fun t ht hW => ⟨_, rfl, by first | (simp [sPh, c_1, c_2, c_3, c_4, c_5]; done) | (simp [sPh, c_1, c_2, c_3, c_4, c_5]; rfl), ht⟩) (fun q h => absurd h List.not_mem_nil) dX0_nextPhase_58
        · skip
          replace c_4 := mt (lg_cmp_ge _ _).mpr c_4
          refine lv_iconst (v := 2) hx hb dX0_nextPhase_38 (by decide) ?_
          exact W.iret (v := 2) hx hb hr (fun t ht hW => ⟨_, rfl, by first | (simp [sPh, c_1, c_2, c_3, c_4]; done) | (simp [sPh, c_1, c_2, c_3, c_4]; rfl), ht⟩) (fun q h => absurd h List.not_mem_nil) dX0_nextPhase_39
      · skip
        replace c_3 := (lg_cmp_eq _ _).mp c_3
        refine lv_iconst (v := 0) hx hb dX0_nextPhase_19 (by decide) ?_
        exact W.iret (v := 0) hx hb hr (fun t ht hW => ⟨_, rfl, by first | (simp [sPh, c_1, c_2, c_3]; done) | (simp [sPh, c_1, c_2, c_3]; rfl), ht⟩) (fun q h => absurd h List.not_mem_nil) dX0_nextPhase_20
set_option maxHeartbeats 4000000 in
set_option maxRecDepth 100000 in
/-- wantedPressure of wheel i + 1 -/
theorem c0_wanted (l : Launch) (D : va_G) (cW : ClassId) (h0 hw n : Nat) (q : Nat → Nat) (g : Nat → Option Nat) (sp : Nat → Int64) (lo ph : Nat → Int32) (pr bo : Nat → Int64) (mo : Nat → UInt64) (rf : Int64) (hd gr st nx : Int32) (hn : n ≤ 8) (hg : ∀ i, i < n → g i = some (q i)) (i : Nat) (hi : i < n) (ped : Int64) : Met l yX0_wantedPressure wsX0_wantedPressure ({ frames := 1, cells := 0, slots := 0, locals := 23 }) (va_Pc [.ref (q i), .long ped] (xP D [(cW, .object RX0)] (cw h0 hw cW n q g sp lo ph pr bo mo rf hd gr st nx))) (vp_Sl (fun r : Int64 => r = cWant (ph (i + 1)) ped (pr (i + 1)))) 0 0 (fun _ => False) := by
  refine Met.ofW (cc := cX0_wantedPressure) (maxL := 3) (ret := (some .long)) (by decide) rfl ?_
  intro p e s m args below meth c s₁ B hml hv
  obtain ⟨rfl, hP, hK, hN⟩ := hv
  have hx := B.exec
  have hb := B.bytes
  have hr := B.returns
  have hts := atoms_spec (ws := wsX0_wantedPressure) B.pre
  have hown : s.vm.findClass RX0 = some m.cls := findClass_of_methodNamed B.named
  have hlocks := B.notSynchronized
  have hm1 : (.fieldLink RX0 9 "GearBrake$Wheel" "phase" "I" : Cond) ∈ wsX0_wantedPressure := by decide +kernel
  have hm2 : (.fieldLink RX0 52 "GearBrake$Wheel" "pressure" "J" : Cond) ∈ wsX0_wantedPressure := by decide +kernel
  have hm3 : (.constantLong RX0 55 (10) : Cond) ∈ wsX0_wantedPressure := by decide +kernel
  have hm4 : (.methodLink RX0 31 Lib.MathLoose.max_long.x : Cond) ∈ wsX0_wantedPressure := by decide +kernel
  have hm5 : (.static Lib.MathLoose.max_long.x : Cond) ∈ wsX0_wantedPressure := by decide +kernel
  have hm6 : (.initialized "java/lang/Math" : Cond) ∈ wsX0_wantedPressure := by decide +kernel
  have hm7 : (.code Lib.MathLoose.max_long.x Lib.MathLoose.max_long.code 4 (some .long) : Cond) ∈ wsX0_wantedPressure := by decide +kernel
  have hm8 : (.constantLong RX0 57 (5) : Cond) ∈ wsX0_wantedPressure := by decide +kernel
  have hm9 : (.methodLink RX0 59 Lib.MathLoose.min_long.x : Cond) ∈ wsX0_wantedPressure := by decide +kernel
  have hm10 : (.static Lib.MathLoose.min_long.x : Cond) ∈ wsX0_wantedPressure := by decide +kernel
  have hm11 : (.code Lib.MathLoose.min_long.x Lib.MathLoose.min_long.code 4 (some .long) : Cond) ∈ wsX0_wantedPressure := by decide +kernel
  have hl := lv_entry ([.ref (q i), .long ped]) (n := 3) (Nat.le_of_ble_eq_true rfl)
  rw [lg_entry_eq]
  generalize (lg_sl ([.ref (q i), .long ped]) ++ List.replicate (3 - (lg_sl ([.ref (q i), .long ped])).length) Slot.unset).toArray = ls at hl ⊢
  replace hl : lv_has ls 3 [(0, .ref (q i)), (1, .long ped)] := hl
  refine lv_aload_n hx hb dX0_wantedPressure_0 rfl (lv_at hl 0 rfl) ?_
  refine va_get (D := D) (ci := 0) (v := .int (ph (i + 1))) (C := RX0) (T := TX0) (N := 6) hx hb hts (by decide +kernel) hown hK hP (i + 2) (cw_at hi) rfl 2 (by decide) (hts _ hm1) (fun _ h9 => h9) rfl dX0_wantedPressure_1 ?_
  by_cases k0 : (ph (i + 1)) < 1 ∨ 3 < (ph (i + 1))
  · skip
    refine lv_tableOut (tgt := 63) hx hb dX0_wantedPressure_4 (sw_out k0) (by decide) ?_
    refine lv_lload_n hx hb dX0_wantedPressure_63 rfl (lv_at hl 1 rfl) ?_
    exact W.lret (v := ped) hx hb hr (fun t ht hW => ⟨_, rfl, by first | (simp [cWant, sw_n1 k0, sw_n2 k0, sw_n3 k0]; done) | (simp [cWant, sw_n1 k0, sw_n2 k0, sw_n3 k0]; rfl), ht⟩) (fun q h => absurd h List.not_mem_nil) dX0_wantedPressure_64
  · skip
    rcases sw_in k0 with k1 | k1 | k1
    · skip
      refine lv_tableIn (off := 28) (tgt := 32) hx hb dX0_wantedPressure_4 (by rw [k1]; decide) (by rw [k1]; decide) (by rw [k1]; rfl) (by decide) ?_
      refine lv_aload_n hx hb dX0_wantedPressure_32 rfl (lv_at hl 0 rfl) ?_
      refine va_get (D := D) (ci := 0) (v := .long (pr (i + 1))) (C := RX0) (T := TX0) (N := 6) hx hb hts (by decide +kernel) hown hK hP (i + 2) (cw_at hi) rfl 3 (by decide) (hts _ hm2) (fun _ h9 => h9) rfl dX0_wantedPressure_33 ?_
      exact W.lret (v := (pr (i + 1))) hx hb hr (fun t ht hW => ⟨_, rfl, by first | (simp [cWant, k1]; done) | (simp [cWant, k1]; rfl), ht⟩) (fun q h => absurd h List.not_mem_nil) dX0_wantedPressure_36
    · skip
      refine lv_tableIn (off := 33) (tgt := 37) hx hb dX0_wantedPressure_4 (by rw [k1]; decide) (by rw [k1]; decide) (by rw [k1]; rfl) (by decide) ?_
      refine lv_aload_n hx hb dX0_wantedPressure_37 rfl (lv_at hl 0 rfl) ?_
      refine va_get (D := D) (ci := 0) (v := .long (pr (i + 1))) (C := RX0) (T := TX0) (N := 6) hx hb hts (by decide +kernel) hown hK hP (i + 2) (cw_at hi) rfl 3 (by decide) (hts _ hm2) (fun _ h9 => h9) rfl dX0_wantedPressure_38 ?_
      refine lv_ldc2 hx hb hown (hts _ hm3) dX0_wantedPressure_41 ?_
      refine lv_lsub hx hb dX0_wantedPressure_44 ?_
      refine lv_lconst (v := 0) hx hb dX0_wantedPressure_45 (by decide) ?_
      refine va_mmax_long hx hb (by rw [hml]; exact hl.1.symm) hown (hts _ hm4) (hts _ hm5) (hts _ hm6) (hts _ hm7) (Nat.le_of_ble_eq_true rfl) (Nat.le_of_ble_eq_true rfl) (Nat.le_of_ble_eq_true rfl) (Nat.le_of_ble_eq_true rfl) dX0_wantedPressure_46 ?_
      exact W.lret (v := (if 0 < ((pr (i + 1)) - 10) then ((pr (i + 1)) - 10) else 0)) hx hb hr (fun t ht hW => ⟨_, rfl, by first | (simp [cWant, k1]; done) | (simp [cWant, k1]; rfl), ht⟩) (fun q h => absurd h List.not_mem_nil) dX0_wantedPressure_49
    · skip
      refine lv_tableIn (off := 46) (tgt := 50) hx hb dX0_wantedPressure_4 (by rw [k1]; decide) (by rw [k1]; decide) (by rw [k1]; rfl) (by decide) ?_
      refine lv_aload_n hx hb dX0_wantedPressure_50 rfl (lv_at hl 0 rfl) ?_
      refine va_get (D := D) (ci := 0) (v := .long (pr (i + 1))) (C := RX0) (T := TX0) (N := 6) hx hb hts (by decide +kernel) hown hK hP (i + 2) (cw_at hi) rfl 3 (by decide) (hts _ hm2) (fun _ h9 => h9) rfl dX0_wantedPressure_51 ?_
      refine lv_ldc2 hx hb hown (hts _ hm8) dX0_wantedPressure_54 ?_
      refine lv_ladd hx hb dX0_wantedPressure_57 ?_
      refine lv_lload_n hx hb dX0_wantedPressure_58 rfl (lv_at hl 1 rfl) ?_
      refine va_mmin_long hx hb (by rw [hml]; exact hl.1.symm) hown (hts _ hm9) (hts _ hm10) (hts _ hm6) (hts _ hm11) (Nat.le_of_ble_eq_true rfl) (Nat.le_of_ble_eq_true rfl) (Nat.le_of_ble_eq_true rfl) (Nat.le_of_ble_eq_true rfl) dX0_wantedPressure_59 ?_
      exact W.lret (v := (if ped < ((pr (i + 1)) + 5) then ped else ((pr (i + 1)) + 5))) hx hb hr (fun t ht hW => ⟨_, rfl, by first | (simp [cWant, k1]; done) | (simp [cWant, k1]; rfl), ht⟩) (fun q h => absurd h List.not_mem_nil) dX0_wantedPressure_62
set_option maxHeartbeats 4000000 in
set_option maxRecDepth 100000 in
/-- phase -/
theorem c1_phase (l : Launch) (D : va_G) (cW : ClassId) (h0 hw n : Nat) (q : Nat → Nat) (g : Nat → Option Nat) (sp : Nat → Int64) (lo ph : Nat → Int32) (pr bo : Nat → Int64) (mo : Nat → UInt64) (rf : Int64) (hd gr st nx : Int32) (hn : n ≤ 8) (hg : ∀ i, i < n → g i = some (q i)) (w : Int32) : Met l yX1_phase wsX1_phase ({ frames := 1, cells := 0, slots := 0, locals := 21 }) (va_Pc [.ref h0, .int w] (xP D [(cW, .object RX0)] (cw h0 hw cW n q g sp lo ph pr bo mo rf hd gr st nx))) (vp_Si (fun r : Int32 => r = if wOut n w then -1 else ph w.toNatClampNeg)) 0 0 (fun _ => False) := by
  rcases w_io n w hn with hwo | ⟨i, hi, rfl⟩
  · skip
    refine Met.ofW (cc := cX1_phase) (maxL := 3) (ret := (some .int)) (by decide) rfl ?_
    intro p e s m args below meth c s₁ B hml hv
    obtain ⟨rfl, hP, hK, hN⟩ := hv
    have hx := B.exec
    have hb := B.bytes
    have hr := B.returns
    have hts := atoms_spec (ws := wsX1_phase) B.pre
    have hown : s.vm.findClass RX1 = some m.cls := findClass_of_methodNamed B.named
    have hlocks := B.notSynchronized
    have hl := lv_entry ([.ref h0, .int w]) (n := 3) (Nat.le_of_ble_eq_true rfl)
    rw [lg_entry_eq]
    generalize (lg_sl ([.ref h0, .int w]) ++ List.replicate (3 - (lg_sl ([.ref h0, .int w])).length) Slot.unset).toArray = ls at hl ⊢
    replace hl : lv_has ls 3 [(0, .ref h0), (1, .int w)] := hl
    refine lv_aload_n hx hb dX1_phase_0 rfl (lv_at hl 0 rfl) ?_
    refine lv_iload_n hx hb dX1_phase_1 rfl (lv_at hl 1 rfl) ?_
    refine va_csq (W.runV (As := [.int w]) (rest := []) ⟨hx, hb, hml, hown, hts⟩ (c1_find_out l D cW h0 hw n q g sp lo ph pr bo mo rf hd gr st nx hn hg w hwo) (cwV 1 hts gX1_phase_X1_find rfl rfl rfl (by decide +kernel) ⟨Nat.le_of_ble_eq_true rfl, Nat.le_of_ble_eq_true rfl⟩) ⟨xP_blind, va_recv hK hP (ci := 1) (q0 := 0) rfl rfl, xP_at hP hK hN⟩ rfl rfl hl.1 rfl (lv_room (Nat.le_of_ble_eq_true rfl)) dX1_phase_2 ⟨Nat.le_of_ble_eq_true rfl, Nat.le_of_ble_eq_true rfl⟩) (fun r_1 hr_2 => ?_)
    subst hr_2
    refine W.eq (g2 := F0 m 5 ls [.null]) rfl ?_
    refine lv_astore_nN (lv' := [(2, .null), (0, .ref h0), (1, .int w)]) hx hb dX1_phase_5 rfl hl (by decide) rfl (fun ls hl => ?_)
    refine lv_aload_nN hx hb dX1_phase_6 rfl (lv_at hl 0 rfl) ?_
    refine lv_ifnonnullN hx hb dX1_phase_7 ?_
    refine lv_iconst (v := (-1)) hx hb dX1_phase_10 (by decide) ?_
    refine lv_goto (tgt := 18) hx hb dX1_phase_11 (by decide) ?_
    exact W.iret (v := (-1)) hx hb hr (fun t ht hW => ⟨_, rfl, by rw [if_pos hwo], ht⟩) (fun q h => absurd h List.not_mem_nil) dX1_phase_18
  · skip
    refine Met.ofW (cc := cX1_phase) (maxL := 3) (ret := (some .int)) (by decide) rfl ?_
    intro p e s m args below meth c s₁ B hml hv
    obtain ⟨rfl, hP, hK, hN⟩ := hv
    have hx := B.exec
    have hb := B.bytes
    have hr := B.returns
    have hts := atoms_spec (ws := wsX1_phase) B.pre
    have hown : s.vm.findClass RX1 = some m.cls := findClass_of_methodNamed B.named
    have hlocks := B.notSynchronized
    have hl := lv_entry ([.ref h0, .int (nI (i + 1))]) (n := 3) (Nat.le_of_ble_eq_true rfl)
    rw [lg_entry_eq]
    generalize (lg_sl ([.ref h0, .int (nI (i + 1))]) ++ List.replicate (3 - (lg_sl ([.ref h0, .int (nI (i + 1))])).length) Slot.unset).toArray = ls at hl ⊢
    replace hl : lv_has ls 3 [(0, .ref h0), (1, .int (nI (i + 1)))] := hl
    refine lv_aload_n hx hb dX1_phase_0 rfl (lv_at hl 0 rfl) ?_
    refine lv_iload_n hx hb dX1_phase_1 rfl (lv_at hl 1 rfl) ?_
    refine va_csq (W.runV (As := [.int (nI (i + 1))]) (rest := []) ⟨hx, hb, hml, hown, hts⟩ (c1_find_in l D cW h0 hw n q g sp lo ph pr bo mo rf hd gr st nx hn hg i hi) (cwV 1 hts gX1_phase_X1_find rfl rfl rfl (by decide +kernel) ⟨Nat.le_of_ble_eq_true rfl, Nat.le_of_ble_eq_true rfl⟩) ⟨xP_blind, va_recv hK hP (ci := 1) (q0 := 0) rfl rfl, xP_at hP hK hN⟩ rfl rfl hl.1 rfl (lv_room (Nat.le_of_ble_eq_true rfl)) dX1_phase_2 ⟨Nat.le_of_ble_eq_true rfl, Nat.le_of_ble_eq_true rfl⟩) (fun r_1 hr_2 => ?_)
    subst hr_2
    refine W.eq (g2 := F0 m 5 ls [.ref (q i)]) rfl ?_
    refine lv_astore_n (lv' := [(2, .ref (q i)), (0, .ref h0), (1, .int (nI (i + 1)))]) hx hb dX1_phase_5 rfl hl (by decide) rfl (fun ls hl => ?_)
    refine lv_aload_n hx hb dX1_phase_6 rfl (lv_at hl 0 rfl) ?_
    refine lv_ifnonnull (tgt := 14) hx hb dX1_phase_7 (by decide) ?_
    refine lv_aload_n hx hb dX1_phase_14 rfl (lv_at hl 0 rfl) ?_
    refine va_getN (D := D) (ci := 0) (v := .int (ph (i + 1))) (C := RX0) (T := TX0) (N := 6) hx hb hts (by decide +kernel) hown hK hP (i + 2) (cw_at hi) rfl 2 (by decide) (va_Nw.use rfl hN.2.2.1) (fun _ h9 => h9) rfl dX1_phase_15 ?_
    exact W.iret (v := (ph (i + 1))) hx hb hr (fun t ht hW => ⟨_, rfl, by rw [if_neg (wOut_in hn hi), wIx hn hi], ht⟩) (fun q h => absurd h List.not_mem_nil) dX1_phase_18
set_option maxHeartbeats 4000000 in
set_option maxRecDepth 100000 in
/-- pressure -/
theorem c1_pressure (l : Launch) (D : va_G) (cW : ClassId) (h0 hw n : Nat) (q : Nat → Nat) (g : Nat → Option Nat) (sp : Nat → Int64) (lo ph : Nat → Int32) (pr bo : Nat → Int64) (mo : Nat → UInt64) (rf : Int64) (hd gr st nx : Int32) (hn : n ≤ 8) (hg : ∀ i, i < n → g i = some (q i)) (w : Int32) : Met l yX1_pressure wsX1_pressure ({ frames := 1, cells := 0, slots := 0, locals := 21 }) (va_Pc [.ref h0, .int w] (xP D [(cW, .object RX0)] (cw h0 hw cW n q g sp lo ph pr bo mo rf hd gr st nx))) (vp_Sl (fun r : Int64 => r = if wOut n w then -1 else pr w.toNatClampNeg)) 0 0 (fun _ => False) := by
  rcases w_io n w hn with hwo | ⟨i, hi, rfl⟩
  · skip
    refine Met.ofW (cc := cX1_pressure) (maxL := 3) (ret := (some .long)) (by decide) rfl ?_
    intro p e s m args below meth c s₁ B hml hv
    obtain ⟨rfl, hP, hK, hN⟩ := hv
    have hx := B.exec
    have hb := B.bytes
    have hr := B.returns
    have hts := atoms_spec (ws := wsX1_pressure) B.pre
    have hown : s.vm.findClass RX1 = some m.cls := findClass_of_methodNamed B.named
    have hlocks := B.notSynchronized
    have hm1 : (.constantLong RX1 70 (-1) : Cond) ∈ wsX1_pressure := by decide +kernel
    have hl := lv_entry ([.ref h0, .int w]) (n := 3) (Nat.le_of_ble_eq_true rfl)
    rw [lg_entry_eq]
    generalize (lg_sl ([.ref h0, .int w]) ++ List.replicate (3 - (lg_sl ([.ref h0, .int w])).length) Slot.unset).toArray = ls at hl ⊢
    replace hl : lv_has ls 3 [(0, .ref h0), (1, .int w)] := hl
    refine lv_aload_n hx hb dX1_pressure_0 rfl (lv_at hl 0 rfl) ?_
    refine lv_iload_n hx hb dX1_pressure_1 rfl (lv_at hl 1 rfl) ?_
    refine va_csq (W.runV (As := [.int w]) (rest := []) ⟨hx, hb, hml, hown, hts⟩ (c1_find_out l D cW h0 hw n q g sp lo ph pr bo mo rf hd gr st nx hn hg w hwo) (cwV 1 hts gX1_pressure_X1_find rfl rfl rfl (by decide +kernel) ⟨Nat.le_of_ble_eq_true rfl, Nat.le_of_ble_eq_true rfl⟩) ⟨xP_blind, va_recv hK hP (ci := 1) (q0 := 0) rfl rfl, xP_at hP hK hN⟩ rfl rfl hl.1 rfl (lv_room (Nat.le_of_ble_eq_true rfl)) dX1_pressure_2 ⟨Nat.le_of_ble_eq_true rfl, Nat.le_of_ble_eq_true rfl⟩) (fun r_1 hr_2 => ?_)
    subst hr_2
    refine W.eq (g2 := F0 m 5 ls [.null]) rfl ?_
    refine lv_astore_nN (lv' := [(2, .null), (0, .ref h0), (1, .int w)]) hx hb dX1_pressure_5 rfl hl (by decide) rfl (fun ls hl => ?_)
    refine lv_aload_nN hx hb dX1_pressure_6 rfl (lv_at hl 0 rfl) ?_
    refine lv_ifnonnullN hx hb dX1_pressure_7 ?_
    refine lv_ldc2 hx hb hown (hts _ hm1) dX1_pressure_10 ?_
    refine lv_goto (tgt := 20) hx hb dX1_pressure_13 (by decide) ?_
    exact W.lret (v := (-1)) hx hb hr (fun t ht hW => ⟨_, rfl, by rw [if_pos hwo], ht⟩) (fun q h => absurd h List.not_mem_nil) dX1_pressure_20
  · skip
    refine Met.ofW (cc := cX1_pressure) (maxL := 3) (ret := (some .long)) (by decide) rfl ?_
    intro p e s m args below meth c s₁ B hml hv
    obtain ⟨rfl, hP, hK, hN⟩ := hv
    have hx := B.exec
    have hb := B.bytes
    have hr := B.returns
    have hts := atoms_spec (ws := wsX1_pressure) B.pre
    have hown : s.vm.findClass RX1 = some m.cls := findClass_of_methodNamed B.named
    have hlocks := B.notSynchronized
    have hl := lv_entry ([.ref h0, .int (nI (i + 1))]) (n := 3) (Nat.le_of_ble_eq_true rfl)
    rw [lg_entry_eq]
    generalize (lg_sl ([.ref h0, .int (nI (i + 1))]) ++ List.replicate (3 - (lg_sl ([.ref h0, .int (nI (i + 1))])).length) Slot.unset).toArray = ls at hl ⊢
    replace hl : lv_has ls 3 [(0, .ref h0), (1, .int (nI (i + 1)))] := hl
    refine lv_aload_n hx hb dX1_pressure_0 rfl (lv_at hl 0 rfl) ?_
    refine lv_iload_n hx hb dX1_pressure_1 rfl (lv_at hl 1 rfl) ?_
    refine va_csq (W.runV (As := [.int (nI (i + 1))]) (rest := []) ⟨hx, hb, hml, hown, hts⟩ (c1_find_in l D cW h0 hw n q g sp lo ph pr bo mo rf hd gr st nx hn hg i hi) (cwV 1 hts gX1_pressure_X1_find rfl rfl rfl (by decide +kernel) ⟨Nat.le_of_ble_eq_true rfl, Nat.le_of_ble_eq_true rfl⟩) ⟨xP_blind, va_recv hK hP (ci := 1) (q0 := 0) rfl rfl, xP_at hP hK hN⟩ rfl rfl hl.1 rfl (lv_room (Nat.le_of_ble_eq_true rfl)) dX1_pressure_2 ⟨Nat.le_of_ble_eq_true rfl, Nat.le_of_ble_eq_true rfl⟩) (fun r_1 hr_2 => ?_)
    subst hr_2
    refine W.eq (g2 := F0 m 5 ls [.ref (q i)]) rfl ?_
    refine lv_astore_n (lv' := [(2, .ref (q i)), (0, .ref h0), (1, .int (nI (i + 1)))]) hx hb dX1_pressure_5 rfl hl (by decide) rfl (fun ls hl => ?_)
    refine lv_aload_n hx hb dX1_pressure_6 rfl (lv_at hl 0 rfl) ?_
    refine lv_ifnonnull (tgt := 16) hx hb dX1_pressure_7 (by decide) ?_
    refine lv_aload_n hx hb dX1_pressure_16 rfl (lv_at hl 0 rfl) ?_
    refine va_getN (D := D) (ci := 0) (v := .long (pr (i + 1))) (C := RX0) (T := TX0) (N := 6) hx hb hts (by decide +kernel) hown hK hP (i + 2) (cw_at hi) rfl 3 (by decide) (va_Nw.use rfl hN.2.2.2.1) (fun _ h9 => h9) rfl dX1_pressure_17 ?_
    exact W.lret (v := (pr (i + 1))) hx hb hr (fun t ht hW => ⟨_, rfl, by rw [if_neg (wOut_in hn hi), wIx hn hi], ht⟩) (fun q h => absurd h List.not_mem_nil) dX1_pressure_20
set_option maxHeartbeats 4000000 in
set_option maxRecDepth 100000 in
/-- plant -/
theorem c1_plant (l : Launch) (D : va_G) (cW : ClassId) (h0 hw n : Nat) (q : Nat → Nat) (g : Nat → Option Nat) (sp : Nat → Int64) (lo ph : Nat → Int32) (pr bo : Nat → Int64) (mo : Nat → UInt64) (rf : Int64) (hd gr st nx : Int32) (hn : n ≤ 8) (hg : ∀ i, i < n → g i = some (q i)) (w : Int32) : Met l yX1_plant wsX1_plant ({ frames := 1, cells := 0, slots := 0, locals := 21 }) (va_Pc [.ref h0, .int w] (xP D [(cW, .object RX0)] (cw h0 hw cW n q g sp lo ph pr bo mo rf hd gr st nx))) (vp_Sd (fun r : UInt64 => r = if wOut n w then FP.dconst0 else mo w.toNatClampNeg)) 0 0 (fun _ => False) := by
  rcases w_io n w hn with hwo | ⟨i, hi, rfl⟩
  · skip
    refine Met.ofW (cc := cX1_plant) (maxL := 3) (ret := (some .double)) (by decide) rfl ?_
    intro p e s m args below meth c s₁ B hml hv
    obtain ⟨rfl, hP, hK, hN⟩ := hv
    have hx := B.exec
    have hb := B.bytes
    have hr := B.returns
    have hts := atoms_spec (ws := wsX1_plant) B.pre
    have hown : s.vm.findClass RX1 = some m.cls := findClass_of_methodNamed B.named
    have hlocks := B.notSynchronized
    have hl := lv_entry ([.ref h0, .int w]) (n := 3) (Nat.le_of_ble_eq_true rfl)
    rw [lg_entry_eq]
    generalize (lg_sl ([.ref h0, .int w]) ++ List.replicate (3 - (lg_sl ([.ref h0, .int w])).length) Slot.unset).toArray = ls at hl ⊢
    replace hl : lv_has ls 3 [(0, .ref h0), (1, .int w)] := hl
    refine lv_aload_n hx hb dX1_plant_0 rfl (lv_at hl 0 rfl) ?_
    refine lv_iload_n hx hb dX1_plant_1 rfl (lv_at hl 1 rfl) ?_
    refine va_csq (W.runV (As := [.int w]) (rest := []) ⟨hx, hb, hml, hown, hts⟩ (c1_find_out l D cW h0 hw n q g sp lo ph pr bo mo rf hd gr st nx hn hg w hwo) (cwV 1 hts gX1_plant_X1_find rfl rfl rfl (by decide +kernel) ⟨Nat.le_of_ble_eq_true rfl, Nat.le_of_ble_eq_true rfl⟩) ⟨xP_blind, va_recv hK hP (ci := 1) (q0 := 0) rfl rfl, xP_at hP hK hN⟩ rfl rfl hl.1 rfl (lv_room (Nat.le_of_ble_eq_true rfl)) dX1_plant_2 ⟨Nat.le_of_ble_eq_true rfl, Nat.le_of_ble_eq_true rfl⟩) (fun r_1 hr_2 => ?_)
    subst hr_2
    refine W.eq (g2 := F0 m 5 ls [.null]) rfl ?_
    refine lv_astore_nN (lv' := [(2, .null), (0, .ref h0), (1, .int w)]) hx hb dX1_plant_5 rfl hl (by decide) rfl (fun ls hl => ?_)
    refine lv_aload_nN hx hb dX1_plant_6 rfl (lv_at hl 0 rfl) ?_
    refine lv_ifnonnullN hx hb dX1_plant_7 ?_
    refine lv_dconst0 hx hb dX1_plant_10 ?_
    refine lv_goto (tgt := 18) hx hb dX1_plant_11 (by decide) ?_
    exact W.dret (v := FP.dconst0) hx hb hr (fun t ht hW => ⟨_, rfl, by rw [if_pos hwo], ht⟩) (fun q h => absurd h List.not_mem_nil) dX1_plant_18
  · skip
    refine Met.ofW (cc := cX1_plant) (maxL := 3) (ret := (some .double)) (by decide) rfl ?_
    intro p e s m args below meth c s₁ B hml hv
    obtain ⟨rfl, hP, hK, hN⟩ := hv
    have hx := B.exec
    have hb := B.bytes
    have hr := B.returns
    have hts := atoms_spec (ws := wsX1_plant) B.pre
    have hown : s.vm.findClass RX1 = some m.cls := findClass_of_methodNamed B.named
    have hlocks := B.notSynchronized
    have hl := lv_entry ([.ref h0, .int (nI (i + 1))]) (n := 3) (Nat.le_of_ble_eq_true rfl)
    rw [lg_entry_eq]
    generalize (lg_sl ([.ref h0, .int (nI (i + 1))]) ++ List.replicate (3 - (lg_sl ([.ref h0, .int (nI (i + 1))])).length) Slot.unset).toArray = ls at hl ⊢
    replace hl : lv_has ls 3 [(0, .ref h0), (1, .int (nI (i + 1)))] := hl
    refine lv_aload_n hx hb dX1_plant_0 rfl (lv_at hl 0 rfl) ?_
    refine lv_iload_n hx hb dX1_plant_1 rfl (lv_at hl 1 rfl) ?_
    refine va_csq (W.runV (As := [.int (nI (i + 1))]) (rest := []) ⟨hx, hb, hml, hown, hts⟩ (c1_find_in l D cW h0 hw n q g sp lo ph pr bo mo rf hd gr st nx hn hg i hi) (cwV 1 hts gX1_plant_X1_find rfl rfl rfl (by decide +kernel) ⟨Nat.le_of_ble_eq_true rfl, Nat.le_of_ble_eq_true rfl⟩) ⟨xP_blind, va_recv hK hP (ci := 1) (q0 := 0) rfl rfl, xP_at hP hK hN⟩ rfl rfl hl.1 rfl (lv_room (Nat.le_of_ble_eq_true rfl)) dX1_plant_2 ⟨Nat.le_of_ble_eq_true rfl, Nat.le_of_ble_eq_true rfl⟩) (fun r_1 hr_2 => ?_)
    subst hr_2
    refine W.eq (g2 := F0 m 5 ls [.ref (q i)]) rfl ?_
    refine lv_astore_n (lv' := [(2, .ref (q i)), (0, .ref h0), (1, .int (nI (i + 1)))]) hx hb dX1_plant_5 rfl hl (by decide) rfl (fun ls hl => ?_)
    refine lv_aload_n hx hb dX1_plant_6 rfl (lv_at hl 0 rfl) ?_
    refine lv_ifnonnull (tgt := 14) hx hb dX1_plant_7 (by decide) ?_
    refine lv_aload_n hx hb dX1_plant_14 rfl (lv_at hl 0 rfl) ?_
    refine va_getN (D := D) (ci := 0) (v := .double (mo (i + 1))) (C := RX0) (T := TX0) (N := 6) hx hb hts (by decide +kernel) hown hK hP (i + 2) (cw_at hi) rfl 5 (by decide) (va_Nw.use rfl hN.2.2.2.2.2.1) (fun _ h9 => h9) rfl dX1_plant_15 ?_
    exact W.dret (v := (mo (i + 1))) hx hb hr (fun t ht hW => ⟨_, rfl, by rw [if_neg (wOut_in hn hi), wIx hn hi], ht⟩) (fun q h => absurd h List.not_mem_nil) dX1_plant_18
set_option maxHeartbeats 4000000 in
set_option maxRecDepth 100000 in
/-- gear -/
theorem c1_gear (l : Launch) (D : va_G) (cW : ClassId) (h0 hw n : Nat) (q : Nat → Nat) (g : Nat → Option Nat) (sp : Nat → Int64) (lo ph : Nat → Int32) (pr bo : Nat → Int64) (mo : Nat → UInt64) (rf : Int64) (hd gr st nx : Int32) (hn : n ≤ 8) (hg : ∀ i, i < n → g i = some (q i)) : Met l yX1_gear wsX1_gear ({ frames := 0, cells := 0, slots := 0, locals := 0 }) (va_Pc [.ref h0] (xP D [(cW, .object RX0)] (cw h0 hw cW n q g sp lo ph pr bo mo rf hd gr st nx))) (vp_Si (fun r : Int32 => r = gr)) 0 0 (fun _ => False) := by
  refine Met.ofW (cc := cX1_gear) (maxL := 1) (ret := (some .int)) (by decide) rfl ?_
  intro p e s m args below meth c s₁ B hml hv
  obtain ⟨rfl, hP, hK, hN⟩ := hv
  have hx := B.exec
  have hb := B.bytes
  have hr := B.returns
  have hts := atoms_spec (ws := wsX1_gear) B.pre
  have hown : s.vm.findClass RX1 = some m.cls := findClass_of_methodNamed B.named
  have hlocks := B.notSynchronized
  have hm1 : (.fieldLink RX1 16 "GearBrake" "gear" "I" : Cond) ∈ wsX1_gear := by decide +kernel
  have hl := lv_entry ([.ref h0]) (n := 1) (Nat.le_of_ble_eq_true rfl)
  rw [lg_entry_eq]
  generalize (lg_sl ([.ref h0]) ++ List.replicate (1 - (lg_sl ([.ref h0])).length) Slot.unset).toArray = ls at hl ⊢
  replace hl : lv_has ls 1 [(0, .ref h0)] := hl
  refine lv_aload_n hx hb dX1_gear_0 rfl (lv_at hl 0 rfl) ?_
  refine va_get (D := D) (ci := 1) (v := .int gr) (C := RX1) (T := TX1) (N := 6) hx hb hts (by decide +kernel) hown hK hP 0 rfl rfl 3 (by decide) (hts _ hm1) (fun _ h9 => h9) rfl dX1_gear_1 ?_
  exact W.iret (v := gr) hx hb hr (fun t ht hW => ⟨_, rfl, rfl, ht⟩) (fun q h => absurd h List.not_mem_nil) dX1_gear_4
set_option maxHeartbeats 4000000 in
set_option maxRecDepth 100000 in
/-- reference -/
theorem c1_reference (l : Launch) (D : va_G) (cW : ClassId) (h0 hw n : Nat) (q : Nat → Nat) (g : Nat → Option Nat) (sp : Nat → Int64) (lo ph : Nat → Int32) (pr bo : Nat → Int64) (mo : Nat → UInt64) (rf : Int64) (hd gr st nx : Int32) (hn : n ≤ 8) (hg : ∀ i, i < n → g i = some (q i)) : Met l yX1_reference wsX1_reference ({ frames := 0, cells := 0, slots := 0, locals := 0 }) (va_Pc [.ref h0] (xP D [(cW, .object RX0)] (cw h0 hw cW n q g sp lo ph pr bo mo rf hd gr st nx))) (vp_Sl (fun r : Int64 => r = rf)) 0 0 (fun _ => False) := by
  refine Met.ofW (cc := cX1_reference) (maxL := 1) (ret := (some .long)) (by decide) rfl ?_
  intro p e s m args below meth c s₁ B hml hv
  obtain ⟨rfl, hP, hK, hN⟩ := hv
  have hx := B.exec
  have hb := B.bytes
  have hr := B.returns
  have hts := atoms_spec (ws := wsX1_reference) B.pre
  have hown : s.vm.findClass RX1 = some m.cls := findClass_of_methodNamed B.named
  have hlocks := B.notSynchronized
  have hm1 : (.fieldLink RX1 47 "GearBrake" "reference" "J" : Cond) ∈ wsX1_reference := by decide +kernel
  have hl := lv_entry ([.ref h0]) (n := 1) (Nat.le_of_ble_eq_true rfl)
  rw [lg_entry_eq]
  generalize (lg_sl ([.ref h0]) ++ List.replicate (1 - (lg_sl ([.ref h0])).length) Slot.unset).toArray = ls at hl ⊢
  replace hl : lv_has ls 1 [(0, .ref h0)] := hl
  refine lv_aload_n hx hb dX1_reference_0 rfl (lv_at hl 0 rfl) ?_
  refine va_get (D := D) (ci := 1) (v := .long rf) (C := RX1) (T := TX1) (N := 6) hx hb hts (by decide +kernel) hown hK hP 0 rfl rfl 1 (by decide) (hts _ hm1) (fun _ h9 => h9) rfl dX1_reference_1 ?_
  exact W.lret (v := rf) hx hb hr (fun t ht hW => ⟨_, rfl, rfl, ht⟩) (fun q h => absurd h List.not_mem_nil) dX1_reference_4
set_option maxHeartbeats 4000000 in
set_option maxRecDepth 100000 in
/-- mode -/
theorem c1_mode (l : Launch) (D : va_G) (cW : ClassId) (h0 hw n : Nat) (q : Nat → Nat) (g : Nat → Option Nat) (sp : Nat → Int64) (lo ph : Nat → Int32) (pr bo : Nat → Int64) (mo : Nat → UInt64) (rf : Int64) (hd gr st nx : Int32) (hn : n ≤ 8) (hg : ∀ i, i < n → g i = some (q i)) : Met l yX1_mode wsX1_mode ({ frames := 1, cells := 0, slots := 0, locals := 22 }) (va_Pc [.ref h0] (xP D [(cW, .object RX0)] (cw h0 hw cW n q g sp lo ph pr bo mo rf hd gr st nx))) (vp_Si (fun r : Int32 => r = if hd = 0 then (if cnt lo n ≤ 0 then 0 else 1) else 2)) 0 0 (fun _ => False) := by
  refine Met.ofW (cc := cX1_mode) (maxL := 1) (ret := (some .int)) (by decide) rfl ?_
  intro p e s m args below meth c s₁ B hml hv
  obtain ⟨rfl, hP, hK, hN⟩ := hv
  have hx := B.exec
  have hb := B.bytes
  have hr := B.returns
  have hts := atoms_spec (ws := wsX1_mode) B.pre
  have hown : s.vm.findClass RX1 = some m.cls := findClass_of_methodNamed B.named
  have hlocks := B.notSynchronized
  have hm1 : (.fieldLink RX1 50 "GearBrake" "held" "Z" : Cond) ∈ wsX1_mode := by decide +kernel
  have hl := lv_entry ([.ref h0]) (n := 1) (Nat.le_of_ble_eq_true rfl)
  rw [lg_entry_eq]
  generalize (lg_sl ([.ref h0]) ++ List.replicate (1 - (lg_sl ([.ref h0])).length) Slot.unset).toArray = ls at hl ⊢
  replace hl : lv_has ls 1 [(0, .ref h0)] := hl
  refine lv_aload_n hx hb dX1_mode_0 rfl (lv_at hl 0 rfl) ?_
  refine va_get (D := D) (ci := 1) (v := .int hd) (C := RX1) (T := TX1) (N := 6) hx hb hts (by decide +kernel) hown hK hP 0 rfl rfl 2 (by decide) (hts _ hm1) (fun _ h9 => h9) rfl dX1_mode_1 ?_
  refine lv_if_eq (tgt := 9) hx hb dX1_mode_4 (by decide) (fun c_1 => ?_) (fun c_1 => ?_)
  · skip
    refine lv_aload_n hx hb dX1_mode_9 rfl (lv_at hl 0 rfl) ?_
    refine vp_callSi (W.runV (As := []) (rest := []) ⟨hx, hb, hml, hown, hts⟩ (c1_countLost l D cW h0 hw n q g sp lo ph pr bo mo rf hd gr st nx hn hg) (cwV 0 hts gX1_mode_X1_countLost rfl rfl rfl (by decide +kernel) ⟨Nat.le_of_ble_eq_true rfl, Nat.le_of_ble_eq_true rfl⟩) ⟨xP_blind, va_recv hK hP (ci := 1) (q0 := 0) rfl rfl, xP_at hP hK hN⟩ rfl rfl hl.1 rfl (lv_room (Nat.le_of_ble_eq_true rfl)) dX1_mode_10 ⟨Nat.le_of_ble_eq_true rfl, Nat.le_of_ble_eq_true rfl⟩) (fun r_2 hr_3 => ?_)
    subst hr_3
    refine lv_if_le (tgt := 20) hx hb dX1_mode_13 (by decide) (fun c_4 => ?_) (fun c_4 => ?_)
    · skip
      refine lv_iconst (v := 0) hx hb dX1_mode_20 (by decide) ?_
      exact W.iret (v := 0) hx hb hr (fun t ht hW => ⟨_, rfl, by first | (simp [c_1, c_4]; done) | (simp [c_1, c_4]; rfl), ht⟩) (fun q h => absurd h List.not_mem_nil) dX1_mode_21
    · skip
      refine lv_iconst (v := 1) hx hb dX1_mode_16 (by decide) ?_
      refine lv_goto (tgt := 21) hx hb dX1_mode_17 (by decide) ?_
      exact W.iret (v := 1) hx hb hr (fun t ht hW => ⟨_, rfl, by first | (simp [c_1, c_4]; done) | (simp [c_1, c_4]; rfl), ht⟩) (fun q h => absurd h List.not_mem_nil) dX1_mode_21
  · skip
    refine lv_iconst (v := 2) hx hb dX1_mode_7 (by decide) ?_
    exact W.iret (v := 2) hx hb hr (fun t ht hW => ⟨_, rfl, by first | (simp [c_1]; done) | (simp [c_1]; rfl), ht⟩) (fun q h => absurd h List.not_mem_nil) dX1_mode_8
end
section
/-! ===== the car: methods that write ===== -/
set_option maxHeartbeats 4000000 in
set_option maxRecDepth 100000 in
/-- press of wheel i + 1 -/
theorem c0_press (l : Launch) (D : va_G) (cW : ClassId) (h0 hw n : Nat) (q : Nat → Nat) (g : Nat → Option Nat) (sp : Nat → Int64) (lo ph : Nat → Int32) (pr bo : Nat → Int64) (mo : Nat → UInt64) (rf : Int64) (hd gr st nx : Int32) (hn : n ≤ 8) (hg : ∀ i, i < n → g i = some (q i)) (i : Nat) (hi : i < n) (v : Int64) (sz : Nat) : Met l yX0_press wsX0_press ({ frames := 1, cells := 0, slots := 0, locals := 23 }) (va_Pc [.ref (q i), .long v] (xW D [(cW, .object RX0)] (cw h0 hw cW n q g sp lo ph pr bo mo rf hd gr st nx) sz)) (va_Qv (fun (u : (Nat → Int64)) => u = va_up pr (i + 1) (cMin v (bo (i + 1)))) (fun (u : (Nat → Int64)) => xB D [(cW, .object RX0)] (va_A (cw h0 hw cW n q g sp lo ph pr bo mo rf hd gr st nx) sz) (cw h0 hw cW n q g sp lo ph u bo mo rf hd gr st nx)) (va_A (cw h0 hw cW n q g sp lo ph pr bo mo rf hd gr st nx) sz)) 0 0 (va_A (cw h0 hw cW n q g sp lo ph pr bo mo rf hd gr st nx) sz) := by
  refine Met.ofW (cc := cX0_press) (maxL := 3) (ret := none) (by decide) rfl ?_
  intro p e s m args below meth c s₁ B hml hv
  obtain ⟨rfl, hsz, ⟨hP, hK, hN⟩, hDt⟩ := hv
  have hx := B.exec
  have hb := B.bytes
  have hr := B.returns
  have hts := atoms_spec (ws := wsX0_press) B.pre
  have hown : s.vm.findClass RX0 = some m.cls := findClass_of_methodNamed B.named
  have hlocks := B.notSynchronized
  have hm1 : (.fieldLink RX0 17 "GearBrake$Wheel" "bound" "J" : Cond) ∈ wsX0_press := by decide +kernel
  have hm2 : (.methodLink RX0 59 Lib.MathLoose.min_long.x : Cond) ∈ wsX0_press := by decide +kernel
  have hm3 : (.static Lib.MathLoose.min_long.x : Cond) ∈ wsX0_press := by decide +kernel
  have hm4 : (.initialized "java/lang/Math" : Cond) ∈ wsX0_press := by decide +kernel
  have hm5 : (.code Lib.MathLoose.min_long.x Lib.MathLoose.min_long.code 4 (some .long) : Cond) ∈ wsX0_press := by decide +kernel
  have hm6 : (.fieldLink RX0 52 "GearBrake$Wheel" "pressure" "J" : Cond) ∈ wsX0_press := by decide +kernel
  subst hsz
  have hD := hDt.self (sz := s.heap.size)
  generalize hAe : va_A (cw h0 hw cW n q g sp lo ph pr bo mo rf hd gr st nx) s.heap.size = A at hD ⊢
  have hA : ∀ q : Nat, s.heap.size ≤ q → A q := fun q h => by rw [← hAe]; exact Or.inr h
  have hS : va_S A s.heap s.heap [] := va_S.rf
  have hl := lv_entry ([.ref (q i), .long v]) (n := 3) (Nat.le_of_ble_eq_true rfl)
  rw [lg_entry_eq]
  generalize (lg_sl ([.ref (q i), .long v]) ++ List.replicate (3 - (lg_sl ([.ref (q i), .long v])).length) Slot.unset).toArray = ls at hl ⊢
  replace hl : lv_has ls 3 [(0, .ref (q i)), (1, .long v)] := hl
  refine lv_aload_n hx hb dX0_press_0 rfl (lv_at hl 0 rfl) ?_
  refine lv_lload_n hx hb dX0_press_1 rfl (lv_at hl 1 rfl) ?_
  refine lv_aload_n hx hb dX0_press_2 rfl (lv_at hl 0 rfl) ?_
  refine va_get (D := D) (ci := 0) (v := .long (bo (i + 1))) (C := RX0) (T := TX0) (N := 6) hx hb hts (by decide +kernel) hown hK hP (i + 2) (cw_at hi) rfl 4 (by decide) (hts _ hm1) (fun _ h9 => h9) rfl dX0_press_3 ?_
  refine va_mmin_long hx hb (by rw [hml]; exact hl.1.symm) hown (hts _ hm2) (hts _ hm3) (hts _ hm4) (hts _ hm5) (Nat.le_of_ble_eq_true rfl) (Nat.le_of_ble_eq_true rfl) (Nat.le_of_ble_eq_true rfl) (Nat.le_of_ble_eq_true rfl) dX0_press_6 ?_
  refine va_put (D := D) (ci := 0) (v := .long (if (bo (i + 1)) < v then (bo (i + 1)) else v)) (ty := .long) (C := RX0) (T := TX0) (N := 6) hx hb hts (by decide +kernel) tyX0 tyX0_ok nmX0 hown hK hP hD hS (i + 2) (cw_at hi) rfl 3 (by decide) (hts _ hm6) (fun _ h9 => h9) rfl (by decide +kernel) rfl rfl (Nat.le_of_ble_eq_true rfl) dX0_press_9 (fun H locs hP hD hS => ?_)
  replace hP : va_P D vwCl (cw h0 hw cW n q g sp lo ph (va_up pr (i + 1) (if (bo (i + 1)) < v then (bo (i + 1)) else v)) bo mo rf hd gr st nx) H := w_P (cw_pr (if (bo (i + 1)) < v then (bo (i + 1)) else v)) hP
  replace hD : va_D A (cw h0 hw cW n q g sp lo ph (va_up pr (i + 1) (if (bo (i + 1)) < v then (bo (i + 1)) else v)) bo mo rf hd gr st nx) := w_D (cw_pr (if (bo (i + 1)) < v then (bo (i + 1)) else v)) hD
  exact W.vret hx hb hr (fun t ht hW => ⟨⟨(va_up pr (i + 1) (if (bo (i + 1)) < v then (bo (i + 1)) else v)), rfl, rfl, xB_end hP hK hN hD ht hW⟩, hS.F ht⟩) hS.2.2 dX0_press_12
set_option maxHeartbeats 4000000 in
set_option maxRecDepth 100000 in
/-- brake of wheel i + 1 -/
theorem c0_brake (l : Launch) (D : va_G) (cW : ClassId) (h0 hw n : Nat) (q : Nat → Nat) (g : Nat → Option Nat) (sp : Nat → Int64) (lo ph : Nat → Int32) (pr bo : Nat → Int64) (mo : Nat → UInt64) (rf : Int64) (hd gr st nx : Int32) (hn : n ≤ 8) (hg : ∀ i, i < n → g i = some (q i)) (i : Nat) (hi : i < n) (ped rfA : Int64) (hdA : Int32) (sz : Nat) : Met l yX0_brake wsX0_brake ({ frames := 2, cells := 0, slots := 0, locals := 45 }) (va_Pc [.ref (q i), .long ped, .long rfA, .int hdA] (xW D [(cW, .object RX0)] (cw h0 hw cW n q g sp lo ph pr bo mo rf hd gr st nx) sz)) (va_Qv (fun (u : (Nat → Int32) × (Nat → Int64)) => u.1 = va_up ph (i + 1) (sPh (lo (i + 1)) rfA ped (sp (i + 1)) (ph (i + 1)) (pr (i + 1))) ∧ u.2 = va_up pr (i + 1) (cPr (sPh (lo (i + 1)) rfA ped (sp (i + 1)) (ph (i + 1)) (pr (i + 1))) ped (pr (i + 1)) hdA (bo (i + 1)))) (fun (u : (Nat → Int32) × (Nat → Int64)) => xB D [(cW, .object RX0)] (va_A (cw h0 hw cW n q g sp lo ph pr bo mo rf hd gr st nx) sz) (cw h0 hw cW n q g sp lo u.1 u.2 bo mo rf hd gr st nx)) (va_A (cw h0 hw cW n q g sp lo ph pr bo mo rf hd gr st nx) sz)) 0 0 (va_A (cw h0 hw cW n q g sp lo ph pr bo mo rf hd gr st nx) sz) := by
  refine Met.ofW (cc := cX0_brake) (maxL := 8) (ret := none) (by decide) rfl ?_
  intro p e s m args below meth c s₁ B hml hv
  obtain ⟨rfl, hsz, ⟨hP, hK, hN⟩, hDt⟩ := hv
  have hx := B.exec
  have hb := B.bytes
  have hr := B.returns
  have hts := atoms_spec (ws := wsX0_brake) B.pre
  have hown : s.vm.findClass RX0 = some m.cls := findClass_of_methodNamed B.named
  have hlocks := B.notSynchronized
  have hm1 : (.fieldLink RX0 9 "GearBrake$Wheel" "phase" "I" : Cond) ∈ wsX0_brake := by decide +kernel
  have hm2 : (.constantLong RX0 29 (30) : Cond) ∈ wsX0_brake := by decide +kernel
  have hm3 : (.methodLink RX0 31 Lib.MathLoose.max_long.x : Cond) ∈ wsX0_brake := by decide +kernel
  have hm4 : (.static Lib.MathLoose.max_long.x : Cond) ∈ wsX0_brake := by decide +kernel
  have hm5 : (.initialized "java/lang/Math" : Cond) ∈ wsX0_brake := by decide +kernel
  have hm6 : (.code Lib.MathLoose.max_long.x Lib.MathLoose.max_long.code 4 (some .long) : Cond) ∈ wsX0_brake := by decide +kernel
  subst hsz
  have hD := hDt.self (sz := s.heap.size)
  generalize hAe : va_A (cw h0 hw cW n q g sp lo ph pr bo mo rf hd gr st nx) s.heap.size = A at hD ⊢
  have hA : ∀ q : Nat, s.heap.size ≤ q → A q := fun q h => by rw [← hAe]; exact Or.inr h
  have hS : va_S A s.heap s.heap [] := va_S.rf
  have hl := lv_entry ([.ref (q i), .long ped, .long rfA, .int hdA]) (n := 8) (Nat.le_of_ble_eq_true rfl)
  rw [lg_entry_eq]
  generalize (lg_sl ([.ref (q i), .long ped, .long rfA, .int hdA]) ++ List.replicate (8 - (lg_sl ([.ref (q i), .long ped, .long rfA, .int hdA])).length) Slot.unset).toArray = ls at hl ⊢
  replace hl : lv_has ls 8 [(0, .ref (q i)), (1, .long ped), (3, .long rfA), (5, .int hdA)] := hl
  refine lv_aload_n hx hb dX0_brake_0 rfl (lv_at hl 0 rfl) ?_
  refine lv_aload_n hx hb dX0_brake_1 rfl (lv_at hl 0 rfl) ?_
  refine lv_lload_n hx hb dX0_brake_2 rfl (lv_at hl 1 rfl) ?_
  refine lv_lload_n hx hb dX0_brake_3 rfl (lv_at hl 2 rfl) ?_
  refine vp_callSi (W.runV (As := [.long ped, .long rfA]) (rest := [.ref (q i)]) ⟨hx, hb, hml, hown, hts⟩ (c0_nextPhase l D cW h0 hw n q g sp lo ph pr bo mo rf hd gr st nx hn hg i hi ped rfA) (cwV 2 hts gX0_brake_X0_nextPhase rfl rfl rfl (by decide +kernel) ⟨Nat.le_of_ble_eq_true rfl, Nat.le_of_ble_eq_true rfl⟩) ⟨xP_blind, va_recv hK hP (ci := 0) (q0 := (i + 2)) rfl (cw_at hi), xP_at hP hK hN⟩ rfl rfl hl.1 rfl (lv_room (Nat.le_of_ble_eq_true rfl)) dX0_brake_4 ⟨Nat.le_of_ble_eq_true rfl, Nat.le_of_ble_eq_true rfl⟩) (fun r_1 hr_2 => ?_)
  subst hr_2
  refine va_put (D := D) (ci := 0) (v := .int (sPh (lo (i + 1)) rfA ped (sp (i + 1)) (ph (i + 1)) (pr (i + 1)))) (ty := .int) (C := RX0) (T := TX0) (N := 6) hx hb hts (by decide +kernel) tyX0 tyX0_ok nmX0 hown hK hP hD hS (i + 2) (cw_at hi) rfl 2 (by decide) (hts _ hm1) (fun _ h9 => h9) rfl (by decide +kernel) rfl rfl (Nat.le_of_ble_eq_true rfl) dX0_brake_7 (fun H locs hP hD hS => ?_)
  replace hP : va_P D vwCl (cw h0 hw cW n q g sp lo (va_up ph (i + 1) (sPh (lo (i + 1)) rfA ped (sp (i + 1)) (ph (i + 1)) (pr (i + 1)))) pr bo mo rf hd gr st nx) H := w_P (cw_ph (sPh (lo (i + 1)) rfA ped (sp (i + 1)) (ph (i + 1)) (pr (i + 1)))) hP
  replace hD : va_D A (cw h0 hw cW n q g sp lo (va_up ph (i + 1) (sPh (lo (i + 1)) rfA ped (sp (i + 1)) (ph (i + 1)) (pr (i + 1)))) pr bo mo rf hd gr st nx) := w_D (cw_ph (sPh (lo (i + 1)) rfA ped (sp (i + 1)) (ph (i + 1)) (pr (i + 1)))) hD
  refine lv_aload_n hx hb dX0_brake_10 rfl (lv_at hl 0 rfl) ?_
  refine lv_lload_n hx hb dX0_brake_11 rfl (lv_at hl 1 rfl) ?_
  refine vp_callSl (W.runV (As := [.long ped]) (rest := []) ⟨hx, hb, hml, hown, hts⟩ (c0_wanted l D cW h0 hw n q g sp lo (va_up ph (i + 1) (sPh (lo (i + 1)) rfA ped (sp (i + 1)) (ph (i + 1)) (pr (i + 1)))) pr bo mo rf hd gr st nx hn hg i hi ped) (cwV 1 hts gX0_brake_X0_wantedPressure rfl rfl rfl (by decide +kernel) ⟨Nat.le_of_ble_eq_true rfl, Nat.le_of_ble_eq_true rfl⟩) ⟨xP_blind, va_recv hK hP (ci := 0) (q0 := (i + 2)) rfl (cw_at hi), xP_at hP hK hN⟩ rfl rfl hl.1 rfl (lv_room (Nat.le_of_ble_eq_true rfl)) dX0_brake_12 ⟨Nat.le_of_ble_eq_true rfl, Nat.le_of_ble_eq_true rfl⟩) (fun r_3 hr_4 => ?_)
  rw [va_up_self] at hr_4
  subst hr_4
  refine lv_lstore (lv' := [(6, .long (cWant (sPh (lo (i + 1)) rfA ped (sp (i + 1)) (ph (i + 1)) (pr (i + 1))) ped (pr (i + 1)))), (0, .ref (q i)), (1, .long ped), (3, .long rfA), (5, .int hdA)]) hx hb dX0_brake_15 hl (by decide) rfl (fun ls hl => ?_)
  refine lv_aload_n hx hb dX0_brake_17 rfl (lv_at hl 1 rfl) ?_
  refine lv_iload hx hb dX0_brake_18 (lv_at hl 4 rfl) ?_
  refine lv_if_eq (tgt := 34) hx hb dX0_brake_20 (by decide) (fun c_5 => ?_) (fun c_5 => ?_)
  · skip
    refine lv_lload hx hb dX0_brake_34 (lv_at hl 0 rfl) ?_
    have hF := xF hD hS hA
    refine va_callv (va_runV (As := [.long (cWant (sPh (lo (i + 1)) rfA ped (sp (i + 1)) (ph (i + 1)) (pr (i + 1))) ped (pr (i + 1)))]) (rest := []) ⟨hx, hb, hml, hown, hts⟩ (c0_press l D cW h0 hw n q g sp lo (va_up ph (i + 1) (sPh (lo (i + 1)) rfA ped (sp (i + 1)) (ph (i + 1)) (pr (i + 1)))) pr bo mo rf hd gr st nx hn hg i hi (cWant (sPh (lo (i + 1)) rfA ped (sp (i + 1)) (ph (i + 1)) (pr (i + 1))) ped (pr (i + 1))) _) (cwV 1 hts gX0_brake_X0_press rfl rfl rfl (by decide +kernel) ⟨Nat.le_of_ble_eq_true rfl, Nat.le_of_ble_eq_true rfl⟩) ⟨xW_blind, va_recv hK hP (ci := 0) (q0 := (i + 2)) rfl (cw_at hi), xW_at hP hK hN hD⟩ rfl rfl hl.1 rfl (lv_room (Nat.le_of_ble_eq_true rfl)) dX0_brake_36 ⟨Nat.le_of_ble_eq_true rfl, Nat.le_of_ble_eq_true rfl⟩) hS (fun q _ h => hF q h) hF (fun u t H locs ht hvm hpo hB hz1 hk1 hS => ?_)
    obtain ⟨hP, hD⟩ := xB_use hB ht hF
    rw [hpo] at hP hD
    clear hB hk1 hz1 ht hvm
    replace hP : va_P D vwCl (cw h0 hw cW n q g sp lo (va_up ph (i + 1) (sPh (lo (i + 1)) rfA ped (sp (i + 1)) (ph (i + 1)) (pr (i + 1)))) (va_up pr (i + 1) (cMin (cWant (sPh (lo (i + 1)) rfA ped (sp (i + 1)) (ph (i + 1)) (pr (i + 1))) ped (pr (i + 1))) (bo (i + 1)))) bo mo rf hd gr st nx) H := hP
    replace hD : va_D A (cw h0 hw cW n q g sp lo (va_up ph (i + 1) (sPh (lo (i + 1)) rfA ped (sp (i + 1)) (ph (i + 1)) (pr (i + 1)))) (va_up pr (i + 1) (cMin (cWant (sPh (lo (i + 1)) rfA ped (sp (i + 1)) (ph (i + 1)) (pr (i + 1))) ped (pr (i + 1))) (bo (i + 1)))) bo mo rf hd gr st nx) := hD
    exact W.vret hx hb hr (fun t ht hW => ⟨⟨(va_up ph (i + 1) (sPh (lo (i + 1)) rfA ped (sp (i + 1)) (ph (i + 1)) (pr (i + 1))), va_up pr (i + 1) (cMin (cWant (sPh (lo (i + 1)) rfA ped (sp (i + 1)) (ph (i + 1)) (pr (i + 1))) ped (pr (i + 1))) (bo (i + 1)))), rfl, ⟨rfl, by simp [cPr, c_5]⟩, xB_end hP hK hN hD ht hW⟩, hS.F ht⟩) hS.2.2 dX0_brake_39
  · skip
    refine lv_lload hx hb dX0_brake_23 (lv_at hl 0 rfl) ?_
    refine lv_ldc2 hx hb hown (hts _ hm2) dX0_brake_25 ?_
    refine va_mmax_long hx hb (by rw [hml]; exact hl.1.symm) hown (hts _ hm3) (hts _ hm4) (hts _ hm5) (hts _ hm6) (Nat.le_of_ble_eq_true rfl) (Nat.le_of_ble_eq_true rfl) (Nat.le_of_ble_eq_true rfl) (Nat.le_of_ble_eq_true rfl) dX0_brake_28 ?_
    refine lv_goto (tgt := 36) hx hb dX0_brake_31 (by decide) ?_
    have hF := xF hD hS hA
    refine va_callv (va_runV (As := [.long (if 30 < (cWant (sPh (lo (i + 1)) rfA ped (sp (i + 1)) (ph (i + 1)) (pr (i + 1))) ped (pr (i + 1))) then (cWant (sPh (lo (i + 1)) rfA ped (sp (i + 1)) (ph (i + 1)) (pr (i + 1))) ped (pr (i + 1))) else 30)]) (rest := []) ⟨hx, hb, hml, hown, hts⟩ (c0_press l D cW h0 hw n q g sp lo (va_up ph (i + 1) (sPh (lo (i + 1)) rfA ped (sp (i + 1)) (ph (i + 1)) (pr (i + 1)))) pr bo mo rf hd gr st nx hn hg i hi (if 30 < (cWant (sPh (lo (i + 1)) rfA ped (sp (i + 1)) (ph (i + 1)) (pr (i + 1))) ped (pr (i + 1))) then (cWant (sPh (lo (i + 1)) rfA ped (sp (i + 1)) (ph (i + 1)) (pr (i + 1))) ped (pr (i + 1))) else 30) _) (cwV 1 hts gX0_brake_X0_press rfl rfl rfl (by decide +kernel) ⟨Nat.le_of_ble_eq_true rfl, Nat.le_of_ble_eq_true rfl⟩) ⟨xW_blind, va_recv hK hP (ci := 0) (q0 := (i + 2)) rfl (cw_at hi), xW_at hP hK hN hD⟩ rfl rfl hl.1 rfl (lv_room (Nat.le_of_ble_eq_true rfl)) dX0_brake_36 ⟨Nat.le_of_ble_eq_true rfl, Nat.le_of_ble_eq_true rfl⟩) hS (fun q _ h => hF q h) hF (fun u t H locs ht hvm hpo hB hz1 hk1 hS => ?_)
    obtain ⟨hP, hD⟩ := xB_use hB ht hF
    rw [hpo] at hP hD
    clear hB hk1 hz1 ht hvm
    replace hP : va_P D vwCl (cw h0 hw cW n q g sp lo (va_up ph (i + 1) (sPh (lo (i + 1)) rfA ped (sp (i + 1)) (ph (i + 1)) (pr (i + 1)))) (va_up pr (i + 1) (cMin (if 30 < (cWant (sPh (lo (i + 1)) rfA ped (sp (i + 1)) (ph (i + 1)) (pr (i + 1))) ped (pr (i + 1))) then (cWant (sPh (lo (i + 1)) rfA ped (sp (i + 1)) (ph (i + 1)) (pr (i + 1))) ped (pr (i + 1))) else 30) (bo (i + 1)))) bo mo rf hd gr st nx) H := hP
    replace hD : va_D A (cw h0 hw cW n q g sp lo (va_up ph (i + 1) (sPh (lo (i + 1)) rfA ped (sp (i + 1)) (ph (i + 1)) (pr (i + 1)))) (va_up pr (i + 1) (cMin (if 30 < (cWant (sPh (lo (i + 1)) rfA ped (sp (i + 1)) (ph (i + 1)) (pr (i + 1))) ped (pr (i + 1))) then (cWant (sPh (lo (i + 1)) rfA ped (sp (i + 1)) (ph (i + 1)) (pr (i + 1))) ped (pr (i + 1))) else 30) (bo (i + 1)))) bo mo rf hd gr st nx) := hD
    exact W.vret hx hb hr (fun t ht hW => ⟨⟨(va_up ph (i + 1) (sPh (lo (i + 1)) rfA ped (sp (i + 1)) (ph (i + 1)) (pr (i + 1))), va_up pr (i + 1) (cMin (if 30 < (cWant (sPh (lo (i + 1)) rfA ped (sp (i + 1)) (ph (i + 1)) (pr (i + 1))) ped (pr (i + 1))) then (cWant (sPh (lo (i + 1)) rfA ped (sp (i + 1)) (ph (i + 1)) (pr (i + 1))) ped (pr (i + 1))) else 30) (bo (i + 1)))), rfl, ⟨rfl, by simp [cPr, c_5]⟩, xB_end hP hK hN hD ht hW⟩, hS.F ht⟩) hS.2.2 dX0_brake_39
set_option maxHeartbeats 4000000 in
set_option maxRecDepth 100000 in
/-- followModel of wheel i + 1 -/
theorem c0_follow (l : Launch) (D : va_G) (cW : ClassId) (h0 hw n : Nat) (q : Nat → Nat) (g : Nat → Option Nat) (sp : Nat → Int64) (lo ph : Nat → Int32) (pr bo : Nat → Int64) (mo : Nat → UInt64) (rf : Int64) (hd gr st nx : Int32) (hn : n ≤ 8) (hg : ∀ i, i < n → g i = some (q i)) (i : Nat) (hi : i < n) (sz : Nat) : MetD lw_cs l yX0_followModel wsX0_followModel ({ frames := 0, cells := 0, slots := 0, locals := 0 }) (va_Pc [.ref (q i)] (xW D [(cW, .object RX0)] (cw h0 hw cW n q g sp lo ph pr bo mo rf hd gr st nx) sz)) (va_Qv (fun (u : (Nat → UInt64)) => ∃ y, u = va_up mo (i + 1) y ∧ stepM (mo (i + 1)) (sp (i + 1)) (pr (i + 1)) y) (fun (u : (Nat → UInt64)) => xB D [(cW, .object RX0)] (va_A (cw h0 hw cW n q g sp lo ph pr bo mo rf hd gr st nx) sz) (cw h0 hw cW n q g sp lo ph pr bo u rf hd gr st nx)) (va_A (cw h0 hw cW n q g sp lo ph pr bo mo rf hd gr st nx) sz)) 0 0 (va_A (cw h0 hw cW n q g sp lo ph pr bo mo rf hd gr st nx) sz) := by
  refine MetD.ofW (cc := cX0_followModel) (maxL := 5) (ret := none) (by decide) rfl ?_
  intro p e s m args below meth c s₁ B hml hv hd0
  obtain ⟨rfl, hsz, ⟨hP, hK, hN⟩, hDt⟩ := hv
  have hx := B.exec
  have hb := B.bytes
  have hr := B.returns
  have hts := atoms_spec (ws := wsX0_followModel) B.pre
  have hown : s.vm.findClass RX0 = some m.cls := findClass_of_methodNamed B.named
  have hlocks := B.notSynchronized
  have hm1 : (.fieldLink RX0 62 "GearBrake$Wheel" "model" "D" : Cond) ∈ wsX0_followModel := by decide +kernel
  have hm2 : (.constantDouble RX0 66 (4593671619917905920) : Cond) ∈ wsX0_followModel := by decide +kernel
  have hm3 : (.fieldLink RX0 45 "GearBrake$Wheel" "speed" "J" : Cond) ∈ wsX0_followModel := by decide +kernel
  have hm4 : (.constantDouble RX0 68 (4589168020290535424) : Cond) ∈ wsX0_followModel := by decide +kernel
  have hm5 : (.fieldLink RX0 52 "GearBrake$Wheel" "pressure" "J" : Cond) ∈ wsX0_followModel := by decide +kernel
  subst hsz
  have hD := hDt.self (sz := s.heap.size)
  generalize hAe : va_A (cw h0 hw cW n q g sp lo ph pr bo mo rf hd gr st nx) s.heap.size = A at hD ⊢
  have hA : ∀ q : Nat, s.heap.size ≤ q → A q := fun q h => by rw [← hAe]; exact Or.inr h
  have hS : va_S A s.heap s.heap [] := va_S.rf
  have hts0 := hts
  have hN0 := hN
  have hK0 := hK
  obtain ⟨dd, hde, hdd⟩ : ∃ dd, dd = s.drawn ∧ s.drawn.sameBut dd lw_cs := ⟨_, rfl, hd0⟩
  rw [← hde]
  clear hde
  have hts := dr_words hts0 dd
  have hN := cN_draw (d := dd) hN0
  have hK : va_K D vwCl [(cW, .object RX0)] (s.setDrawn dd) := hK0
  have hl := lv_entry ([.ref (q i)]) (n := 5) (Nat.le_of_ble_eq_true rfl)
  rw [lg_entry_eq]
  generalize (lg_sl ([.ref (q i)]) ++ List.replicate (5 - (lg_sl ([.ref (q i)])).length) Slot.unset).toArray = ls at hl ⊢
  replace hl : lv_has ls 5 [(0, .ref (q i))] := hl
  refine lv_aload_n hx hb dX0_followModel_0 rfl (lv_at hl 0 rfl) ?_
  refine va_get (D := D) (ci := 0) (v := .double (mo (i + 1))) (C := RX0) (T := TX0) (N := 6) hx hb hts (by decide +kernel) hown hK hP (i + 2) (cw_at hi) rfl 5 (by decide) (hts _ hm1) (fun _ h9 => h9) rfl dX0_followModel_1 ?_
  refine lv_ldc2d hx hb hown (hts _ hm2) dX0_followModel_4 ?_
  refine lv_aload_n hx hb dX0_followModel_7 rfl (lv_at hl 0 rfl) ?_
  refine va_get (D := D) (ci := 0) (v := .long (sp (i + 1))) (C := RX0) (T := TX0) (N := 6) hx hb hts (by decide +kernel) hown hK hP (i + 2) (cw_at hi) rfl 0 (by decide) (hts _ hm3) (fun _ h9 => h9) rfl dX0_followModel_8 ?_
  refine lv_l2d hx hb dX0_followModel_11 ?_
  refine lv_aload_n hx hb dX0_followModel_12 rfl (lv_at hl 0 rfl) ?_
  refine va_get (D := D) (ci := 0) (v := .double (mo (i + 1))) (C := RX0) (T := TX0) (N := 6) hx hb hts (by decide +kernel) hown hK hP (i + 2) (cw_at hi) rfl 5 (by decide) (hts _ hm1) (fun _ h9 => h9) rfl dX0_followModel_13 ?_
  refine lv_dsub_any hdd lw_bits hx hb dX0_followModel_16 (fun r_1 d_2 al_3 hdd_4 => ?_)
  have hts := dr_words hts0 d_2
  have hN := cN_draw (d := d_2) hN0
  have hK : va_K D vwCl [(cW, .object RX0)] (s.setDrawn d_2) := hK0
  refine lv_dmul_any hdd_4 lw_bits hx hb dX0_followModel_17 (fun r_5 d_6 al_7 hdd_8 => ?_)
  have hts := dr_words hts0 d_6
  have hN := cN_draw (d := d_6) hN0
  have hK : va_K D vwCl [(cW, .object RX0)] (s.setDrawn d_6) := hK0
  refine lv_dadd_any hdd_8 lw_bits hx hb dX0_followModel_18 (fun r_9 d_10 al_11 hdd_12 => ?_)
  have hts := dr_words hts0 d_10
  have hN := cN_draw (d := d_10) hN0
  have hK : va_K D vwCl [(cW, .object RX0)] (s.setDrawn d_10) := hK0
  refine lv_dstore_n (lv' := [(1, .double r_9), (0, .ref (q i))]) hx hb dX0_followModel_19 rfl hl (by decide) rfl (fun ls hl => ?_)
  refine lv_dload_n hx hb dX0_followModel_20 rfl (lv_at hl 0 rfl) ?_
  refine lv_ldc2d hx hb hown (hts _ hm4) dX0_followModel_21 ?_
  refine lv_aload_n hx hb dX0_followModel_24 rfl (lv_at hl 1 rfl) ?_
  refine va_get (D := D) (ci := 0) (v := .long (pr (i + 1))) (C := RX0) (T := TX0) (N := 6) hx hb hts (by decide +kernel) hown hK hP (i + 2) (cw_at hi) rfl 3 (by decide) (hts _ hm5) (fun _ h9 => h9) rfl dX0_followModel_25 ?_
  refine lv_l2d hx hb dX0_followModel_28 ?_
  refine lv_dmul_any hdd_12 lw_bits hx hb dX0_followModel_29 (fun r_13 d_14 al_15 hdd_16 => ?_)
  have hts := dr_words hts0 d_14
  have hN := cN_draw (d := d_14) hN0
  have hK : va_K D vwCl [(cW, .object RX0)] (s.setDrawn d_14) := hK0
  refine lv_dsub_any hdd_16 lw_bits hx hb dX0_followModel_30 (fun r_17 d_18 al_19 hdd_20 => ?_)
  have hts := dr_words hts0 d_18
  have hN := cN_draw (d := d_18) hN0
  have hK : va_K D vwCl [(cW, .object RX0)] (s.setDrawn d_18) := hK0
  refine lv_dstore_n (lv' := [(3, .double r_17), (1, .double r_9), (0, .ref (q i))]) hx hb dX0_followModel_31 rfl hl (by decide) rfl (fun ls hl => ?_)
  refine lv_aload_n hx hb dX0_followModel_32 rfl (lv_at hl 2 rfl) ?_
  refine lv_dload_n hx hb dX0_followModel_33 rfl (lv_at hl 0 rfl) ?_
  refine lv_dconst0 hx hb dX0_followModel_34 ?_
  refine lv_dcmp hx hb dX0_followModel_35 ?_
  refine lv_if_ge (tgt := 43) hx hb dX0_followModel_36 (by decide) (fun c_21 => ?_) (fun c_21 => ?_)
  · skip
    refine lv_dload_n hx hb dX0_followModel_43 rfl (lv_at hl 0 rfl) ?_
    refine va_put (D := D) (ci := 0) (v := .double r_17) (ty := .double) (C := RX0) (T := TX0) (N := 6) hx hb hts (by decide +kernel) tyX0 tyX0_ok nmX0 hown hK hP hD hS (i + 2) (cw_at hi) rfl 5 (by decide) (hts _ hm1) (fun _ h9 => h9) rfl (by decide +kernel) rfl rfl (Nat.le_of_ble_eq_true rfl) dX0_followModel_44 (fun H locs hP hD hS => ?_)
    replace hP : va_P D vwCl (cw h0 hw cW n q g sp lo ph pr bo (va_up mo (i + 1) r_17) rf hd gr st nx) H := w_P (cw_mo r_17) hP
    replace hD : va_D A (cw h0 hw cW n q g sp lo ph pr bo (va_up mo (i + 1) r_17) rf hd gr st nx) := w_D (cw_mo r_17) hD
    refine W.endD hdd_20 ?_
    exact W.vret hx hb hr (fun t ht hW => ⟨⟨(va_up mo (i + 1) r_17), rfl, ⟨_, rfl, _, _, _, _, _, al_3, al_7, al_11, al_15, al_19, by simp [c_21]⟩, xB_end hP hK hN hD ht hW⟩, hS.F ht⟩) hS.2.2 dX0_followModel_47
  · skip
    refine lv_dconst0 hx hb dX0_followModel_39 ?_
    refine lv_goto (tgt := 44) hx hb dX0_followModel_40 (by decide) ?_
    refine va_put (D := D) (ci := 0) (v := .double FP.dconst0) (ty := .double) (C := RX0) (T := TX0) (N := 6) hx hb hts (by decide +kernel) tyX0 tyX0_ok nmX0 hown hK hP hD hS (i + 2) (cw_at hi) rfl 5 (by decide) (hts _ hm1) (fun _ h9 => h9) rfl (by decide +kernel) rfl rfl (Nat.le_of_ble_eq_true rfl) dX0_followModel_44 (fun H locs hP hD hS => ?_)
    replace hP : va_P D vwCl (cw h0 hw cW n q g sp lo ph pr bo (va_up mo (i + 1) FP.dconst0) rf hd gr st nx) H := w_P (cw_mo FP.dconst0) hP
    replace hD : va_D A (cw h0 hw cW n q g sp lo ph pr bo (va_up mo (i + 1) FP.dconst0) rf hd gr st nx) := w_D (cw_mo FP.dconst0) hD
    refine W.endD hdd_20 ?_
    exact W.vret hx hb hr (fun t ht hW => ⟨⟨(va_up mo (i + 1) FP.dconst0), rfl, ⟨_, rfl, _, _, _, _, _, al_3, al_7, al_11, al_15, al_19, by simp [c_21]⟩, xB_end hP hK hN hD ht hW⟩, hS.F ht⟩) hS.2.2 dX0_followModel_47
set_option maxHeartbeats 4000000 in
set_option maxRecDepth 100000 in
/-- change -/
theorem c1_change (l : Launch) (D : va_G) (cW : ClassId) (h0 hw n : Nat) (q : Nat → Nat) (g : Nat → Option Nat) (sp : Nat → Int64) (lo ph : Nat → Int32) (pr bo : Nat → Int64) (mo : Nat → UInt64) (rf : Int64) (hd gr st nx : Int32) (hn : n ≤ 8) (hg : ∀ i, i < n → g i = some (q i)) (gx gy : Int32) (sz : Nat) : Met l yX1_change wsX1_change ({ frames := 0, cells := 0, slots := 0, locals := 0 }) (va_Pc [.ref h0, .int gx, .int gy] (xW D [(cW, .object RX0)] (cw h0 hw cW n q g sp lo ph pr bo mo rf hd gr st nx) sz)) (va_Qv (fun (u : (Int32) × (Int32)) => u.1 = gx ∧ u.2 = st + gy) (fun (u : (Int32) × (Int32)) => xB D [(cW, .object RX0)] (va_A (cw h0 hw cW n q g sp lo ph pr bo mo rf hd gr st nx) sz) (cw h0 hw cW n q g sp lo ph pr bo mo rf hd u.1 st u.2)) (va_A (cw h0 hw cW n q g sp lo ph pr bo mo rf hd gr st nx) sz)) 0 0 (va_A (cw h0 hw cW n q g sp lo ph pr bo mo rf hd gr st nx) sz) := by
  refine Met.ofW (cc := cX1_change) (maxL := 3) (ret := none) (by decide) rfl ?_
  intro p e s m args below meth c s₁ B hml hv
  obtain ⟨rfl, hsz, ⟨hP, hK, hN⟩, hDt⟩ := hv
  have hx := B.exec
  have hb := B.bytes
  have hr := B.returns
  have hts := atoms_spec (ws := wsX1_change) B.pre
  have hown : s.vm.findClass RX1 = some m.cls := findClass_of_methodNamed B.named
  have hlocks := B.notSynchronized
  have hm1 : (.fieldLink RX1 16 "GearBrake" "gear" "I" : Cond) ∈ wsX1_change := by decide +kernel
  have hm2 : (.fieldLink RX1 40 "GearBrake" "steps" "I" : Cond) ∈ wsX1_change := by decide +kernel
  have hm3 : (.fieldLink RX1 129 "GearBrake" "nextShift" "I" : Cond) ∈ wsX1_change := by decide +kernel
  subst hsz
  have hD := hDt.self (sz := s.heap.size)
  generalize hAe : va_A (cw h0 hw cW n q g sp lo ph pr bo mo rf hd gr st nx) s.heap.size = A at hD ⊢
  have hA : ∀ q : Nat, s.heap.size ≤ q → A q := fun q h => by rw [← hAe]; exact Or.inr h
  have hS : va_S A s.heap s.heap [] := va_S.rf
  have hl := lv_entry ([.ref h0, .int gx, .int gy]) (n := 3) (Nat.le_of_ble_eq_true rfl)
  rw [lg_entry_eq]
  generalize (lg_sl ([.ref h0, .int gx, .int gy]) ++ List.replicate (3 - (lg_sl ([.ref h0, .int gx, .int gy])).length) Slot.unset).toArray = ls at hl ⊢
  replace hl : lv_has ls 3 [(0, .ref h0), (1, .int gx), (2, .int gy)] := hl
  refine lv_aload_n hx hb dX1_change_0 rfl (lv_at hl 0 rfl) ?_
  refine lv_iload_n hx hb dX1_change_1 rfl (lv_at hl 1 rfl) ?_
  refine va_put (D := D) (ci := 1) (v := .int gx) (ty := .int) (C := RX1) (T := TX1) (N := 6) hx hb hts (by decide +kernel) tyX1 tyX1_ok nmX1 hown hK hP hD hS 0 rfl rfl 3 (by decide) (hts _ hm1) (fun _ h9 => h9) rfl (by decide +kernel) rfl rfl (Nat.le_of_ble_eq_true rfl) dX1_change_2 (fun H locs hP hD hS => ?_)
  replace hP : va_P D vwCl (cw h0 hw cW n q g sp lo ph pr bo mo rf hd gx st nx) H := hP
  replace hD : va_D A (cw h0 hw cW n q g sp lo ph pr bo mo rf hd gx st nx) := hD
  refine lv_aload_n hx hb dX1_change_5 rfl (lv_at hl 0 rfl) ?_
  refine lv_aload_n hx hb dX1_change_6 rfl (lv_at hl 0 rfl) ?_
  refine va_get (D := D) (ci := 1) (v := .int st) (C := RX1) (T := TX1) (N := 6) hx hb hts (by decide +kernel) hown hK hP 0 rfl rfl 4 (by decide) (hts _ hm2) (fun _ h9 => h9) rfl dX1_change_7 ?_
  refine lv_iload_n hx hb dX1_change_10 rfl (lv_at hl 2 rfl) ?_
  refine lv_iadd hx hb dX1_change_11 ?_
  refine va_put (D := D) (ci := 1) (v := .int (st + gy)) (ty := .int) (C := RX1) (T := TX1) (N := 6) hx hb hts (by decide +kernel) tyX1 tyX1_ok nmX1 hown hK hP hD hS 0 rfl rfl 5 (by decide) (hts _ hm3) (fun _ h9 => h9) rfl (by decide +kernel) rfl rfl (Nat.le_of_ble_eq_true rfl) dX1_change_12 (fun H locs hP hD hS => ?_)
  replace hP : va_P D vwCl (cw h0 hw cW n q g sp lo ph pr bo mo rf hd gx st (st + gy)) H := hP
  replace hD : va_D A (cw h0 hw cW n q g sp lo ph pr bo mo rf hd gx st (st + gy)) := hD
  exact W.vret hx hb hr (fun t ht hW => ⟨⟨(gx, st + gy), rfl, ⟨rfl, rfl⟩, xB_end hP hK hN hD ht hW⟩, hS.F ht⟩) hS.2.2 dX1_change_15
set_option maxHeartbeats 4000000 in
set_option maxRecDepth 100000 in
/-- shift -/
theorem c1_shift (l : Launch) (D : va_G) (cW : ClassId) (h0 hw n : Nat) (q : Nat → Nat) (g : Nat → Option Nat) (sp : Nat → Int64) (lo ph : Nat → Int32) (pr bo : Nat → Int64) (mo : Nat → UInt64) (rf : Int64) (hd gr st nx : Int32) (hn : n ≤ 8) (hg : ∀ i, i < n → g i = some (q i)) (sl : Int64) (sz : Nat) : Met l yX1_shift wsX1_shift ({ frames := 1, cells := 0, slots := 0, locals := 23 }) (va_Pc [.ref h0, .long sl] (xW D [(cW, .object RX0)] (cw h0 hw cW n q g sp lo ph pr bo mo rf hd gr st nx) sz)) (va_Qv (fun (u : (Int32) × (Int32)) => u.1 = (if nx ≤ st then sGr (sCode gr rf (cMx sl)) gr else gr) ∧ u.2 = (if nx ≤ st then sNx (sCode gr rf (cMx sl)) nx (st + 3) else nx)) (fun (u : (Int32) × (Int32)) => xB D [(cW, .object RX0)] (va_A (cw h0 hw cW n q g sp lo ph pr bo mo rf hd gr st nx) sz) (cw h0 hw cW n q g sp lo ph pr bo mo rf hd u.1 st u.2)) (va_A (cw h0 hw cW n q g sp lo ph pr bo mo rf hd gr st nx) sz)) 0 0 (va_A (cw h0 hw cW n q g sp lo ph pr bo mo rf hd gr st nx) sz) := by
  refine Met.ofW (cc := cX1_shift) (maxL := 3) (ret := none) (by decide) rfl ?_
  intro p e s m args below meth c s₁ B hml hv
  obtain ⟨rfl, hsz, ⟨hP, hK, hN⟩, hDt⟩ := hv
  have hx := B.exec
  have hb := B.bytes
  have hr := B.returns
  have hts := atoms_spec (ws := wsX1_shift) B.pre
  have hown : s.vm.findClass RX1 = some m.cls := findClass_of_methodNamed B.named
  have hlocks := B.notSynchronized
  have hm1 : (.fieldLink RX1 40 "GearBrake" "steps" "I" : Cond) ∈ wsX1_shift := by decide +kernel
  have hm2 : (.fieldLink RX1 129 "GearBrake" "nextShift" "I" : Cond) ∈ wsX1_shift := by decide +kernel
  have hm3 : (.fieldLink RX1 16 "GearBrake" "gear" "I" : Cond) ∈ wsX1_shift := by decide +kernel
  have hm4 : (.fieldLink RX1 47 "GearBrake" "reference" "J" : Cond) ∈ wsX1_shift := by decide +kernel
  have hm5 : (.constantLong RX1 61 (20) : Cond) ∈ wsX1_shift := by decide +kernel
  have hm6 : (.constantLong RX1 105 (10) : Cond) ∈ wsX1_shift := by decide +kernel
  have hm7 : (.methodLink RX1 122 Lib.MathLoose.max_long.x : Cond) ∈ wsX1_shift := by decide +kernel
  have hm8 : (.static Lib.MathLoose.max_long.x : Cond) ∈ wsX1_shift := by decide +kernel
  have hm9 : (.initialized "java/lang/Math" : Cond) ∈ wsX1_shift := by decide +kernel
  have hm10 : (.code Lib.MathLoose.max_long.x Lib.MathLoose.max_long.code 4 (some .long) : Cond) ∈ wsX1_shift := by decide +kernel
  subst hsz
  have hD := hDt.self (sz := s.heap.size)
  generalize hAe : va_A (cw h0 hw cW n q g sp lo ph pr bo mo rf hd gr st nx) s.heap.size = A at hD ⊢
  have hA : ∀ q : Nat, s.heap.size ≤ q → A q := fun q h => by rw [← hAe]; exact Or.inr h
  have hS : va_S A s.heap s.heap [] := va_S.rf
  have hl := lv_entry ([.ref h0, .long sl]) (n := 3) (Nat.le_of_ble_eq_true rfl)
  rw [lg_entry_eq]
  generalize (lg_sl ([.ref h0, .long sl]) ++ List.replicate (3 - (lg_sl ([.ref h0, .long sl])).length) Slot.unset).toArray = ls at hl ⊢
  replace hl : lv_has ls 3 [(0, .ref h0), (1, .long sl)] := hl
  refine lv_aload_n hx hb dX1_shift_0 rfl (lv_at hl 0 rfl) ?_
  refine va_get (D := D) (ci := 1) (v := .int st) (C := RX1) (T := TX1) (N := 6) hx hb hts (by decide +kernel) hown hK hP 0 rfl rfl 4 (by decide) (hts _ hm1) (fun _ h9 => h9) rfl dX1_shift_1 ?_
  refine lv_aload_n hx hb dX1_shift_4 rfl (lv_at hl 0 rfl) ?_
  refine va_get (D := D) (ci := 1) (v := .int nx) (C := RX1) (T := TX1) (N := 6) hx hb hts (by decide +kernel) hown hK hP 0 rfl rfl 5 (by decide) (hts _ hm2) (fun _ h9 => h9) rfl dX1_shift_5 ?_
  refine lv_icmp_ge (tgt := 12) hx hb dX1_shift_8 (by decide) (fun c_1 => ?_) (fun c_1 => ?_)
  · skip
    refine lv_aload_n hx hb dX1_shift_12 rfl (lv_at hl 0 rfl) ?_
    refine va_get (D := D) (ci := 1) (v := .int gr) (C := RX1) (T := TX1) (N := 6) hx hb hts (by decide +kernel) hown hK hP 0 rfl rfl 3 (by decide) (hts _ hm3) (fun _ h9 => h9) rfl dX1_shift_13 ?_
    refine lv_bipush (v := 6) hx hb dX1_shift_16 (by decide) ?_
    refine lv_icmp_ge (tgt := 62) hx hb dX1_shift_18 (by decide) (fun c_2 => ?_) (fun c_2 => ?_)
    · skip
      refine lv_aload_n hx hb dX1_shift_62 rfl (lv_at hl 0 rfl) ?_
      refine va_get (D := D) (ci := 1) (v := .int gr) (C := RX1) (T := TX1) (N := 6) hx hb hts (by decide +kernel) hown hK hP 0 rfl rfl 3 (by decide) (hts _ hm3) (fun _ h9 => h9) rfl dX1_shift_63 ?_
      refine lv_iconst (v := 1) hx hb dX1_shift_66 (by decide) ?_
      refine lv_icmp_le (tgt := 100) hx hb dX1_shift_67 (by decide) (fun c_3 => ?_) (fun c_3 => ?_)
      · skip
        exact W.vret hx hb hr (fun t ht hW => ⟨⟨(gr, nx), rfl, by simp [sCode, sGr, sNx, cMx, c_1, c_2, c_3], xB_end hP hK hN hD ht hW⟩, hS.F ht⟩) hS.2.2 dX1_shift_100
      · skip
        refine lv_aload_n hx hb dX1_shift_70 rfl (lv_at hl 0 rfl) ?_
        refine va_get (D := D) (ci := 1) (v := .long rf) (C := RX1) (T := TX1) (N := 6) hx hb hts (by decide +kernel) hown hK hP 0 rfl rfl 1 (by decide) (hts _ hm4) (fun _ h9 => h9) rfl dX1_shift_71 ?_
        refine lv_ldc2 hx hb hown (hts _ hm5) dX1_shift_74 ?_
        refine lv_aload_n hx hb dX1_shift_77 rfl (lv_at hl 0 rfl) ?_
        refine va_get (D := D) (ci := 1) (v := .int gr) (C := RX1) (T := TX1) (N := 6) hx hb hts (by decide +kernel) hown hK hP 0 rfl rfl 3 (by decide) (hts _ hm3) (fun _ h9 => h9) rfl dX1_shift_78 ?_
        refine lv_iconst (v := 1) hx hb dX1_shift_81 (by decide) ?_
        refine lv_isub hx hb dX1_shift_82 ?_
        refine lv_i2l hx hb dX1_shift_83 rfl ?_
        refine lv_lmul hx hb dX1_shift_84 ?_
        refine W.lcmp hx hb dX1_shift_85 ?_
        refine lv_if_ge (tgt := 100) hx hb dX1_shift_86 (by decide) (fun c_4 => ?_) (fun c_4 => ?_)
        · skip
          replace c_4 := (lg_cmp_ge _ _).mp c_4
          exact W.vret hx hb hr (fun t ht hW => ⟨⟨(gr, nx), rfl, by simp [sCode, sGr, sNx, cMx, c_1, c_2, c_3, c_4], xB_end hP hK hN hD ht hW⟩, hS.F ht⟩) hS.2.2 dX1_shift_100
        · skip
          replace c_4 := mt (lg_cmp_ge _ _).mpr c_4
          refine lv_aload_n hx hb dX1_shift_89 rfl (lv_at hl 0 rfl) ?_
          refine lv_aload_n hx hb dX1_shift_90 rfl (lv_at hl 0 rfl) ?_
          refine va_get (D := D) (ci := 1) (v := .int gr) (C := RX1) (T := TX1) (N := 6) hx hb hts (by decide +kernel) hown hK hP 0 rfl rfl 3 (by decide) (hts _ hm3) (fun _ h9 => h9) rfl dX1_shift_91 ?_
          refine lv_iconst (v := 1) hx hb dX1_shift_94 (by decide) ?_
          refine lv_isub hx hb dX1_shift_95 ?_
          refine lv_iconst (v := 3) hx hb dX1_shift_96 (by decide) ?_
          have hF := xF hD hS hA
          refine va_callv (va_runV (As := [.int (gr - 1), .int 3]) (rest := []) ⟨hx, hb, hml, hown, hts⟩ (c1_change l D cW h0 hw n q g sp lo ph pr bo mo rf hd gr st nx hn hg (gr - 1) 3 _) (cwV 2 hts gX1_shift_X1_change rfl rfl rfl (by decide +kernel) ⟨Nat.le_of_ble_eq_true rfl, Nat.le_of_ble_eq_true rfl⟩) ⟨xW_blind, va_recv hK hP (ci := 1) (q0 := 0) rfl rfl, xW_at hP hK hN hD⟩ rfl rfl hl.1 rfl (lv_room (Nat.le_of_ble_eq_true rfl)) dX1_shift_97 ⟨Nat.le_of_ble_eq_true rfl, Nat.le_of_ble_eq_true rfl⟩) hS (fun q _ h => hF q h) hF (fun u t H locs ht hvm hpo hB hz1 hk1 hS => ?_)
          obtain ⟨hP, hD⟩ := xB_use hB ht hF
          obtain ⟨u1, u2⟩ := u
          dsimp only at hpo hP hD
          rw [hpo.1, hpo.2] at hP hD
          clear hB hk1 hz1 ht hvm
          replace hP : va_P D vwCl (cw h0 hw cW n q g sp lo ph pr bo mo rf hd (gr - 1) st (st + 3)) H := hP
          replace hD : va_D A (cw h0 hw cW n q g sp lo ph pr bo mo rf hd (gr - 1) st (st + 3)) := hD
          exact W.vret hx hb hr (fun t ht hW => ⟨⟨(gr - 1, st + 3), rfl, by simp [sCode, sGr, sNx, cMx, c_1, c_2, c_3, c_4], xB_end hP hK hN hD ht hW⟩, hS.F ht⟩) hS.2.2 dX1_shift_100
    · skip
      refine lv_aload_n hx hb dX1_shift_21 rfl (lv_at hl 0 rfl) ?_
      refine va_get (D := D) (ci := 1) (v := .long rf) (C := RX1) (T := TX1) (N := 6) hx hb hts (by decide +kernel) hown hK hP 0 rfl rfl 1 (by decide) (hts _ hm4) (fun _ h9 => h9) rfl dX1_shift_22 ?_
      refine lv_ldc2 hx hb hown (hts _ hm5) dX1_shift_25 ?_
      refine lv_aload_n hx hb dX1_shift_28 rfl (lv_at hl 0 rfl) ?_
      refine va_get (D := D) (ci := 1) (v := .int gr) (C := RX1) (T := TX1) (N := 6) hx hb hts (by decide +kernel) hown hK hP 0 rfl rfl 3 (by decide) (hts _ hm3) (fun _ h9 => h9) rfl dX1_shift_29 ?_
      refine lv_i2l hx hb dX1_shift_32 rfl ?_
      refine lv_lmul hx hb dX1_shift_33 ?_
      refine lv_ldc2 hx hb hown (hts _ hm6) dX1_shift_34 ?_
      refine lv_ladd hx hb dX1_shift_37 ?_
      refine lv_lload_n hx hb dX1_shift_38 rfl (lv_at hl 1 rfl) ?_
      refine lv_lconst (v := 0) hx hb dX1_shift_39 (by decide) ?_
      refine va_mmax_long hx hb (by rw [hml]; exact hl.1.symm) hown (hts _ hm7) (hts _ hm8) (hts _ hm9) (hts _ hm10) (Nat.le_of_ble_eq_true rfl) (Nat.le_of_ble_eq_true rfl) (Nat.le_of_ble_eq_true rfl) (Nat.le_of_ble_eq_true rfl) dX1_shift_40 ?_
      refine lv_ladd hx hb dX1_shift_43 ?_
      refine W.lcmp hx hb dX1_shift_44 ?_
      refine lv_if_le (tgt := 62) hx hb dX1_shift_45 (by decide) (fun c_5 => ?_) (fun c_5 => ?_)
      · skip
        replace c_5 := (lg_cmp_le _ _).mp c_5
        refine lv_aload_n hx hb dX1_shift_62 rfl (lv_at hl 0 rfl) ?_
        refine va_get (D := D) (ci := 1) (v := .int gr) (C := RX1) (T := TX1) (N := 6) hx hb hts (by decide +kernel) hown hK hP 0 rfl rfl 3 (by decide) (hts _ hm3) (fun _ h9 => h9) rfl dX1_shift_63 ?_
        refine lv_iconst (v := 1) hx hb dX1_shift_66 (by decide) ?_
        refine lv_icmp_le (tgt := 100) hx hb dX1_shift_67 (by decide) (fun c_6 => ?_) (fun c_6 => ?_)
        · skip
          exact W.vret hx hb hr (fun t ht hW => ⟨⟨(gr, nx), rfl, by simp [sCode, sGr, sNx, cMx, c_1, c_2, c_5, c_6], xB_end hP hK hN hD ht hW⟩, hS.F ht⟩) hS.2.2 dX1_shift_100
        · skip
          refine lv_aload_n hx hb dX1_shift_70 rfl (lv_at hl 0 rfl) ?_
          refine va_get (D := D) (ci := 1) (v := .long rf) (C := RX1) (T := TX1) (N := 6) hx hb hts (by decide +kernel) hown hK hP 0 rfl rfl 1 (by decide) (hts _ hm4) (fun _ h9 => h9) rfl dX1_shift_71 ?_
          refine lv_ldc2 hx hb hown (hts _ hm5) dX1_shift_74 ?_
          refine lv_aload_n hx hb dX1_shift_77 rfl (lv_at hl 0 rfl) ?_
          refine va_get (D := D) (ci := 1) (v := .int gr) (C := RX1) (T := TX1) (N := 6) hx hb hts (by decide +kernel) hown hK hP 0 rfl rfl 3 (by decide) (hts _ hm3) (fun _ h9 => h9) rfl dX1_shift_78 ?_
          refine lv_iconst (v := 1) hx hb dX1_shift_81 (by decide) ?_
          refine lv_isub hx hb dX1_shift_82 ?_
          refine lv_i2l hx hb dX1_shift_83 rfl ?_
          refine lv_lmul hx hb dX1_shift_84 ?_
          refine W.lcmp hx hb dX1_shift_85 ?_
          refine lv_if_ge (tgt := 100) hx hb dX1_shift_86 (by decide) (fun c_7 => ?_) (fun c_7 => ?_)
          · skip
            replace c_7 := (lg_cmp_ge _ _).mp c_7
            exact W.vret hx hb hr (fun t ht hW => ⟨⟨(gr, nx), rfl, by simp [sCode, sGr, sNx, cMx, c_1, c_2, c_5, c_6, c_7], xB_end hP hK hN hD ht hW⟩, hS.F ht⟩) hS.2.2 dX1_shift_100
          · skip
            replace c_7 := mt (lg_cmp_ge _ _).mpr c_7
            refine lv_aload_n hx hb dX1_shift_89 rfl (lv_at hl 0 rfl) ?_
            refine lv_aload_n hx hb dX1_shift_90 rfl (lv_at hl 0 rfl) ?_
            refine va_get (D := D) (ci := 1) (v := .int gr) (C := RX1) (T := TX1) (N := 6) hx hb hts (by decide +kernel) hown hK hP 0 rfl rfl 3 (by decide) (hts _ hm3) (fun _ h9 => h9) rfl dX1_shift_91 ?_
            refine lv_iconst (v := 1) hx hb dX1_shift_94 (by decide) ?_
            refine lv_isub hx hb dX1_shift_95 ?_
            refine lv_iconst (v := 3) hx hb dX1_shift_96 (by decide) ?_
            have hF := xF hD hS hA
            refine va_callv (va_runV (As := [.int (gr - 1), .int 3]) (rest := []) ⟨hx, hb, hml, hown, hts⟩ (c1_change l D cW h0 hw n q g sp lo ph pr bo mo rf hd gr st nx hn hg (gr - 1) 3 _) (cwV 2 hts gX1_shift_X1_change rfl rfl rfl (by decide +kernel) ⟨Nat.le_of_ble_eq_true rfl, Nat.le_of_ble_eq_true rfl⟩) ⟨xW_blind, va_recv hK hP (ci := 1) (q0 := 0) rfl rfl, xW_at hP hK hN hD⟩ rfl rfl hl.1 rfl (lv_room (Nat.le_of_ble_eq_true rfl)) dX1_shift_97 ⟨Nat.le_of_ble_eq_true rfl, Nat.le_of_ble_eq_true rfl⟩) hS (fun q _ h => hF q h) hF (fun u t H locs ht hvm hpo hB hz1 hk1 hS => ?_)
            obtain ⟨hP, hD⟩ := xB_use hB ht hF
            obtain ⟨u1, u2⟩ := u
            dsimp only at hpo hP hD
            rw [hpo.1, hpo.2] at hP hD
            clear hB hk1 hz1 ht hvm
            replace hP : va_P D vwCl (cw h0 hw cW n q g sp lo ph pr bo mo rf hd (gr - 1) st (st + 3)) H := hP
            replace hD : va_D A (cw h0 hw cW n q g sp lo ph pr bo mo rf hd (gr - 1) st (st + 3)) := hD
            exact W.vret hx hb hr (fun t ht hW => ⟨⟨(gr - 1, st + 3), rfl, by simp [sCode, sGr, sNx, cMx, c_1, c_2, c_5, c_6, c_7], xB_end hP hK hN hD ht hW⟩, hS.F ht⟩) hS.2.2 dX1_shift_100
      · skip
        replace c_5 := mt (lg_cmp_le _ _).mpr c_5
        refine lv_aload_n hx hb dX1_shift_48 rfl (lv_at hl 0 rfl) ?_
        refine lv_aload_n hx hb dX1_shift_49 rfl (lv_at hl 0 rfl) ?_
        refine va_get (D := D) (ci := 1) (v := .int gr) (C := RX1) (T := TX1) (N := 6) hx hb hts (by decide +kernel) hown hK hP 0 rfl rfl 3 (by decide) (hts _ hm3) (fun _ h9 => h9) rfl dX1_shift_50 ?_
        refine lv_iconst (v := 1) hx hb dX1_shift_53 (by decide) ?_
        refine lv_iadd hx hb dX1_shift_54 ?_
        refine lv_iconst (v := 3) hx hb dX1_shift_55 (by decide) ?_
        have hF := xF hD hS hA
        refine va_callv (va_runV (As := [.int (gr + 1), .int 3]) (rest := []) ⟨hx, hb, hml, hown, hts⟩ (c1_change l D cW h0 hw n q g sp lo ph pr bo mo rf hd gr st nx hn hg (gr + 1) 3 _) (cwV 2 hts gX1_shift_X1_change rfl rfl rfl (by decide +kernel) ⟨Nat.le_of_ble_eq_true rfl, Nat.le_of_ble_eq_true rfl⟩) ⟨xW_blind, va_recv hK hP (ci := 1) (q0 := 0) rfl rfl, xW_at hP hK hN hD⟩ rfl rfl hl.1 rfl (lv_room (Nat.le_of_ble_eq_true rfl)) dX1_shift_56 ⟨Nat.le_of_ble_eq_true rfl, Nat.le_of_ble_eq_true rfl⟩) hS (fun q _ h => hF q h) hF (fun u t H locs ht hvm hpo hB hz1 hk1 hS => ?_)
        obtain ⟨hP, hD⟩ := xB_use hB ht hF
        obtain ⟨u1, u2⟩ := u
        dsimp only at hpo hP hD
        rw [hpo.1, hpo.2] at hP hD
        clear hB hk1 hz1 ht hvm
        replace hP : va_P D vwCl (cw h0 hw cW n q g sp lo ph pr bo mo rf hd (gr + 1) st (st + 3)) H := hP
        replace hD : va_D A (cw h0 hw cW n q g sp lo ph pr bo mo rf hd (gr + 1) st (st + 3)) := hD
        refine lv_goto (tgt := 100) hx hb dX1_shift_59 (by decide) ?_
        exact W.vret hx hb hr (fun t ht hW => ⟨⟨(gr + 1, st + 3), rfl, by simp [sCode, sGr, sNx, cMx, c_1, c_2, c_5], xB_end hP hK hN hD ht hW⟩, hS.F ht⟩) hS.2.2 dX1_shift_100
  · skip
    exact W.vret hx hb hr (fun t ht hW => ⟨⟨(gr, nx), rfl, by simp [sCode, sGr, sNx, cMx, c_1], xB_end hP hK hN hD ht hW⟩, hS.F ht⟩) hS.2.2 dX1_shift_11
end
section
/-! ===== the car: the calls that write ===== -/
set_option maxHeartbeats 4000000 in
set_option maxRecDepth 100000 in
/-- wheel -/
theorem c1_wheel (l : Launch) (D : va_G) (cW : ClassId) (h0 hw n : Nat) (q : Nat → Nat) (g : Nat → Option Nat) (sp : Nat → Int64) (lo ph : Nat → Int32) (pr bo : Nat → Int64) (mo : Nat → UInt64) (rf : Int64) (hd gr st nx : Int32) (hn : n ≤ 8) (hg : ∀ i, i < n → g i = some (q i)) (w : Int32) (v : Int64) (sz : Nat) : Met l yX1_wheel wsX1_wheel ({ frames := 1, cells := 0, slots := 0, locals := 25 }) (va_Pc [.ref h0, .int w, .long v] (xW D [(cW, .object RX0)] (cw h0 hw cW n q g sp lo ph pr bo mo rf hd gr st nx) sz)) (va_Qi (fun (r : Int32) (u : (Nat → Int64)) => r = fW n w v 1000 ∧ u = gW n w v 1000 sp v) (fun (u : (Nat → Int64)) => xB D [(cW, .object RX0)] (va_A (cw h0 hw cW n q g sp lo ph pr bo mo rf hd gr st nx) sz) (cw h0 hw cW n q g u lo ph pr bo mo rf hd gr st nx)) (va_A (cw h0 hw cW n q g sp lo ph pr bo mo rf hd gr st nx) sz)) 0 0 (va_A (cw h0 hw cW n q g sp lo ph pr bo mo rf hd gr st nx) sz) := by
  rcases w_io n w hn with hwo | ⟨i, hi, rfl⟩
  · skip
    refine Met.ofW (cc := cX1_wheel) (maxL := 5) (ret := (some .int)) (by decide) rfl ?_
    intro p e s m args below meth c s₁ B hml hv
    obtain ⟨rfl, hsz, ⟨hP, hK, hN⟩, hDt⟩ := hv
    have hx := B.exec
    have hb := B.bytes
    have hr := B.returns
    have hts := atoms_spec (ws := wsX1_wheel) B.pre
    have hown : s.vm.findClass RX1 = some m.cls := findClass_of_methodNamed B.named
    have hlocks := B.notSynchronized
    subst hsz
    have hD := hDt.self (sz := s.heap.size)
    generalize hAe : va_A (cw h0 hw cW n q g sp lo ph pr bo mo rf hd gr st nx) s.heap.size = A at hD ⊢
    have hA : ∀ q : Nat, s.heap.size ≤ q → A q := fun q h => by rw [← hAe]; exact Or.inr h
    have hS : va_S A s.heap s.heap [] := va_S.rf
    have hl := lv_entry ([.ref h0, .int w, .long v]) (n := 5) (Nat.le_of_ble_eq_true rfl)
    rw [lg_entry_eq]
    generalize (lg_sl ([.ref h0, .int w, .long v]) ++ List.replicate (5 - (lg_sl ([.ref h0, .int w, .long v])).length) Slot.unset).toArray = ls at hl ⊢
    replace hl : lv_has ls 5 [(0, .ref h0), (1, .int w), (2, .long v)] := hl
    refine lv_aload_n hx hb dX1_wheel_0 rfl (lv_at hl 0 rfl) ?_
    refine lv_iload_n hx hb dX1_wheel_1 rfl (lv_at hl 1 rfl) ?_
    refine va_csq (W.runV (As := [.int w]) (rest := []) ⟨hx, hb, hml, hown, hts⟩ (c1_find_out l D cW h0 hw n q g sp lo ph pr bo mo rf hd gr st nx hn hg w hwo) (cwV 1 hts gX1_wheel_X1_find rfl rfl rfl (by decide +kernel) ⟨Nat.le_of_ble_eq_true rfl, Nat.le_of_ble_eq_true rfl⟩) ⟨xP_blind, va_recv hK hP (ci := 1) (q0 := 0) rfl rfl, xP_at hP hK hN⟩ rfl rfl hl.1 rfl (lv_room (Nat.le_of_ble_eq_true rfl)) dX1_wheel_2 ⟨Nat.le_of_ble_eq_true rfl, Nat.le_of_ble_eq_true rfl⟩) (fun r_1 hr_2 => ?_)
    subst hr_2
    refine W.eq (g2 := F0 m 5 ls [.null]) rfl ?_
    refine lv_astoreN (lv' := [(4, .null), (0, .ref h0), (1, .int w), (2, .long v)]) hx hb dX1_wheel_5 hl (by decide) rfl (fun ls hl => ?_)
    refine lv_aloadN hx hb dX1_wheel_7 (lv_at hl 0 rfl) ?_
    refine lv_ifnonnullN hx hb dX1_wheel_9 ?_
    refine lv_iconst (v := (-1)) hx hb dX1_wheel_12 (by decide) ?_
    exact W.iret (v := (-1)) hx hb hr (fun t ht hW => ⟨⟨_, (sp), rfl, ⟨by simp [fW, gW, hwo], by simp [fW, gW, hwo]⟩, xB_end hP hK hN hD ht hW⟩, hS.F ht⟩) hS.2.2 dX1_wheel_13
  · skip
    refine Met.ofW (cc := cX1_wheel) (maxL := 5) (ret := (some .int)) (by decide) rfl ?_
    intro p e s m args below meth c s₁ B hml hv
    obtain ⟨rfl, hsz, ⟨hP, hK, hN⟩, hDt⟩ := hv
    have hx := B.exec
    have hb := B.bytes
    have hr := B.returns
    have hts := atoms_spec (ws := wsX1_wheel) B.pre
    have hown : s.vm.findClass RX1 = some m.cls := findClass_of_methodNamed B.named
    have hlocks := B.notSynchronized
    have hm1 : (.constantLong RX1 24 (1000) : Cond) ∈ wsX1_wheel := by decide +kernel
    subst hsz
    have hD := hDt.self (sz := s.heap.size)
    generalize hAe : va_A (cw h0 hw cW n q g sp lo ph pr bo mo rf hd gr st nx) s.heap.size = A at hD ⊢
    have hA : ∀ q : Nat, s.heap.size ≤ q → A q := fun q h => by rw [← hAe]; exact Or.inr h
    have hS : va_S A s.heap s.heap [] := va_S.rf
    have hl := lv_entry ([.ref h0, .int (nI (i + 1)), .long v]) (n := 5) (Nat.le_of_ble_eq_true rfl)
    rw [lg_entry_eq]
    generalize (lg_sl ([.ref h0, .int (nI (i + 1)), .long v]) ++ List.replicate (5 - (lg_sl ([.ref h0, .int (nI (i + 1)), .long v])).length) Slot.unset).toArray = ls at hl ⊢
    replace hl : lv_has ls 5 [(0, .ref h0), (1, .int (nI (i + 1))), (2, .long v)] := hl
    refine lv_aload_n hx hb dX1_wheel_0 rfl (lv_at hl 0 rfl) ?_
    refine lv_iload_n hx hb dX1_wheel_1 rfl (lv_at hl 1 rfl) ?_
    refine va_csq (W.runV (As := [.int (nI (i + 1))]) (rest := []) ⟨hx, hb, hml, hown, hts⟩ (c1_find_in l D cW h0 hw n q g sp lo ph pr bo mo rf hd gr st nx hn hg i hi) (cwV 1 hts gX1_wheel_X1_find rfl rfl rfl (by decide +kernel) ⟨Nat.le_of_ble_eq_true rfl, Nat.le_of_ble_eq_true rfl⟩) ⟨xP_blind, va_recv hK hP (ci := 1) (q0 := 0) rfl rfl, xP_at hP hK hN⟩ rfl rfl hl.1 rfl (lv_room (Nat.le_of_ble_eq_true rfl)) dX1_wheel_2 ⟨Nat.le_of_ble_eq_true rfl, Nat.le_of_ble_eq_true rfl⟩) (fun r_1 hr_2 => ?_)
    subst hr_2
    refine W.eq (g2 := F0 m 5 ls [.ref (q i)]) rfl ?_
    refine lv_astore (lv' := [(4, .ref (q i)), (0, .ref h0), (1, .int (nI (i + 1))), (2, .long v)]) hx hb dX1_wheel_5 hl (by decide) rfl (fun ls hl => ?_)
    refine lv_aload hx hb dX1_wheel_7 (lv_at hl 0 rfl) ?_
    refine lv_ifnonnull (tgt := 14) hx hb dX1_wheel_9 (by decide) ?_
    refine lv_lload_n hx hb dX1_wheel_14 rfl (lv_at hl 3 rfl) ?_
    refine lv_lconst (v := 0) hx hb dX1_wheel_15 (by decide) ?_
    refine lv_ldc2 hx hb hown (hts _ hm1) dX1_wheel_16 ?_
    refine vp_callSi (W.runS (As := [.long v, .long 0, .long 1000]) (rest := []) ⟨hx, hb, hml, hown, hts⟩ (c1_within l v 0 1000) (va_cwS 3 hts gX1_wheel_X1_isWithin rfl rfl rfl (by decide +kernel) ⟨Nat.le_of_ble_eq_true rfl, Nat.le_of_ble_eq_true rfl⟩) ⟨fun _ _ _ _ h => h, fun _ _ _ => ⟨rfl, trivial⟩⟩ rfl rfl hl.1 rfl (lv_room (Nat.le_of_ble_eq_true rfl)) dX1_wheel_19 ⟨Nat.le_of_ble_eq_true rfl, Nat.le_of_ble_eq_true rfl⟩) (fun r_3 hr_4 => ?_)
    rcases hr_4 with ⟨rfl, k_5, k_6⟩ | ⟨rfl, k_5⟩
    · skip
      refine lv_if_ne (tgt := 28) hx hb dX1_wheel_22 (by decide) (fun c_7 => ?_) (fun c_7 => absurd c_7 (by decide))
      refine lv_aload hx hb dX1_wheel_28 (lv_at hl 0 rfl) ?_
      refine lv_lload_n hx hb dX1_wheel_30 rfl (lv_at hl 3 rfl) ?_
      refine va_putN (D := D) (ci := 0) (v := .long v) (ty := .long) (C := RX0) (T := TX0) (N := 6) hx hb hts (by decide +kernel) tyX0 tyX0_ok nmX0 hown hK hP hD hS (i + 2) (cw_at hi) rfl 0 (by decide) (va_Nw.use rfl hN.1) (fun _ h9 => h9) rfl (by decide +kernel) rfl rfl (Nat.le_of_ble_eq_true rfl) dX1_wheel_31 (fun H locs hP hD hS => ?_)
      replace hP : va_P D vwCl (cw h0 hw cW n q g (va_up sp (i + 1) v) lo ph pr bo mo rf hd gr st nx) H := w_P (cw_sp v) hP
      replace hD : va_D A (cw h0 hw cW n q g (va_up sp (i + 1) v) lo ph pr bo mo rf hd gr st nx) := w_D (cw_sp v) hD
      refine lv_iconst (v := 1) hx hb dX1_wheel_34 (by decide) ?_
      exact W.iret (v := 1) hx hb hr (fun t ht hW => ⟨⟨_, (va_up sp (i + 1) v), rfl, ⟨by simp [fW, gW, wOut_in hn hi, wIx hn hi, k_5, k_6], by simp [fW, gW, wOut_in hn hi, wIx hn hi, k_5, k_6]⟩, xB_end hP hK hN hD ht hW⟩, hS.F ht⟩) hS.2.2 dX1_wheel_35
    · skip
      refine lv_if_ne (tgt := 28) hx hb dX1_wheel_22 (by decide) (fun c_8 => absurd (by decide) c_8) (fun c_8 => ?_)
      refine lv_bipush (v := (-2)) hx hb dX1_wheel_25 (by decide) ?_
      exact W.iret (v := (-2)) hx hb hr (fun t ht hW => ⟨⟨_, (sp), rfl, ⟨by simp [fW, gW, wOut_in hn hi, wIx hn hi, k_5], by simp [fW, gW, wOut_in hn hi, wIx hn hi, k_5]⟩, xB_end hP hK hN hD ht hW⟩, hS.F ht⟩) hS.2.2 dX1_wheel_27
set_option maxHeartbeats 4000000 in
set_option maxRecDepth 100000 in
/-- bound -/
theorem c1_bound (l : Launch) (D : va_G) (cW : ClassId) (h0 hw n : Nat) (q : Nat → Nat) (g : Nat → Option Nat) (sp : Nat → Int64) (lo ph : Nat → Int32) (pr bo : Nat → Int64) (mo : Nat → UInt64) (rf : Int64) (hd gr st nx : Int32) (hn : n ≤ 8) (hg : ∀ i, i < n → g i = some (q i)) (w : Int32) (v : Int64) (sz : Nat) : Met l yX1_bound wsX1_bound ({ frames := 2, cells := 0, slots := 0, locals := 45 }) (va_Pc [.ref h0, .int w, .long v] (xW D [(cW, .object RX0)] (cw h0 hw cW n q g sp lo ph pr bo mo rf hd gr st nx) sz)) (va_Qi (fun (r : Int32) (u : (Nat → Int64) × (Nat → Int64)) => r = fW n w v 200 ∧ u.1 = gW n w v 200 bo v ∧ u.2 = gW n w v 200 pr (cMin (pr w.toNatClampNeg) v)) (fun (u : (Nat → Int64) × (Nat → Int64)) => xB D [(cW, .object RX0)] (va_A (cw h0 hw cW n q g sp lo ph pr bo mo rf hd gr st nx) sz) (cw h0 hw cW n q g sp lo ph u.2 u.1 mo rf hd gr st nx)) (va_A (cw h0 hw cW n q g sp lo ph pr bo mo rf hd gr st nx) sz)) 0 0 (va_A (cw h0 hw cW n q g sp lo ph pr bo mo rf hd gr st nx) sz) := by
  rcases w_io n w hn with hwo | ⟨i, hi, rfl⟩
  · skip
    refine Met.ofW (cc := cX1_bound) (maxL := 5) (ret := (some .int)) (by decide) rfl ?_
    intro p e s m args below meth c s₁ B hml hv
    obtain ⟨rfl, hsz, ⟨hP, hK, hN⟩, hDt⟩ := hv
    have hx := B.exec
    have hb := B.bytes
    have hr := B.returns
    have hts := atoms_spec (ws := wsX1_bound) B.pre
    have hown : s.vm.findClass RX1 = some m.cls := findClass_of_methodNamed B.named
    have hlocks := B.notSynchronized
    subst hsz
    have hD := hDt.self (sz := s.heap.size)
    generalize hAe : va_A (cw h0 hw cW n q g sp lo ph pr bo mo rf hd gr st nx) s.heap.size = A at hD ⊢
    have hA : ∀ q : Nat, s.heap.size ≤ q → A q := fun q h => by rw [← hAe]; exact Or.inr h
    have hS : va_S A s.heap s.heap [] := va_S.rf
    have hl := lv_entry ([.ref h0, .int w, .long v]) (n := 5) (Nat.le_of_ble_eq_true rfl)
    rw [lg_entry_eq]
    generalize (lg_sl ([.ref h0, .int w, .long v]) ++ List.replicate (5 - (lg_sl ([.ref h0, .int w, .long v])).length) Slot.unset).toArray = ls at hl ⊢
    replace hl : lv_has ls 5 [(0, .ref h0), (1, .int w), (2, .long v)] := hl
    refine lv_aload_n hx hb dX1_bound_0 rfl (lv_at hl 0 rfl) ?_
    refine lv_iload_n hx hb dX1_bound_1 rfl (lv_at hl 1 rfl) ?_
    refine va_csq (W.runV (As := [.int w]) (rest := []) ⟨hx, hb, hml, hown, hts⟩ (c1_find_out l D cW h0 hw n q g sp lo ph pr bo mo rf hd gr st nx hn hg w hwo) (cwV 1 hts gX1_bound_X1_find rfl rfl rfl (by decide +kernel) ⟨Nat.le_of_ble_eq_true rfl, Nat.le_of_ble_eq_true rfl⟩) ⟨xP_blind, va_recv hK hP (ci := 1) (q0 := 0) rfl rfl, xP_at hP hK hN⟩ rfl rfl hl.1 rfl (lv_room (Nat.le_of_ble_eq_true rfl)) dX1_bound_2 ⟨Nat.le_of_ble_eq_true rfl, Nat.le_of_ble_eq_true rfl⟩) (fun r_1 hr_2 => ?_)
    subst hr_2
    refine W.eq (g2 := F0 m 5 ls [.null]) rfl ?_
    refine lv_astoreN (lv' := [(4, .null), (0, .ref h0), (1, .int w), (2, .long v)]) hx hb dX1_bound_5 hl (by decide) rfl (fun ls hl => ?_)
    refine lv_aloadN hx hb dX1_bound_7 (lv_at hl 0 rfl) ?_
    refine lv_ifnonnullN hx hb dX1_bound_9 ?_
    refine lv_iconst (v := (-1)) hx hb dX1_bound_12 (by decide) ?_
    exact W.iret (v := (-1)) hx hb hr (fun t ht hW => ⟨⟨_, (bo, pr), rfl, ⟨by simp [fW, hwo], by simp [gW, hwo], by simp [gW, hwo]⟩, xB_end hP hK hN hD ht hW⟩, hS.F ht⟩) hS.2.2 dX1_bound_13
  · skip
    refine Met.ofW (cc := cX1_bound) (maxL := 5) (ret := (some .int)) (by decide) rfl ?_
    intro p e s m args below meth c s₁ B hml hv
    obtain ⟨rfl, hsz, ⟨hP, hK, hN⟩, hDt⟩ := hv
    have hx := B.exec
    have hb := B.bytes
    have hr := B.returns
    have hts := atoms_spec (ws := wsX1_bound) B.pre
    have hown : s.vm.findClass RX1 = some m.cls := findClass_of_methodNamed B.named
    have hlocks := B.notSynchronized
    have hm1 : (.constantLong RX1 115 (200) : Cond) ∈ wsX1_bound := by decide +kernel
    have hm2 : (.initialized RX0 : Cond) ∈ wsX1_bound := by decide +kernel
    have hm3 : (.instanceMethod yX0_press : Cond) ∈ wsX1_bound := by decide +kernel
    have hm4 : (.selects RX0 yX0_press yX0_press : Cond) ∈ wsX1_bound := by decide +kernel
    subst hsz
    have hD := hDt.self (sz := s.heap.size)
    generalize hAe : va_A (cw h0 hw cW n q g sp lo ph pr bo mo rf hd gr st nx) s.heap.size = A at hD ⊢
    have hA : ∀ q : Nat, s.heap.size ≤ q → A q := fun q h => by rw [← hAe]; exact Or.inr h
    have hS : va_S A s.heap s.heap [] := va_S.rf
    have hl := lv_entry ([.ref h0, .int (nI (i + 1)), .long v]) (n := 5) (Nat.le_of_ble_eq_true rfl)
    rw [lg_entry_eq]
    generalize (lg_sl ([.ref h0, .int (nI (i + 1)), .long v]) ++ List.replicate (5 - (lg_sl ([.ref h0, .int (nI (i + 1)), .long v])).length) Slot.unset).toArray = ls at hl ⊢
    replace hl : lv_has ls 5 [(0, .ref h0), (1, .int (nI (i + 1))), (2, .long v)] := hl
    refine lv_aload_n hx hb dX1_bound_0 rfl (lv_at hl 0 rfl) ?_
    refine lv_iload_n hx hb dX1_bound_1 rfl (lv_at hl 1 rfl) ?_
    refine va_csq (W.runV (As := [.int (nI (i + 1))]) (rest := []) ⟨hx, hb, hml, hown, hts⟩ (c1_find_in l D cW h0 hw n q g sp lo ph pr bo mo rf hd gr st nx hn hg i hi) (cwV 1 hts gX1_bound_X1_find rfl rfl rfl (by decide +kernel) ⟨Nat.le_of_ble_eq_true rfl, Nat.le_of_ble_eq_true rfl⟩) ⟨xP_blind, va_recv hK hP (ci := 1) (q0 := 0) rfl rfl, xP_at hP hK hN⟩ rfl rfl hl.1 rfl (lv_room (Nat.le_of_ble_eq_true rfl)) dX1_bound_2 ⟨Nat.le_of_ble_eq_true rfl, Nat.le_of_ble_eq_true rfl⟩) (fun r_1 hr_2 => ?_)
    subst hr_2
    refine W.eq (g2 := F0 m 5 ls [.ref (q i)]) rfl ?_
    refine lv_astore (lv' := [(4, .ref (q i)), (0, .ref h0), (1, .int (nI (i + 1))), (2, .long v)]) hx hb dX1_bound_5 hl (by decide) rfl (fun ls hl => ?_)
    refine lv_aload hx hb dX1_bound_7 (lv_at hl 0 rfl) ?_
    refine lv_ifnonnull (tgt := 14) hx hb dX1_bound_9 (by decide) ?_
    refine lv_lload_n hx hb dX1_bound_14 rfl (lv_at hl 3 rfl) ?_
    refine lv_lconst (v := 0) hx hb dX1_bound_15 (by decide) ?_
    refine lv_ldc2 hx hb hown (hts _ hm1) dX1_bound_16 ?_
    refine vp_callSi (W.runS (As := [.long v, .long 0, .long 200]) (rest := []) ⟨hx, hb, hml, hown, hts⟩ (c1_within l v 0 200) (va_cwS 3 hts gX1_bound_X1_isWithin rfl rfl rfl (by decide +kernel) ⟨Nat.le_of_ble_eq_true rfl, Nat.le_of_ble_eq_true rfl⟩) ⟨fun _ _ _ _ h => h, fun _ _ _ => ⟨rfl, trivial⟩⟩ rfl rfl hl.1 rfl (lv_room (Nat.le_of_ble_eq_true rfl)) dX1_bound_19 ⟨Nat.le_of_ble_eq_true rfl, Nat.le_of_ble_eq_true rfl⟩) (fun r_3 hr_4 => ?_)
    rcases hr_4 with ⟨rfl, k_5, k_6⟩ | ⟨rfl, k_5⟩
    · skip
      refine lv_if_ne (tgt := 28) hx hb dX1_bound_22 (by decide) (fun c_7 => ?_) (fun c_7 => absurd c_7 (by decide))
      refine lv_aload hx hb dX1_bound_28 (lv_at hl 0 rfl) ?_
      refine lv_lload_n hx hb dX1_bound_30 rfl (lv_at hl 3 rfl) ?_
      refine va_putN (D := D) (ci := 0) (v := .long v) (ty := .long) (C := RX0) (T := TX0) (N := 6) hx hb hts (by decide +kernel) tyX0 tyX0_ok nmX0 hown hK hP hD hS (i + 2) (cw_at hi) rfl 4 (by decide) (va_Nw.use rfl hN.2.2.2.2.1) (fun _ h9 => h9) rfl (by decide +kernel) rfl rfl (Nat.le_of_ble_eq_true rfl) dX1_bound_31 (fun H locs hP hD hS => ?_)
      replace hP : va_P D vwCl (cw h0 hw cW n q g sp lo ph pr (va_up bo (i + 1) v) mo rf hd gr st nx) H := w_P (cw_bo v) hP
      replace hD : va_D A (cw h0 hw cW n q g sp lo ph pr (va_up bo (i + 1) v) mo rf hd gr st nx) := w_D (cw_bo v) hD
      refine lv_aload hx hb dX1_bound_34 (lv_at hl 0 rfl) ?_
      refine lv_aload hx hb dX1_bound_36 (lv_at hl 0 rfl) ?_
      refine va_getN (D := D) (ci := 0) (v := .long (pr (i + 1))) (C := RX0) (T := TX0) (N := 6) hx hb hts (by decide +kernel) hown hK hP (i + 2) (cw_at hi) rfl 3 (by decide) (va_Nw.use rfl hN.2.2.2.1) (fun _ h9 => h9) rfl dX1_bound_38 ?_
      have hF := xF hD hS hA
      refine va_callv (va_runVN (As := [.long (pr (i + 1))]) (rest := []) ⟨hx, hb, hml, hown, hts⟩ (c0_press l D cW h0 hw n q g sp lo ph pr (va_up bo (i + 1) v) mo rf hd gr st nx hn hg i hi (pr (i + 1)) _) ⟨va_cnB 1 hts gX1_bound_X0_press_n86 rfl rfl rfl hN.2.2.2.2.2.2.2.2.2 (hts _ hm2) (by decide +kernel) ⟨Nat.le_of_ble_eq_true rfl, Nat.le_of_ble_eq_true rfl⟩, (hts _ hm3), (hts _ hm4)⟩ ⟨xW_blind, va_recv hK hP (ci := 0) (q0 := (i + 2)) rfl (cw_at hi), xW_at hP hK hN hD⟩ rfl rfl hl.1 rfl (lv_room (Nat.le_of_ble_eq_true rfl)) dX1_bound_41 ⟨Nat.le_of_ble_eq_true rfl, Nat.le_of_ble_eq_true rfl⟩) hS (fun q _ h => hF q h) hF (fun u t H locs ht hvm hpo hB hz1 hk1 hS => ?_)
      obtain ⟨hP, hD⟩ := xB_use hB ht hF
      rw [hpo] at hP hD
      clear hB hk1 hz1 ht hvm
      replace hP : va_P D vwCl (cw h0 hw cW n q g sp lo ph (va_up pr (i + 1) (cMin (pr (i + 1)) ((va_up bo (i + 1) v) (i + 1)))) (va_up bo (i + 1) v) mo rf hd gr st nx) H := hP
      replace hD : va_D A (cw h0 hw cW n q g sp lo ph (va_up pr (i + 1) (cMin (pr (i + 1)) ((va_up bo (i + 1) v) (i + 1)))) (va_up bo (i + 1) v) mo rf hd gr st nx) := hD
      refine lv_iconst (v := 1) hx hb dX1_bound_44 (by decide) ?_
      exact W.iret (v := 1) hx hb hr (fun t ht hW => ⟨⟨_, (va_up bo (i + 1) v, va_up pr (i + 1) (cMin (pr (i + 1)) ((va_up bo (i + 1) v) (i + 1)))), rfl, ⟨by simp [fW, wOut_in hn hi, wIx hn hi, k_5, k_6], by simp [gW, wOut_in hn hi, wIx hn hi, k_5, k_6], by simp [gW, va_up_self, wOut_in hn hi, wIx hn hi, k_5, k_6]⟩, xB_end hP hK hN hD ht hW⟩, hS.F ht⟩) hS.2.2 dX1_bound_45
    · skip
      refine lv_if_ne (tgt := 28) hx hb dX1_bound_22 (by decide) (fun c_8 => absurd (by decide) c_8) (fun c_8 => ?_)
      refine lv_bipush (v := (-2)) hx hb dX1_bound_25 (by decide) ?_
      exact W.iret (v := (-2)) hx hb hr (fun t ht hW => ⟨⟨_, (bo, pr), rfl, ⟨by simp [fW, wOut_in hn hi, wIx hn hi, k_5], by simp [gW, wOut_in hn hi, wIx hn hi, k_5], by simp [gW, va_up_self, wOut_in hn hi, wIx hn hi, k_5]⟩, xB_end hP hK hN hD ht hW⟩, hS.F ht⟩) hS.2.2 dX1_bound_27
set_option maxHeartbeats 4000000 in
set_option maxRecDepth 100000 in
/-- lost -/
theorem c1_lost (l : Launch) (D : va_G) (cW : ClassId) (h0 hw n : Nat) (q : Nat → Nat) (g : Nat → Option Nat) (sp : Nat → Int64) (lo ph : Nat → Int32) (pr bo : Nat → Int64) (mo : Nat → UInt64) (rf : Int64) (hd gr st nx : Int32) (hn : n ≤ 8) (hg : ∀ i, i < n → g i = some (q i)) (w on : Int32) (hon : on = 0 ∨ on = 1) (sz : Nat) : Met l yX1_lost wsX1_lost ({ frames := 1, cells := 0, slots := 0, locals := 25 }) (va_Pc [.ref h0, .int w, .int on] (xW D [(cW, .object RX0)] (cw h0 hw cW n q g sp lo ph pr bo mo rf hd gr st nx) sz)) (va_Qi (fun (r : Int32) (u : (Nat → Int32)) => r = (if wOut n w then -1 else cnt (va_up lo w.toNatClampNeg on) n) ∧ u = if wOut n w then lo else va_up lo w.toNatClampNeg on) (fun (u : (Nat → Int32)) => xB D [(cW, .object RX0)] (va_A (cw h0 hw cW n q g sp lo ph pr bo mo rf hd gr st nx) sz) (cw h0 hw cW n q g sp u ph pr bo mo rf hd gr st nx)) (va_A (cw h0 hw cW n q g sp lo ph pr bo mo rf hd gr st nx) sz)) 0 0 (va_A (cw h0 hw cW n q g sp lo ph pr bo mo rf hd gr st nx) sz) := by
  rcases w_io n w hn with hwo | ⟨i, hi, rfl⟩
  · skip
    refine Met.ofW (cc := cX1_lost) (maxL := 4) (ret := (some .int)) (by decide) rfl ?_
    intro p e s m args below meth c s₁ B hml hv
    obtain ⟨rfl, hsz, ⟨hP, hK, hN⟩, hDt⟩ := hv
    have hx := B.exec
    have hb := B.bytes
    have hr := B.returns
    have hts := atoms_spec (ws := wsX1_lost) B.pre
    have hown : s.vm.findClass RX1 = some m.cls := findClass_of_methodNamed B.named
    have hlocks := B.notSynchronized
    subst hsz
    have hD := hDt.self (sz := s.heap.size)
    generalize hAe : va_A (cw h0 hw cW n q g sp lo ph pr bo mo rf hd gr st nx) s.heap.size = A at hD ⊢
    have hA : ∀ q : Nat, s.heap.size ≤ q → A q := fun q h => by rw [← hAe]; exact Or.inr h
    have hS : va_S A s.heap s.heap [] := va_S.rf
    have hl := lv_entry ([.ref h0, .int w, .int on]) (n := 4) (Nat.le_of_ble_eq_true rfl)
    rw [lg_entry_eq]
    generalize (lg_sl ([.ref h0, .int w, .int on]) ++ List.replicate (4 - (lg_sl ([.ref h0, .int w, .int on])).length) Slot.unset).toArray = ls at hl ⊢
    replace hl : lv_has ls 4 [(0, .ref h0), (1, .int w), (2, .int on)] := hl
    refine lv_aload_n hx hb dX1_lost_0 rfl (lv_at hl 0 rfl) ?_
    refine lv_iload_n hx hb dX1_lost_1 rfl (lv_at hl 1 rfl) ?_
    refine va_csq (W.runV (As := [.int w]) (rest := []) ⟨hx, hb, hml, hown, hts⟩ (c1_find_out l D cW h0 hw n q g sp lo ph pr bo mo rf hd gr st nx hn hg w hwo) (cwV 1 hts gX1_lost_X1_find rfl rfl rfl (by decide +kernel) ⟨Nat.le_of_ble_eq_true rfl, Nat.le_of_ble_eq_true rfl⟩) ⟨xP_blind, va_recv hK hP (ci := 1) (q0 := 0) rfl rfl, xP_at hP hK hN⟩ rfl rfl hl.1 rfl (lv_room (Nat.le_of_ble_eq_true rfl)) dX1_lost_2 ⟨Nat.le_of_ble_eq_true rfl, Nat.le_of_ble_eq_true rfl⟩) (fun r_1 hr_2 => ?_)
    subst hr_2
    refine W.eq (g2 := F0 m 5 ls [.null]) rfl ?_
    refine lv_astore_nN (lv' := [(3, .null), (0, .ref h0), (1, .int w), (2, .int on)]) hx hb dX1_lost_5 rfl hl (by decide) rfl (fun ls hl => ?_)
    refine lv_aload_nN hx hb dX1_lost_6 rfl (lv_at hl 0 rfl) ?_
    refine lv_ifnonnullN hx hb dX1_lost_7 ?_
    refine lv_iconst (v := (-1)) hx hb dX1_lost_10 (by decide) ?_
    exact W.iret (v := (-1)) hx hb hr (fun t ht hW => ⟨⟨_, (lo), rfl, ⟨by simp [hwo], by simp [hwo]⟩, xB_end hP hK hN hD ht hW⟩, hS.F ht⟩) hS.2.2 dX1_lost_11
  · skip
    refine Met.ofW (cc := cX1_lost) (maxL := 4) (ret := (some .int)) (by decide) rfl ?_
    intro p e s m args below meth c s₁ B hml hv
    obtain ⟨rfl, hsz, ⟨hP, hK, hN⟩, hDt⟩ := hv
    have hx := B.exec
    have hb := B.bytes
    have hr := B.returns
    have hts := atoms_spec (ws := wsX1_lost) B.pre
    have hown : s.vm.findClass RX1 = some m.cls := findClass_of_methodNamed B.named
    have hlocks := B.notSynchronized
    subst hsz
    have hD := hDt.self (sz := s.heap.size)
    generalize hAe : va_A (cw h0 hw cW n q g sp lo ph pr bo mo rf hd gr st nx) s.heap.size = A at hD ⊢
    have hA : ∀ q : Nat, s.heap.size ≤ q → A q := fun q h => by rw [← hAe]; exact Or.inr h
    have hS : va_S A s.heap s.heap [] := va_S.rf
    have hl := lv_entry ([.ref h0, .int (nI (i + 1)), .int on]) (n := 4) (Nat.le_of_ble_eq_true rfl)
    rw [lg_entry_eq]
    generalize (lg_sl ([.ref h0, .int (nI (i + 1)), .int on]) ++ List.replicate (4 - (lg_sl ([.ref h0, .int (nI (i + 1)), .int on])).length) Slot.unset).toArray = ls at hl ⊢
    replace hl : lv_has ls 4 [(0, .ref h0), (1, .int (nI (i + 1))), (2, .int on)] := hl
    refine lv_aload_n hx hb dX1_lost_0 rfl (lv_at hl 0 rfl) ?_
    refine lv_iload_n hx hb dX1_lost_1 rfl (lv_at hl 1 rfl) ?_
    refine va_csq (W.runV (As := [.int (nI (i + 1))]) (rest := []) ⟨hx, hb, hml, hown, hts⟩ (c1_find_in l D cW h0 hw n q g sp lo ph pr bo mo rf hd gr st nx hn hg i hi) (cwV 1 hts gX1_lost_X1_find rfl rfl rfl (by decide +kernel) ⟨Nat.le_of_ble_eq_true rfl, Nat.le_of_ble_eq_true rfl⟩) ⟨xP_blind, va_recv hK hP (ci := 1) (q0 := 0) rfl rfl, xP_at hP hK hN⟩ rfl rfl hl.1 rfl (lv_room (Nat.le_of_ble_eq_true rfl)) dX1_lost_2 ⟨Nat.le_of_ble_eq_true rfl, Nat.le_of_ble_eq_true rfl⟩) (fun r_1 hr_2 => ?_)
    subst hr_2
    refine W.eq (g2 := F0 m 5 ls [.ref (q i)]) rfl ?_
    refine lv_astore_n (lv' := [(3, .ref (q i)), (0, .ref h0), (1, .int (nI (i + 1))), (2, .int on)]) hx hb dX1_lost_5 rfl hl (by decide) rfl (fun ls hl => ?_)
    refine lv_aload_n hx hb dX1_lost_6 rfl (lv_at hl 0 rfl) ?_
    refine lv_ifnonnull (tgt := 12) hx hb dX1_lost_7 (by decide) ?_
    refine lv_aload_n hx hb dX1_lost_12 rfl (lv_at hl 0 rfl) ?_
    refine lv_iload_n hx hb dX1_lost_13 rfl (lv_at hl 3 rfl) ?_
    refine va_putN (D := D) (ci := 0) (v := .int on) (ty := .boolean) (C := RX0) (T := TX0) (N := 6) hx hb hts (by decide +kernel) tyX0 tyX0_ok nmX0 hown hK hP hD hS (i + 2) (cw_at hi) rfl 1 (by decide) (va_Nw.use rfl hN.2.1) (fun _ h9 => h9) rfl (by decide +kernel) (bool_nar hon) (bool_fit hon) (Nat.le_of_ble_eq_true rfl) dX1_lost_14 (fun H locs hP hD hS => ?_)
    replace hP : va_P D vwCl (cw h0 hw cW n q g sp (va_up lo (i + 1) on) ph pr bo mo rf hd gr st nx) H := w_P (cw_lo on) hP
    replace hD : va_D A (cw h0 hw cW n q g sp (va_up lo (i + 1) on) ph pr bo mo rf hd gr st nx) := w_D (cw_lo on) hD
    refine lv_aload_n hx hb dX1_lost_17 rfl (lv_at hl 1 rfl) ?_
    refine vp_callSi (W.runV (As := []) (rest := []) ⟨hx, hb, hml, hown, hts⟩ (c1_countLost l D cW h0 hw n q g sp (va_up lo (i + 1) on) ph pr bo mo rf hd gr st nx hn hg) (cwV 0 hts gX1_lost_X1_countLost rfl rfl rfl (by decide +kernel) ⟨Nat.le_of_ble_eq_true rfl, Nat.le_of_ble_eq_true rfl⟩) ⟨xP_blind, va_recv hK hP (ci := 1) (q0 := 0) rfl rfl, xP_at hP hK hN⟩ rfl rfl hl.1 rfl (lv_room (Nat.le_of_ble_eq_true rfl)) dX1_lost_18 ⟨Nat.le_of_ble_eq_true rfl, Nat.le_of_ble_eq_true rfl⟩) (fun r_3 hr_4 => ?_)
    subst hr_4
    exact W.iret (v := (cnt (va_up lo (i + 1) on) n)) hx hb hr (fun t ht hW => ⟨⟨_, (va_up lo (i + 1) on), rfl, ⟨by simp [wOut_in hn hi, wIx hn hi], by simp [wOut_in hn hi, wIx hn hi]⟩, xB_end hP hK hN hD ht hW⟩, hS.F ht⟩) hS.2.2 dX1_lost_21
set_option maxHeartbeats 4000000 in
set_option maxRecDepth 100000 in
/-- hold -/
theorem c1_hold (l : Launch) (D : va_G) (cW : ClassId) (h0 hw n : Nat) (q : Nat → Nat) (g : Nat → Option Nat) (sp : Nat → Int64) (lo ph : Nat → Int32) (pr bo : Nat → Int64) (mo : Nat → UInt64) (rf : Int64) (hd gr st nx : Int32) (hn : n ≤ 8) (hg : ∀ i, i < n → g i = some (q i)) (on : Int32) (sz : Nat) : Met l yX1_hold wsX1_hold ({ frames := 0, cells := 0, slots := 0, locals := 0 }) (va_Pc [.ref h0, .int on] (xW D [(cW, .object RX0)] (cw h0 hw cW n q g sp lo ph pr bo mo rf hd gr st nx) sz)) (va_Qi (fun (r : Int32) (u : (Int32)) => r = sHold on hd rf ∧ u = sHold on hd rf) (fun (u : (Int32)) => xB D [(cW, .object RX0)] (va_A (cw h0 hw cW n q g sp lo ph pr bo mo rf hd gr st nx) sz) (cw h0 hw cW n q g sp lo ph pr bo mo rf u gr st nx)) (va_A (cw h0 hw cW n q g sp lo ph pr bo mo rf hd gr st nx) sz)) 0 0 (va_A (cw h0 hw cW n q g sp lo ph pr bo mo rf hd gr st nx) sz) := by
  refine Met.ofW (cc := cX1_hold) (maxL := 2) (ret := (some .int)) (by decide) rfl ?_
  intro p e s m args below meth c s₁ B hml hv
  obtain ⟨rfl, hsz, ⟨hP, hK, hN⟩, hDt⟩ := hv
  have hx := B.exec
  have hb := B.bytes
  have hr := B.returns
  have hts := atoms_spec (ws := wsX1_hold) B.pre
  have hown : s.vm.findClass RX1 = some m.cls := findClass_of_methodNamed B.named
  have hlocks := B.notSynchronized
  have hm1 : (.fieldLink RX1 50 "GearBrake" "held" "Z" : Cond) ∈ wsX1_hold := by decide +kernel
  have hm2 : (.fieldLink RX1 47 "GearBrake" "reference" "J" : Cond) ∈ wsX1_hold := by decide +kernel
  subst hsz
  have hD := hDt.self (sz := s.heap.size)
  generalize hAe : va_A (cw h0 hw cW n q g sp lo ph pr bo mo rf hd gr st nx) s.heap.size = A at hD ⊢
  have hA : ∀ q : Nat, s.heap.size ≤ q → A q := fun q h => by rw [← hAe]; exact Or.inr h
  have hS : va_S A s.heap s.heap [] := va_S.rf
  have hl := lv_entry ([.ref h0, .int on]) (n := 2) (Nat.le_of_ble_eq_true rfl)
  rw [lg_entry_eq]
  generalize (lg_sl ([.ref h0, .int on]) ++ List.replicate (2 - (lg_sl ([.ref h0, .int on])).length) Slot.unset).toArray = ls at hl ⊢
  replace hl : lv_has ls 2 [(0, .ref h0), (1, .int on)] := hl
  refine lv_aload_n hx hb dX1_hold_0 rfl (lv_at hl 0 rfl) ?_
  refine lv_iload_n hx hb dX1_hold_1 rfl (lv_at hl 1 rfl) ?_
  refine lv_if_eq (tgt := 25) hx hb dX1_hold_2 (by decide) (fun c_1 => ?_) (fun c_1 => ?_)
  · skip
    refine lv_iconst (v := 0) hx hb dX1_hold_25 (by decide) ?_
    refine va_put (D := D) (ci := 1) (v := .int 0) (ty := .boolean) (C := RX1) (T := TX1) (N := 6) hx hb hts (by decide +kernel) tyX1 tyX1_ok nmX1 hown hK hP hD hS 0 rfl rfl 2 (by decide) (hts _ hm1) (fun _ h9 => h9) rfl (by decide +kernel) rfl rfl (Nat.le_of_ble_eq_true rfl) dX1_hold_26 (fun H locs hP hD hS => ?_)
    replace hP : va_P D vwCl (cw h0 hw cW n q g sp lo ph pr bo mo rf 0 gr st nx) H := hP
    replace hD : va_D A (cw h0 hw cW n q g sp lo ph pr bo mo rf 0 gr st nx) := hD
    refine lv_aload_n hx hb dX1_hold_29 rfl (lv_at hl 0 rfl) ?_
    refine va_get (D := D) (ci := 1) (v := .int 0) (C := RX1) (T := TX1) (N := 6) hx hb hts (by decide +kernel) hown hK hP 0 rfl rfl 2 (by decide) (hts _ hm1) (fun _ h9 => h9) rfl dX1_hold_30 ?_
    refine lv_if_eq (tgt := 40) hx hb dX1_hold_33 (by decide) (fun c_2 => ?_) (fun c_2 => absurd (by decide) c_2)
    refine lv_iconst (v := 0) hx hb dX1_hold_40 (by decide) ?_
    exact W.iret (v := 0) hx hb hr (fun t ht hW => ⟨⟨_, (0), rfl, ⟨by simp [sHold, c_1], by simp [sHold, c_1]⟩, xB_end hP hK hN hD ht hW⟩, hS.F ht⟩) hS.2.2 dX1_hold_41
  · skip
    refine lv_aload_n hx hb dX1_hold_5 rfl (lv_at hl 0 rfl) ?_
    refine va_get (D := D) (ci := 1) (v := .int hd) (C := RX1) (T := TX1) (N := 6) hx hb hts (by decide +kernel) hown hK hP 0 rfl rfl 2 (by decide) (hts _ hm1) (fun _ h9 => h9) rfl dX1_hold_6 ?_
    refine lv_if_ne (tgt := 21) hx hb dX1_hold_9 (by decide) (fun c_3 => ?_) (fun c_3 => ?_)
    · skip
      refine lv_iconst (v := 1) hx hb dX1_hold_21 (by decide) ?_
      refine lv_goto (tgt := 26) hx hb dX1_hold_22 (by decide) ?_
      refine va_put (D := D) (ci := 1) (v := .int 1) (ty := .boolean) (C := RX1) (T := TX1) (N := 6) hx hb hts (by decide +kernel) tyX1 tyX1_ok nmX1 hown hK hP hD hS 0 rfl rfl 2 (by decide) (hts _ hm1) (fun _ h9 => h9) rfl (by decide +kernel) rfl rfl (Nat.le_of_ble_eq_true rfl) dX1_hold_26 (fun H locs hP hD hS => ?_)
      replace hP : va_P D vwCl (cw h0 hw cW n q g sp lo ph pr bo mo rf 1 gr st nx) H := hP
      replace hD : va_D A (cw h0 hw cW n q g sp lo ph pr bo mo rf 1 gr st nx) := hD
      refine lv_aload_n hx hb dX1_hold_29 rfl (lv_at hl 0 rfl) ?_
      refine va_get (D := D) (ci := 1) (v := .int 1) (C := RX1) (T := TX1) (N := 6) hx hb hts (by decide +kernel) hown hK hP 0 rfl rfl 2 (by decide) (hts _ hm1) (fun _ h9 => h9) rfl dX1_hold_30 ?_
      refine lv_if_eq (tgt := 40) hx hb dX1_hold_33 (by decide) (fun c_4 => absurd c_4 (by decide)) (fun c_4 => ?_)
      refine lv_iconst (v := 1) hx hb dX1_hold_36 (by decide) ?_
      refine lv_goto (tgt := 41) hx hb dX1_hold_37 (by decide) ?_
      exact W.iret (v := 1) hx hb hr (fun t ht hW => ⟨⟨_, (1), rfl, ⟨by simp [sHold, c_1, c_3], by simp [sHold, c_1, c_3]⟩, xB_end hP hK hN hD ht hW⟩, hS.F ht⟩) hS.2.2 dX1_hold_41
    · skip
      refine lv_aload_n hx hb dX1_hold_12 rfl (lv_at hl 0 rfl) ?_
      refine va_get (D := D) (ci := 1) (v := .long rf) (C := RX1) (T := TX1) (N := 6) hx hb hts (by decide +kernel) hown hK hP 0 rfl rfl 1 (by decide) (hts _ hm2) (fun _ h9 => h9) rfl dX1_hold_13 ?_
      refine lv_lconst (v := 0) hx hb dX1_hold_16 (by decide) ?_
      refine W.lcmp hx hb dX1_hold_17 ?_
      refine lv_if_ne (tgt := 25) hx hb dX1_hold_18 (by decide) (fun c_5 => ?_) (fun c_5 => ?_)
      · skip
        replace c_5 := mt (lg_cmp_eq _ _).mpr c_5
        refine lv_iconst (v := 0) hx hb dX1_hold_25 (by decide) ?_
        refine va_put (D := D) (ci := 1) (v := .int 0) (ty := .boolean) (C := RX1) (T := TX1) (N := 6) hx hb hts (by decide +kernel) tyX1 tyX1_ok nmX1 hown hK hP hD hS 0 rfl rfl 2 (by decide) (hts _ hm1) (fun _ h9 => h9) rfl (by decide +kernel) rfl rfl (Nat.le_of_ble_eq_true rfl) dX1_hold_26 (fun H locs hP hD hS => ?_)
        replace hP : va_P D vwCl (cw h0 hw cW n q g sp lo ph pr bo mo rf 0 gr st nx) H := hP
        replace hD : va_D A (cw h0 hw cW n q g sp lo ph pr bo mo rf 0 gr st nx) := hD
        refine lv_aload_n hx hb dX1_hold_29 rfl (lv_at hl 0 rfl) ?_
        refine va_get (D := D) (ci := 1) (v := .int 0) (C := RX1) (T := TX1) (N := 6) hx hb hts (by decide +kernel) hown hK hP 0 rfl rfl 2 (by decide) (hts _ hm1) (fun _ h9 => h9) rfl dX1_hold_30 ?_
        refine lv_if_eq (tgt := 40) hx hb dX1_hold_33 (by decide) (fun c_6 => ?_) (fun c_6 => absurd (by decide) c_6)
        refine lv_iconst (v := 0) hx hb dX1_hold_40 (by decide) ?_
        exact W.iret (v := 0) hx hb hr (fun t ht hW => ⟨⟨_, (0), rfl, ⟨by simp [sHold, c_1, c_3, c_5], by simp [sHold, c_1, c_3, c_5]⟩, xB_end hP hK hN hD ht hW⟩, hS.F ht⟩) hS.2.2 dX1_hold_41
      · skip
        replace c_5 := (lg_cmp_eq _ _).mp c_5
        refine lv_iconst (v := 1) hx hb dX1_hold_21 (by decide) ?_
        refine lv_goto (tgt := 26) hx hb dX1_hold_22 (by decide) ?_
        refine va_put (D := D) (ci := 1) (v := .int 1) (ty := .boolean) (C := RX1) (T := TX1) (N := 6) hx hb hts (by decide +kernel) tyX1 tyX1_ok nmX1 hown hK hP hD hS 0 rfl rfl 2 (by decide) (hts _ hm1) (fun _ h9 => h9) rfl (by decide +kernel) rfl rfl (Nat.le_of_ble_eq_true rfl) dX1_hold_26 (fun H locs hP hD hS => ?_)
        replace hP : va_P D vwCl (cw h0 hw cW n q g sp lo ph pr bo mo rf 1 gr st nx) H := hP
        replace hD : va_D A (cw h0 hw cW n q g sp lo ph pr bo mo rf 1 gr st nx) := hD
        refine lv_aload_n hx hb dX1_hold_29 rfl (lv_at hl 0 rfl) ?_
        refine va_get (D := D) (ci := 1) (v := .int 1) (C := RX1) (T := TX1) (N := 6) hx hb hts (by decide +kernel) hown hK hP 0 rfl rfl 2 (by decide) (hts _ hm1) (fun _ h9 => h9) rfl dX1_hold_30 ?_
        refine lv_if_eq (tgt := 40) hx hb dX1_hold_33 (by decide) (fun c_7 => absurd c_7 (by decide)) (fun c_7 => ?_)
        refine lv_iconst (v := 1) hx hb dX1_hold_36 (by decide) ?_
        refine lv_goto (tgt := 41) hx hb dX1_hold_37 (by decide) ?_
        exact W.iret (v := 1) hx hb hr (fun t ht hW => ⟨⟨_, (1), rfl, ⟨by simp [sHold, c_1, c_3, c_5], by simp [sHold, c_1, c_3, c_5]⟩, xB_end hP hK hN hD ht hW⟩, hS.F ht⟩) hS.2.2 dX1_hold_41
set_option maxHeartbeats 4000000 in
set_option maxRecDepth 100000 in
/-- wish -/
theorem c1_wish (l : Launch) (D : va_G) (cW : ClassId) (h0 hw n : Nat) (q : Nat → Nat) (g : Nat → Option Nat) (sp : Nat → Int64) (lo ph : Nat → Int32) (pr bo : Nat → Int64) (mo : Nat → UInt64) (rf : Int64) (hd gr st nx : Int32) (hn : n ≤ 8) (hg : ∀ i, i < n → g i = some (q i)) (gw : Int32) (sz : Nat) : Met l yX1_wish wsX1_wish ({ frames := 1, cells := 0, slots := 0, locals := 25 }) (va_Pc [.ref h0, .int gw] (xW D [(cW, .object RX0)] (cw h0 hw cW n q g sp lo ph pr bo mo rf hd gr st nx) sz)) (va_Qi (fun (r : Int32) (u : (Int32) × (Int32)) => r = sWish gw rf ∧ u.1 = (if sWish gw rf = 1 then gw else gr) ∧ u.2 = (if sWish gw rf = 1 then st + 10 else nx)) (fun (u : (Int32) × (Int32)) => xB D [(cW, .object RX0)] (va_A (cw h0 hw cW n q g sp lo ph pr bo mo rf hd gr st nx) sz) (cw h0 hw cW n q g sp lo ph pr bo mo rf hd u.1 st u.2)) (va_A (cw h0 hw cW n q g sp lo ph pr bo mo rf hd gr st nx) sz)) 0 0 (va_A (cw h0 hw cW n q g sp lo ph pr bo mo rf hd gr st nx) sz) := by
  refine Met.ofW (cc := cX1_wish) (maxL := 6) (ret := (some .int)) (by decide) rfl ?_
  intro p e s m args below meth c s₁ B hml hv
  obtain ⟨rfl, hsz, ⟨hP, hK, hN⟩, hDt⟩ := hv
  have hx := B.exec
  have hb := B.bytes
  have hr := B.returns
  have hts := atoms_spec (ws := wsX1_wish) B.pre
  have hown : s.vm.findClass RX1 = some m.cls := findClass_of_methodNamed B.named
  have hlocks := B.notSynchronized
  have hm1 : (.constantLong RX1 103 (6) : Cond) ∈ wsX1_wish := by decide +kernel
  have hm2 : (.constantLong RX1 61 (20) : Cond) ∈ wsX1_wish := by decide +kernel
  have hm3 : (.constantLong RX1 105 (10) : Cond) ∈ wsX1_wish := by decide +kernel
  have hm4 : (.constantLong RX1 38 (30) : Cond) ∈ wsX1_wish := by decide +kernel
  have hm5 : (.fieldLink RX1 47 "GearBrake" "reference" "J" : Cond) ∈ wsX1_wish := by decide +kernel
  subst hsz
  have hD := hDt.self (sz := s.heap.size)
  generalize hAe : va_A (cw h0 hw cW n q g sp lo ph pr bo mo rf hd gr st nx) s.heap.size = A at hD ⊢
  have hA : ∀ q : Nat, s.heap.size ≤ q → A q := fun q h => by rw [← hAe]; exact Or.inr h
  have hS : va_S A s.heap s.heap [] := va_S.rf
  have hl := lv_entry ([.ref h0, .int gw]) (n := 6) (Nat.le_of_ble_eq_true rfl)
  rw [lg_entry_eq]
  generalize (lg_sl ([.ref h0, .int gw]) ++ List.replicate (6 - (lg_sl ([.ref h0, .int gw])).length) Slot.unset).toArray = ls at hl ⊢
  replace hl : lv_has ls 6 [(0, .ref h0), (1, .int gw)] := hl
  refine lv_iload_n hx hb dX1_wish_0 rfl (lv_at hl 1 rfl) ?_
  refine lv_i2l hx hb dX1_wish_1 rfl ?_
  refine lv_lconst (v := 1) hx hb dX1_wish_2 (by decide) ?_
  refine lv_ldc2 hx hb hown (hts _ hm1) dX1_wish_3 ?_
  refine vp_callSi (W.runS (As := [.long gw.toInt64, .long 1, .long 6]) (rest := []) ⟨hx, hb, hml, hown, hts⟩ (c1_within l gw.toInt64 1 6) (va_cwS 3 hts gX1_wish_X1_isWithin rfl rfl rfl (by decide +kernel) ⟨Nat.le_of_ble_eq_true rfl, Nat.le_of_ble_eq_true rfl⟩) ⟨fun _ _ _ _ h => h, fun _ _ _ => ⟨rfl, trivial⟩⟩ rfl rfl hl.1 rfl (lv_room (Nat.le_of_ble_eq_true rfl)) dX1_wish_6 ⟨Nat.le_of_ble_eq_true rfl, Nat.le_of_ble_eq_true rfl⟩) (fun r_1 hr_2 => ?_)
  rcases hr_2 with ⟨rfl, k_3, k_4⟩ | ⟨rfl, k_3⟩
  · skip
    rw [i64_lt1] at k_3; rw [i64_6lt] at k_4
    refine lv_if_ne (tgt := 15) hx hb dX1_wish_9 (by decide) (fun c_5 => ?_) (fun c_5 => absurd c_5 (by decide))
    refine lv_ldc2 hx hb hown (hts _ hm2) dX1_wish_15 ?_
    refine lv_iload_n hx hb dX1_wish_18 rfl (lv_at hl 1 rfl) ?_
    refine lv_iconst (v := 1) hx hb dX1_wish_19 (by decide) ?_
    refine lv_isub hx hb dX1_wish_20 ?_
    refine lv_i2l hx hb dX1_wish_21 rfl ?_
    refine lv_lmul hx hb dX1_wish_22 ?_
    refine lv_ldc2 hx hb hown (hts _ hm3) dX1_wish_23 ?_
    refine lv_lsub hx hb dX1_wish_26 ?_
    refine lv_lstore_n (lv' := [(2, .long ((20 * ((gw - 1).toInt64)) - 10)), (0, .ref h0), (1, .int gw)]) hx hb dX1_wish_27 rfl hl (by decide) rfl (fun ls hl => ?_)
    refine lv_ldc2 hx hb hown (hts _ hm2) dX1_wish_28 ?_
    refine lv_iload_n hx hb dX1_wish_31 rfl (lv_at hl 2 rfl) ?_
    refine lv_i2l hx hb dX1_wish_32 rfl ?_
    refine lv_lmul hx hb dX1_wish_33 ?_
    refine lv_ldc2 hx hb hown (hts _ hm4) dX1_wish_34 ?_
    refine lv_ladd hx hb dX1_wish_37 ?_
    refine lv_lstore (lv' := [(4, .long ((20 * gw.toInt64) + 30)), (2, .long ((20 * ((gw - 1).toInt64)) - 10)), (0, .ref h0), (1, .int gw)]) hx hb dX1_wish_38 hl (by decide) rfl (fun ls hl => ?_)
    refine lv_aload_n hx hb dX1_wish_40 rfl (lv_at hl 2 rfl) ?_
    refine va_get (D := D) (ci := 1) (v := .long rf) (C := RX1) (T := TX1) (N := 6) hx hb hts (by decide +kernel) hown hK hP 0 rfl rfl 1 (by decide) (hts _ hm5) (fun _ h9 => h9) rfl dX1_wish_41 ?_
    refine lv_lload_n hx hb dX1_wish_44 rfl (lv_at hl 1 rfl) ?_
    refine lv_lload hx hb dX1_wish_45 (lv_at hl 0 rfl) ?_
    refine vp_callSi (W.runS (As := [.long rf, .long ((20 * ((gw - 1).toInt64)) - 10), .long ((20 * gw.toInt64) + 30)]) (rest := []) ⟨hx, hb, hml, hown, hts⟩ (c1_within l rf ((20 * ((gw - 1).toInt64)) - 10) ((20 * gw.toInt64) + 30)) (va_cwS 3 hts gX1_wish_X1_isWithin rfl rfl rfl (by decide +kernel) ⟨Nat.le_of_ble_eq_true rfl, Nat.le_of_ble_eq_true rfl⟩) ⟨fun _ _ _ _ h => h, fun _ _ _ => ⟨rfl, trivial⟩⟩ rfl rfl hl.1 rfl (lv_room (Nat.le_of_ble_eq_true rfl)) dX1_wish_47 ⟨Nat.le_of_ble_eq_true rfl, Nat.le_of_ble_eq_true rfl⟩) (fun r_6 hr_7 => ?_)
    rcases hr_7 with ⟨rfl, k_8, k_9⟩ | ⟨rfl, k_8⟩
    · skip
      refine lv_if_ne (tgt := 55) hx hb dX1_wish_50 (by decide) (fun c_10 => ?_) (fun c_10 => absurd c_10 (by decide))
      refine lv_aload_n hx hb dX1_wish_55 rfl (lv_at hl 2 rfl) ?_
      refine lv_iload_n hx hb dX1_wish_56 rfl (lv_at hl 3 rfl) ?_
      refine lv_bipush (v := 10) hx hb dX1_wish_57 (by decide) ?_
      have hF := xF hD hS hA
      refine va_callv (va_runV (As := [.int gw, .int 10]) (rest := []) ⟨hx, hb, hml, hown, hts⟩ (c1_change l D cW h0 hw n q g sp lo ph pr bo mo rf hd gr st nx hn hg gw 10 _) (cwV 2 hts gX1_wish_X1_change rfl rfl rfl (by decide +kernel) ⟨Nat.le_of_ble_eq_true rfl, Nat.le_of_ble_eq_true rfl⟩) ⟨xW_blind, va_recv hK hP (ci := 1) (q0 := 0) rfl rfl, xW_at hP hK hN hD⟩ rfl rfl hl.1 rfl (lv_room (Nat.le_of_ble_eq_true rfl)) dX1_wish_59 ⟨Nat.le_of_ble_eq_true rfl, Nat.le_of_ble_eq_true rfl⟩) hS (fun q _ h => hF q h) hF (fun u t H locs ht hvm hpo hB hz1 hk1 hS => ?_)
      obtain ⟨hP, hD⟩ := xB_use hB ht hF
      obtain ⟨u1, u2⟩ := u
      dsimp only at hpo hP hD
      rw [hpo.1, hpo.2] at hP hD
      clear hB hk1 hz1 ht hvm
      replace hP : va_P D vwCl (cw h0 hw cW n q g sp lo ph pr bo mo rf hd gw st (st + 10)) H := hP
      replace hD : va_D A (cw h0 hw cW n q g sp lo ph pr bo mo rf hd gw st (st + 10)) := hD
      refine lv_iconst (v := 1) hx hb dX1_wish_62 (by decide) ?_
      exact W.iret (v := 1) hx hb hr (fun t ht hW => ⟨⟨_, (gw, st + 10), rfl, ⟨by simp [sWish, k_3, k_4, k_8, k_9], by simp [sWish, k_3, k_4, k_8, k_9], by simp [sWish, k_3, k_4, k_8, k_9]⟩, xB_end hP hK hN hD ht hW⟩, hS.F ht⟩) hS.2.2 dX1_wish_63
    · skip
      refine lv_if_ne (tgt := 55) hx hb dX1_wish_50 (by decide) (fun c_11 => absurd (by decide) c_11) (fun c_11 => ?_)
      refine lv_iconst (v := 0) hx hb dX1_wish_53 (by decide) ?_
      exact W.iret (v := 0) hx hb hr (fun t ht hW => ⟨⟨_, (gr, nx), rfl, ⟨by simp [sWish, k_3, k_4, k_8], by simp [sWish, k_3, k_4, k_8], by simp [sWish, k_3, k_4, k_8]⟩, xB_end hP hK hN hD ht hW⟩, hS.F ht⟩) hS.2.2 dX1_wish_54
  · skip
    rw [i64_lt1, i64_6lt] at k_3
    refine lv_if_ne (tgt := 15) hx hb dX1_wish_9 (by decide) (fun c_12 => absurd (by decide) c_12) (fun c_12 => ?_)
    refine lv_bipush (v := (-2)) hx hb dX1_wish_12 (by decide) ?_
    exact W.iret (v := (-2)) hx hb hr (fun t ht hW => ⟨⟨_, (gr, nx), rfl, ⟨by simp [sWish, k_3], by simp [sWish, k_3], by simp [sWish, k_3]⟩, xB_end hP hK hN hD ht hW⟩, hS.F ht⟩) hS.2.2 dX1_wish_14
set_option maxHeartbeats 4000000 in
set_option maxRecDepth 100000 in
/-- yaw -/
theorem c1_yaw (l : Launch) (D : va_G) (cW : ClassId) (h0 hw n : Nat) (q : Nat → Nat) (g : Nat → Option Nat) (sp : Nat → Int64) (lo ph : Nat → Int32) (pr bo : Nat → Int64) (mo : Nat → UInt64) (rf : Int64) (hd gr st nx : Int32) (hn : n ≤ 8) (hg : ∀ i, i < n → g i = some (q i)) (h2 : 2 ≤ n) (a b : Int64) (sz : Nat) : Met l yX1_yaw wsX1_yaw ({ frames := 2, cells := 0, slots := 0, locals := 45 }) (va_Pc [.ref h0, .long a, .long b] (xW D [(cW, .object RX0)] (cw h0 hw cW n q g sp lo ph pr bo mo rf hd gr st nx) sz)) (va_Qi (fun (r : Int32) (u : (Nat → Int64)) => r = sYaw a b (cAbs (a - b)) (cnt lo n) ∧ u = gYaw cMin a b (cAbs (a - b)) (cnt lo n) pr bo) (fun (u : (Nat → Int64)) => xB D [(cW, .object RX0)] (va_A (cw h0 hw cW n q g sp lo ph pr bo mo rf hd gr st nx) sz) (cw h0 hw cW n q g sp lo ph u bo mo rf hd gr st nx)) (va_A (cw h0 hw cW n q g sp lo ph pr bo mo rf hd gr st nx) sz)) 0 0 (va_A (cw h0 hw cW n q g sp lo ph pr bo mo rf hd gr st nx) sz) := by
  refine Met.ofW (cc := cX1_yaw) (maxL := 7) (ret := (some .int)) (by decide) rfl ?_
  intro p e s m args below meth c s₁ B hml hv
  obtain ⟨rfl, hsz, ⟨hP, hK, hN⟩, hDt⟩ := hv
  have hx := B.exec
  have hb := B.bytes
  have hr := B.returns
  have hts := atoms_spec (ws := wsX1_yaw) B.pre
  have hown : s.vm.findClass RX1 = some m.cls := findClass_of_methodNamed B.named
  have hlocks := B.notSynchronized
  have hm1 : (.constantLong RX1 75 (-1000) : Cond) ∈ wsX1_yaw := by decide +kernel
  have hm2 : (.constantLong RX1 24 (1000) : Cond) ∈ wsX1_yaw := by decide +kernel
  have hm3 : (.methodLink RX1 77 Lib.MathLoose.abs_long.x : Cond) ∈ wsX1_yaw := by decide +kernel
  have hm4 : (.static Lib.MathLoose.abs_long.x : Cond) ∈ wsX1_yaw := by decide +kernel
  have hm5 : (.initialized "java/lang/Math" : Cond) ∈ wsX1_yaw := by decide +kernel
  have hm6 : (.code Lib.MathLoose.abs_long.x Lib.MathLoose.abs_long.code 2 (some .long) : Cond) ∈ wsX1_yaw := by decide +kernel
  have hm7 : (.constantLong RX1 61 (20) : Cond) ∈ wsX1_yaw := by decide +kernel
  have hm8 : (.initialized RX0 : Cond) ∈ wsX1_yaw := by decide +kernel
  have hm9 : (.instanceMethod yX0_press : Cond) ∈ wsX1_yaw := by decide +kernel
  have hm10 : (.selects RX0 yX0_press yX0_press : Cond) ∈ wsX1_yaw := by decide +kernel
  subst hsz
  have hD := hDt.self (sz := s.heap.size)
  generalize hAe : va_A (cw h0 hw cW n q g sp lo ph pr bo mo rf hd gr st nx) s.heap.size = A at hD ⊢
  have hA : ∀ q : Nat, s.heap.size ≤ q → A q := fun q h => by rw [← hAe]; exact Or.inr h
  have hS : va_S A s.heap s.heap [] := va_S.rf
  have hl := lv_entry ([.ref h0, .long a, .long b]) (n := 7) (Nat.le_of_ble_eq_true rfl)
  rw [lg_entry_eq]
  generalize (lg_sl ([.ref h0, .long a, .long b]) ++ List.replicate (7 - (lg_sl ([.ref h0, .long a, .long b])).length) Slot.unset).toArray = ls at hl ⊢
  replace hl : lv_has ls 7 [(0, .ref h0), (1, .long a), (3, .long b)] := hl
  refine lv_lload_n hx hb dX1_yaw_0 rfl (lv_at hl 1 rfl) ?_
  refine lv_ldc2 hx hb hown (hts _ hm1) dX1_yaw_1 ?_
  refine lv_ldc2 hx hb hown (hts _ hm2) dX1_yaw_4 ?_
  refine vp_callSi (W.runS (As := [.long a, .long (-1000), .long 1000]) (rest := []) ⟨hx, hb, hml, hown, hts⟩ (c1_within l a (-1000) 1000) (va_cwS 3 hts gX1_yaw_X1_isWithin rfl rfl rfl (by decide +kernel) ⟨Nat.le_of_ble_eq_true rfl, Nat.le_of_ble_eq_true rfl⟩) ⟨fun _ _ _ _ h => h, fun _ _ _ => ⟨rfl, trivial⟩⟩ rfl rfl hl.1 rfl (lv_room (Nat.le_of_ble_eq_true rfl)) dX1_yaw_7 ⟨Nat.le_of_ble_eq_true rfl, Nat.le_of_ble_eq_true rfl⟩) (fun r_1 hr_2 => ?_)
  rcases hr_2 with ⟨rfl, k_3, k_4⟩ | ⟨rfl, k_3⟩
  · skip
    refine lv_if_eq (tgt := 26) hx hb dX1_yaw_10 (by decide) (fun c_5 => absurd c_5 (by decide)) (fun c_5 => ?_)
    refine lv_lload_n hx hb dX1_yaw_13 rfl (lv_at hl 2 rfl) ?_
    refine lv_ldc2 hx hb hown (hts _ hm1) dX1_yaw_14 ?_
    refine lv_ldc2 hx hb hown (hts _ hm2) dX1_yaw_17 ?_
    refine vp_callSi (W.runS (As := [.long b, .long (-1000), .long 1000]) (rest := []) ⟨hx, hb, hml, hown, hts⟩ (c1_within l b (-1000) 1000) (va_cwS 3 hts gX1_yaw_X1_isWithin rfl rfl rfl (by decide +kernel) ⟨Nat.le_of_ble_eq_true rfl, Nat.le_of_ble_eq_true rfl⟩) ⟨fun _ _ _ _ h => h, fun _ _ _ => ⟨rfl, trivial⟩⟩ rfl rfl hl.1 rfl (lv_room (Nat.le_of_ble_eq_true rfl)) dX1_yaw_20 ⟨Nat.le_of_ble_eq_true rfl, Nat.le_of_ble_eq_true rfl⟩) (fun r_6 hr_7 => ?_)
    rcases hr_7 with ⟨rfl, k_8, k_9⟩ | ⟨rfl, k_8⟩
    · skip
      refine lv_if_ne (tgt := 29) hx hb dX1_yaw_23 (by decide) (fun c_10 => ?_) (fun c_10 => absurd c_10 (by decide))
      refine lv_lload_n hx hb dX1_yaw_29 rfl (lv_at hl 1 rfl) ?_
      refine lv_lload_n hx hb dX1_yaw_30 rfl (lv_at hl 2 rfl) ?_
      refine lv_lsub hx hb dX1_yaw_31 ?_
      refine va_mabs_long hx hb (by rw [hml]; exact hl.1.symm) hown (hts _ hm3) (hts _ hm4) (hts _ hm5) (hts _ hm6) (Nat.le_of_ble_eq_true rfl) (Nat.le_of_ble_eq_true rfl) (Nat.le_of_ble_eq_true rfl) (Nat.le_of_ble_eq_true rfl) dX1_yaw_32 ?_
      refine W.eq (g2 := F0 m 35 ls [.long (cAbs (a - b))]) rfl ?_
      refine lv_ldc2 hx hb hown (hts _ hm7) dX1_yaw_35 ?_
      refine W.lcmp hx hb dX1_yaw_38 ?_
      refine lv_if_le (tgt := 49) hx hb dX1_yaw_39 (by decide) (fun c_11 => ?_) (fun c_11 => ?_)
      · skip
        replace c_11 := (lg_cmp_le _ _).mp c_11
        refine lv_iconst (v := 0) hx hb dX1_yaw_49 (by decide) ?_
        exact W.iret (v := 0) hx hb hr (fun t ht hW => ⟨⟨_, (pr), rfl, ⟨by simp [sYaw, fBadY, k_3, k_4, k_8, k_9, c_11], by simp [gYaw, fBadY, k_3, k_4, k_8, k_9, c_11]⟩, xB_end hP hK hN hD ht hW⟩, hS.F ht⟩) hS.2.2 dX1_yaw_50
      · skip
        replace c_11 := mt (lg_cmp_le _ _).mpr c_11
        refine lv_aload_n hx hb dX1_yaw_42 rfl (lv_at hl 0 rfl) ?_
        refine vp_callSi (W.runV (As := []) (rest := []) ⟨hx, hb, hml, hown, hts⟩ (c1_countLost l D cW h0 hw n q g sp lo ph pr bo mo rf hd gr st nx hn hg) (cwV 0 hts gX1_yaw_X1_countLost rfl rfl rfl (by decide +kernel) ⟨Nat.le_of_ble_eq_true rfl, Nat.le_of_ble_eq_true rfl⟩) ⟨xP_blind, va_recv hK hP (ci := 1) (q0 := 0) rfl rfl, xP_at hP hK hN⟩ rfl rfl hl.1 rfl (lv_room (Nat.le_of_ble_eq_true rfl)) dX1_yaw_43 ⟨Nat.le_of_ble_eq_true rfl, Nat.le_of_ble_eq_true rfl⟩) (fun r_12 hr_13 => ?_)
        subst hr_13
        refine lv_if_le (tgt := 51) hx hb dX1_yaw_46 (by decide) (fun c_14 => ?_) (fun c_14 => ?_)
        · skip
          refine lv_lload_n hx hb dX1_yaw_51 rfl (lv_at hl 1 rfl) ?_
          refine lv_lload_n hx hb dX1_yaw_52 rfl (lv_at hl 2 rfl) ?_
          refine W.lcmp hx hb dX1_yaw_53 ?_
          refine lv_if_le (tgt := 61) hx hb dX1_yaw_54 (by decide) (fun c_15 => ?_) (fun c_15 => ?_)
          · skip
            replace c_15 := (lg_cmp_le _ _).mp c_15
            refine lv_iconst (v := 1) hx hb dX1_yaw_61 (by decide) ?_
            refine lv_istore (lv' := [(5, .int 1), (0, .ref h0), (1, .long a), (3, .long b)]) hx hb dX1_yaw_62 hl (by decide) rfl (fun ls hl => ?_)
            refine lv_aload_n hx hb dX1_yaw_64 rfl (lv_at hl 1 rfl) ?_
            refine lv_iload hx hb dX1_yaw_65 (lv_at hl 0 rfl) ?_
            refine va_csq (W.runV (As := [.int 1]) (rest := []) ⟨hx, hb, hml, hown, hts⟩ (c1_find_in l D cW h0 hw n q g sp lo ph pr bo mo rf hd gr st nx hn hg 0 (by omega)) (cwV 1 hts gX1_yaw_X1_find rfl rfl rfl (by decide +kernel) ⟨Nat.le_of_ble_eq_true rfl, Nat.le_of_ble_eq_true rfl⟩) ⟨xP_blind, va_recv hK hP (ci := 1) (q0 := 0) rfl rfl, xP_at hP hK hN⟩ rfl rfl hl.1 rfl (lv_room (Nat.le_of_ble_eq_true rfl)) dX1_yaw_67 ⟨Nat.le_of_ble_eq_true rfl, Nat.le_of_ble_eq_true rfl⟩) (fun r_16 hr_17 => ?_)
            subst hr_17
            refine W.eq (g2 := F0 m 70 ls [.ref (q 0)]) rfl ?_
            refine lv_astore (lv' := [(6, .ref (q 0)), (5, .int 1), (0, .ref h0), (1, .long a), (3, .long b)]) hx hb dX1_yaw_70 hl (by decide) rfl (fun ls hl => ?_)
            refine lv_aload hx hb dX1_yaw_72 (lv_at hl 0 rfl) ?_
            refine lv_ifnonnull (tgt := 79) hx hb dX1_yaw_74 (by decide) ?_
            refine lv_aload hx hb dX1_yaw_79 (lv_at hl 0 rfl) ?_
            refine lv_aload hx hb dX1_yaw_81 (lv_at hl 0 rfl) ?_
            refine va_getN (D := D) (ci := 0) (v := .long (pr (0 + 1))) (C := RX0) (T := TX0) (N := 6) hx hb hts (by decide +kernel) hown hK hP (0 + 2) (cw_at (show 0 < n by omega)) rfl 3 (by decide) (va_Nw.use rfl hN.2.2.2.1) (fun _ h9 => h9) rfl dX1_yaw_83 ?_
            refine lv_ldc2 hx hb hown (hts _ hm7) dX1_yaw_86 ?_
            refine lv_ladd hx hb dX1_yaw_89 ?_
            have hF := xF hD hS hA
            refine va_callv (va_runVN (As := [.long ((pr (0 + 1)) + 20)]) (rest := []) ⟨hx, hb, hml, hown, hts⟩ (c0_press l D cW h0 hw n q g sp lo ph pr bo mo rf hd gr st nx hn hg 0 (by omega) ((pr (0 + 1)) + 20) _) ⟨va_cnB 1 hts gX1_yaw_X0_press_n86 rfl rfl rfl hN.2.2.2.2.2.2.2.2.2 (hts _ hm8) (by decide +kernel) ⟨Nat.le_of_ble_eq_true rfl, Nat.le_of_ble_eq_true rfl⟩, (hts _ hm9), (hts _ hm10)⟩ ⟨xW_blind, va_recv hK hP (ci := 0) (q0 := (0 + 2)) rfl (cw_at (show 0 < n by omega)), xW_at hP hK hN hD⟩ rfl rfl hl.1 rfl (lv_room (Nat.le_of_ble_eq_true rfl)) dX1_yaw_90 ⟨Nat.le_of_ble_eq_true rfl, Nat.le_of_ble_eq_true rfl⟩) hS (fun q _ h => hF q h) hF (fun u t H locs ht hvm hpo hB hz1 hk1 hS => ?_)
            obtain ⟨hP, hD⟩ := xB_use hB ht hF
            rw [hpo] at hP hD
            clear hB hk1 hz1 ht hvm
            replace hP : va_P D vwCl (cw h0 hw cW n q g sp lo ph (va_up pr (0 + 1) (cMin ((pr (0 + 1)) + 20) (bo (0 + 1)))) bo mo rf hd gr st nx) H := hP
            replace hD : va_D A (cw h0 hw cW n q g sp lo ph (va_up pr (0 + 1) (cMin ((pr (0 + 1)) + 20) (bo (0 + 1)))) bo mo rf hd gr st nx) := hD
            refine lv_iload hx hb dX1_yaw_93 (lv_at hl 1 rfl) ?_
            exact W.iret (v := 1) hx hb hr (fun t ht hW => ⟨⟨_, (va_up pr (0 + 1) (cMin ((pr (0 + 1)) + 20) (bo (0 + 1)))), rfl, ⟨by simp [sYaw, fBadY, k_3, k_4, k_8, k_9, c_11, c_14, c_15], by simp [gYaw, fBadY, k_3, k_4, k_8, k_9, c_11, c_14, c_15]⟩, xB_end hP hK hN hD ht hW⟩, hS.F ht⟩) hS.2.2 dX1_yaw_95
          · skip
            replace c_15 := mt (lg_cmp_le _ _).mpr c_15
            refine lv_iconst (v := 2) hx hb dX1_yaw_57 (by decide) ?_
            refine lv_goto (tgt := 62) hx hb dX1_yaw_58 (by decide) ?_
            refine lv_istore (lv' := [(5, .int 2), (0, .ref h0), (1, .long a), (3, .long b)]) hx hb dX1_yaw_62 hl (by decide) rfl (fun ls hl => ?_)
            refine lv_aload_n hx hb dX1_yaw_64 rfl (lv_at hl 1 rfl) ?_
            refine lv_iload hx hb dX1_yaw_65 (lv_at hl 0 rfl) ?_
            refine va_csq (W.runV (As := [.int 2]) (rest := []) ⟨hx, hb, hml, hown, hts⟩ (c1_find_in l D cW h0 hw n q g sp lo ph pr bo mo rf hd gr st nx hn hg 1 (by omega)) (cwV 1 hts gX1_yaw_X1_find rfl rfl rfl (by decide +kernel) ⟨Nat.le_of_ble_eq_true rfl, Nat.le_of_ble_eq_true rfl⟩) ⟨xP_blind, va_recv hK hP (ci := 1) (q0 := 0) rfl rfl, xP_at hP hK hN⟩ rfl rfl hl.1 rfl (lv_room (Nat.le_of_ble_eq_true rfl)) dX1_yaw_67 ⟨Nat.le_of_ble_eq_true rfl, Nat.le_of_ble_eq_true rfl⟩) (fun r_18 hr_19 => ?_)
            subst hr_19
            refine W.eq (g2 := F0 m 70 ls [.ref (q 1)]) rfl ?_
            refine lv_astore (lv' := [(6, .ref (q 1)), (5, .int 2), (0, .ref h0), (1, .long a), (3, .long b)]) hx hb dX1_yaw_70 hl (by decide) rfl (fun ls hl => ?_)
            refine lv_aload hx hb dX1_yaw_72 (lv_at hl 0 rfl) ?_
            refine lv_ifnonnull (tgt := 79) hx hb dX1_yaw_74 (by decide) ?_
            refine lv_aload hx hb dX1_yaw_79 (lv_at hl 0 rfl) ?_
            refine lv_aload hx hb dX1_yaw_81 (lv_at hl 0 rfl) ?_
            refine va_getN (D := D) (ci := 0) (v := .long (pr (1 + 1))) (C := RX0) (T := TX0) (N := 6) hx hb hts (by decide +kernel) hown hK hP (1 + 2) (cw_at (show 1 < n by omega)) rfl 3 (by decide) (va_Nw.use rfl hN.2.2.2.1) (fun _ h9 => h9) rfl dX1_yaw_83 ?_
            refine lv_ldc2 hx hb hown (hts _ hm7) dX1_yaw_86 ?_
            refine lv_ladd hx hb dX1_yaw_89 ?_
            have hF := xF hD hS hA
            refine va_callv (va_runVN (As := [.long ((pr (1 + 1)) + 20)]) (rest := []) ⟨hx, hb, hml, hown, hts⟩ (c0_press l D cW h0 hw n q g sp lo ph pr bo mo rf hd gr st nx hn hg 1 (by omega) ((pr (1 + 1)) + 20) _) ⟨va_cnB 1 hts gX1_yaw_X0_press_n86 rfl rfl rfl hN.2.2.2.2.2.2.2.2.2 (hts _ hm8) (by decide +kernel) ⟨Nat.le_of_ble_eq_true rfl, Nat.le_of_ble_eq_true rfl⟩, (hts _ hm9), (hts _ hm10)⟩ ⟨xW_blind, va_recv hK hP (ci := 0) (q0 := (1 + 2)) rfl (cw_at (show 1 < n by omega)), xW_at hP hK hN hD⟩ rfl rfl hl.1 rfl (lv_room (Nat.le_of_ble_eq_true rfl)) dX1_yaw_90 ⟨Nat.le_of_ble_eq_true rfl, Nat.le_of_ble_eq_true rfl⟩) hS (fun q _ h => hF q h) hF (fun u t H locs ht hvm hpo hB hz1 hk1 hS => ?_)
            obtain ⟨hP, hD⟩ := xB_use hB ht hF
            rw [hpo] at hP hD
            clear hB hk1 hz1 ht hvm
            replace hP : va_P D vwCl (cw h0 hw cW n q g sp lo ph (va_up pr (1 + 1) (cMin ((pr (1 + 1)) + 20) (bo (1 + 1)))) bo mo rf hd gr st nx) H := hP
            replace hD : va_D A (cw h0 hw cW n q g sp lo ph (va_up pr (1 + 1) (cMin ((pr (1 + 1)) + 20) (bo (1 + 1)))) bo mo rf hd gr st nx) := hD
            refine lv_iload hx hb dX1_yaw_93 (lv_at hl 1 rfl) ?_
            exact W.iret (v := 2) hx hb hr (fun t ht hW => ⟨⟨_, (va_up pr (1 + 1) (cMin ((pr (1 + 1)) + 20) (bo (1 + 1)))), rfl, ⟨by simp [sYaw, fBadY, k_3, k_4, k_8, k_9, c_11, c_14, c_15], by simp [gYaw, fBadY, k_3, k_4, k_8, k_9, c_11, c_14, c_15]⟩, xB_end hP hK hN hD ht hW⟩, hS.F ht⟩) hS.2.2 dX1_yaw_95
        · skip
          refine lv_iconst (v := 0) hx hb dX1_yaw_49 (by decide) ?_
          exact W.iret (v := 0) hx hb hr (fun t ht hW => ⟨⟨_, (pr), rfl, ⟨by simp [sYaw, fBadY, k_3, k_4, k_8, k_9, c_11, c_14], by simp [gYaw, fBadY, k_3, k_4, k_8, k_9, c_11, c_14]⟩, xB_end hP hK hN hD ht hW⟩, hS.F ht⟩) hS.2.2 dX1_yaw_50
    · skip
      refine lv_if_ne (tgt := 29) hx hb dX1_yaw_23 (by decide) (fun c_20 => absurd (by decide) c_20) (fun c_20 => ?_)
      refine lv_bipush (v := (-2)) hx hb dX1_yaw_26 (by decide) ?_
      exact W.iret (v := (-2)) hx hb hr (fun t ht hW => ⟨⟨_, (pr), rfl, ⟨by simp [sYaw, fBadY, k_3, k_4, k_8], by simp [gYaw, fBadY, k_3, k_4, k_8]⟩, xB_end hP hK hN hD ht hW⟩, hS.F ht⟩) hS.2.2 dX1_yaw_28
  · skip
    refine lv_if_eq (tgt := 26) hx hb dX1_yaw_10 (by decide) (fun c_21 => ?_) (fun c_21 => absurd (by decide) c_21)
    refine lv_bipush (v := (-2)) hx hb dX1_yaw_26 (by decide) ?_
    exact W.iret (v := (-2)) hx hb hr (fun t ht hW => ⟨⟨_, (pr), rfl, ⟨by simp [sYaw, fBadY, k_3], by simp [gYaw, fBadY, k_3]⟩, xB_end hP hK hN hD ht hW⟩, hS.F ht⟩) hS.2.2 dX1_yaw_28
end
section
/-! ===== the car: a step ===== -/
set_option maxHeartbeats 4000000 in
set_option maxRecDepth 100000 in
/-- step -/
theorem c1_step (l : Launch) (D : va_G) (cW : ClassId) (h0 hw n : Nat) (q : Nat → Nat) (g : Nat → Option Nat) (sp : Nat → Int64) (lo ph : Nat → Int32) (pr bo : Nat → Int64) (mo : Nat → UInt64) (rf : Int64) (hd gr st nx : Int32) (hn : n ≤ 8) (hg : ∀ i, i < n → g i = some (q i)) (ped sl : Int64) (sz : Nat) : MetD lw_cs l yX1_step wsX1_step ({ frames := 3, cells := 0, slots := 0, locals := 80 }) (va_Pc [.ref h0, .long ped, .long sl] (xW D [(cW, .object RX0)] (cw h0 hw cW n q g sp lo ph pr bo mo rf hd gr st nx) sz)) (va_Qi (fun (r : Int32) (u : (Nat → Int32) × (Nat → Int64) × (Nat → UInt64) × (Int64) × (Int32) × (Int32) × (Int32) × (Int32)) => (fBad ped sl → r = -2 ∧ u = (ph, pr, mo, rf, hd, gr, st, nx)) ∧ (¬ fBad ped sl → ∃ mo2, u = (jPh lo ph (cRef n ped rf lo sp) ped sp pr n, jPr cPr lo ph (cRef n ped rf lo sp) ped sp pr bo hd n, mo2, cRef n ped rf lo sp, if cRef n ped rf lo sp ≤ 20 then hd else 0, (if nx ≤ st + 1 then sGr (sCode gr (cRef n ped rf lo sp) (cMx sl)) gr else gr), st + 1, if nx ≤ st + 1 then sNx (sCode gr (cRef n ped rf lo sp) (cMx sl)) nx (st + 1 + 3) else nx) ∧ r = (if nx ≤ st + 1 then sGr (sCode gr (cRef n ped rf lo sp) (cMx sl)) gr else gr) ∧ ∀ k, 1 ≤ k → k ≤ n → stepM (mo k) (sp k) (jPr cPr lo ph (cRef n ped rf lo sp) ped sp pr bo hd n k) (mo2 k))) (fun (u : (Nat → Int32) × (Nat → Int64) × (Nat → UInt64) × (Int64) × (Int32) × (Int32) × (Int32) × (Int32)) => xB D [(cW, .object RX0)] (va_A (cw h0 hw cW n q g sp lo ph pr bo mo rf hd gr st nx) sz) (cw h0 hw cW n q g sp lo u.1 u.2.1 bo u.2.2.1 u.2.2.2.1 u.2.2.2.2.1 u.2.2.2.2.2.1 u.2.2.2.2.2.2.1 u.2.2.2.2.2.2.2)) (va_A (cw h0 hw cW n q g sp lo ph pr bo mo rf hd gr st nx) sz)) 0 0 (va_A (cw h0 hw cW n q g sp lo ph pr bo mo rf hd gr st nx) sz) := by
  refine MetD.ofW (cc := cX1_step) (maxL := 6) (ret := (some .int)) (by decide) rfl ?_
  intro p e s m args below meth c s₁ B hml hv hd0
  obtain ⟨rfl, hsz, ⟨hP, hK, hN⟩, hDt⟩ := hv
  have hx := B.exec
  have hb := B.bytes
  have hr := B.returns
  have hts := atoms_spec (ws := wsX1_step) B.pre
  have hown : s.vm.findClass RX1 = some m.cls := findClass_of_methodNamed B.named
  have hlocks := B.notSynchronized
  have hm1 : (.constantLong RX1 34 (100) : Cond) ∈ wsX1_step := by decide +kernel
  have hm2 : (.constantLong RX1 36 (-30) : Cond) ∈ wsX1_step := by decide +kernel
  have hm3 : (.constantLong RX1 38 (30) : Cond) ∈ wsX1_step := by decide +kernel
  have hm4 : (.fieldLink RX1 40 "GearBrake" "steps" "I" : Cond) ∈ wsX1_step := by decide +kernel
  have hm5 : (.fieldLink RX1 47 "GearBrake" "reference" "J" : Cond) ∈ wsX1_step := by decide +kernel
  have hm6 : (.fieldLink RX1 11 "GearBrake" "wheels" "[LGearBrake$Wheel;" : Cond) ∈ wsX1_step := by decide +kernel
  have hm7 : (.constantLong RX1 61 (20) : Cond) ∈ wsX1_step := by decide +kernel
  have hm8 : (.fieldLink RX1 16 "GearBrake" "gear" "I" : Cond) ∈ wsX1_step := by decide +kernel
  have hm9 : (.fieldLink RX1 50 "GearBrake" "held" "Z" : Cond) ∈ wsX1_step := by decide +kernel
  have hm10 : (.initialized RX0 : Cond) ∈ wsX1_step := by decide +kernel
  have hm11 : (.instanceMethod yX0_brake : Cond) ∈ wsX1_step := by decide +kernel
  have hm12 : (.selects RX0 yX0_brake yX0_brake : Cond) ∈ wsX1_step := by decide +kernel
  have hm13 : (.instanceMethod yX0_followModel : Cond) ∈ wsX1_step := by decide +kernel
  have hm14 : (.selects RX0 yX0_followModel yX0_followModel : Cond) ∈ wsX1_step := by decide +kernel
  subst hsz
  have hD := hDt.self (sz := s.heap.size)
  generalize hAe : va_A (cw h0 hw cW n q g sp lo ph pr bo mo rf hd gr st nx) s.heap.size = A at hD ⊢
  have hA : ∀ q : Nat, s.heap.size ≤ q → A q := fun q h => by rw [← hAe]; exact Or.inr h
  have hS : va_S A s.heap s.heap [] := va_S.rf
  have hts0 := hts
  have hN0 := hN
  have hK0 := hK
  obtain ⟨dd, hde, hdd⟩ : ∃ dd, dd = s.drawn ∧ s.drawn.sameBut dd lw_cs := ⟨_, rfl, hd0⟩
  rw [← hde]
  clear hde
  have hts := dr_words hts0 dd
  have hN := cN_draw (d := dd) hN0
  have hK : va_K D vwCl [(cW, .object RX0)] (s.setDrawn dd) := hK0
  have hl := lv_entry ([.ref h0, .long ped, .long sl]) (n := 6) (Nat.le_of_ble_eq_true rfl)
  rw [lg_entry_eq]
  generalize (lg_sl ([.ref h0, .long ped, .long sl]) ++ List.replicate (6 - (lg_sl ([.ref h0, .long ped, .long sl])).length) Slot.unset).toArray = ls at hl ⊢
  replace hl : lv_has ls 6 [(0, .ref h0), (1, .long ped), (3, .long sl)] := hl
  refine lv_lload_n hx hb dX1_step_0 rfl (lv_at hl 1 rfl) ?_
  refine lv_lconst (v := 0) hx hb dX1_step_1 (by decide) ?_
  refine lv_ldc2 hx hb hown (hts _ hm1) dX1_step_2 ?_
  refine vp_callSi (W.runS (As := [.long ped, .long 0, .long 100]) (rest := []) ⟨hx, hb, hml, hown, hts⟩ (c1_within l ped 0 100) (va_cwS 3 hts gX1_step_X1_isWithin rfl rfl rfl (by decide +kernel) ⟨Nat.le_of_ble_eq_true rfl, Nat.le_of_ble_eq_true rfl⟩) ⟨fun _ _ _ _ h => h, fun _ _ _ => ⟨rfl, trivial⟩⟩ rfl rfl hl.1 rfl (lv_room (Nat.le_of_ble_eq_true rfl)) dX1_step_5 ⟨Nat.le_of_ble_eq_true rfl, Nat.le_of_ble_eq_true rfl⟩) (fun r_1 hr_2 => ?_)
  rcases hr_2 with ⟨rfl, k_3, k_4⟩ | ⟨rfl, k_3⟩
  · skip
    refine lv_if_eq (tgt := 24) hx hb dX1_step_8 (by decide) (fun c_5 => absurd c_5 (by decide)) (fun c_5 => ?_)
    refine lv_lload_n hx hb dX1_step_11 rfl (lv_at hl 2 rfl) ?_
    refine lv_ldc2 hx hb hown (hts _ hm2) dX1_step_12 ?_
    refine lv_ldc2 hx hb hown (hts _ hm3) dX1_step_15 ?_
    refine vp_callSi (W.runS (As := [.long sl, .long (-30), .long 30]) (rest := []) ⟨hx, hb, hml, hown, hts⟩ (c1_within l sl (-30) 30) (va_cwS 3 hts gX1_step_X1_isWithin rfl rfl rfl (by decide +kernel) ⟨Nat.le_of_ble_eq_true rfl, Nat.le_of_ble_eq_true rfl⟩) ⟨fun _ _ _ _ h => h, fun _ _ _ => ⟨rfl, trivial⟩⟩ rfl rfl hl.1 rfl (lv_room (Nat.le_of_ble_eq_true rfl)) dX1_step_18 ⟨Nat.le_of_ble_eq_true rfl, Nat.le_of_ble_eq_true rfl⟩) (fun r_6 hr_7 => ?_)
    rcases hr_7 with ⟨rfl, k_8, k_9⟩ | ⟨rfl, k_8⟩
    · skip
      refine lv_if_ne (tgt := 27) hx hb dX1_step_21 (by decide) (fun c_10 => ?_) (fun c_10 => absurd c_10 (by decide))
      refine lv_aload_n hx hb dX1_step_27 rfl (lv_at hl 0 rfl) ?_
      refine lv_dup hx hb dX1_step_28 rfl ?_
      refine va_get (D := D) (ci := 1) (v := .int st) (C := RX1) (T := TX1) (N := 6) hx hb hts (by decide +kernel) hown hK hP 0 rfl rfl 4 (by decide) (hts _ hm4) (fun _ h9 => h9) rfl dX1_step_29 ?_
      refine lv_iconst (v := 1) hx hb dX1_step_32 (by decide) ?_
      refine lv_iadd hx hb dX1_step_33 ?_
      refine va_put (D := D) (ci := 1) (v := .int (st + 1)) (ty := .int) (C := RX1) (T := TX1) (N := 6) hx hb hts (by decide +kernel) tyX1 tyX1_ok nmX1 hown hK hP hD hS 0 rfl rfl 4 (by decide) (hts _ hm4) (fun _ h9 => h9) rfl (by decide +kernel) rfl rfl (Nat.le_of_ble_eq_true rfl) dX1_step_34 (fun H locs hP hD hS => ?_)
      replace hP : va_P D vwCl (cw h0 hw cW n q g sp lo ph pr bo mo rf hd gr (st + 1) nx) H := hP
      replace hD : va_D A (cw h0 hw cW n q g sp lo ph pr bo mo rf hd gr (st + 1) nx) := hD
      refine lv_aload_n hx hb dX1_step_37 rfl (lv_at hl 0 rfl) ?_
      refine lv_aload_n hx hb dX1_step_38 rfl (lv_at hl 0 rfl) ?_
      refine lv_lload_n hx hb dX1_step_39 rfl (lv_at hl 1 rfl) ?_
      refine vp_callSl (W.runV (As := [.long ped]) (rest := [.ref h0]) ⟨hx, hb, hml, hown, hts⟩ (c1_nextRef l D cW h0 hw n q g sp lo ph pr bo mo rf hd gr (st + 1) nx hn hg ped) (cwV 1 hts gX1_step_X1_nextReference rfl rfl rfl (by decide +kernel) ⟨Nat.le_of_ble_eq_true rfl, Nat.le_of_ble_eq_true rfl⟩) ⟨xP_blind, va_recv hK hP (ci := 1) (q0 := 0) rfl rfl, xP_at hP hK hN⟩ rfl rfl hl.1 rfl (lv_room (Nat.le_of_ble_eq_true rfl)) dX1_step_40 ⟨Nat.le_of_ble_eq_true rfl, Nat.le_of_ble_eq_true rfl⟩) (fun r_11 hr_12 => ?_)
      subst hr_12
      refine va_put (D := D) (ci := 1) (v := .long (cRef n ped rf lo sp)) (ty := .long) (C := RX1) (T := TX1) (N := 6) hx hb hts (by decide +kernel) tyX1 tyX1_ok nmX1 hown hK hP hD hS 0 rfl rfl 1 (by decide) (hts _ hm5) (fun _ h9 => h9) rfl (by decide +kernel) rfl rfl (Nat.le_of_ble_eq_true rfl) dX1_step_43 (fun H locs hP hD hS => ?_)
      replace hP : va_P D vwCl (cw h0 hw cW n q g sp lo ph pr bo mo (cRef n ped rf lo sp) hd gr (st + 1) nx) H := hP
      replace hD : va_D A (cw h0 hw cW n q g sp lo ph pr bo mo (cRef n ped rf lo sp) hd gr (st + 1) nx) := hD
      refine lv_iconst (v := 0) hx hb dX1_step_46 (by decide) ?_
      refine lv_istore (lv' := [(5, .int 0), (0, .ref h0), (1, .long ped), (3, .long sl)]) hx hb dX1_step_47 hl (by decide) rfl (fun ls hl => ?_)
      obtain ⟨j, mo2, hI⟩ : ∃ (j : Nat) (mo2 : Nat → UInt64), j ≤ n ∧ lv_has ls 6 [(5, .int (nI j)), (0, .ref h0), (1, .long ped), (3, .long sl)] ∧ va_P D vwCl (cw h0 hw cW n q g sp lo (jPh lo ph (cRef n ped rf lo sp) ped sp pr j) (jPr cPr lo ph (cRef n ped rf lo sp) ped sp pr bo hd j) bo mo2 (cRef n ped rf lo sp) hd gr (st + 1) nx) H ∧ va_D A (cw h0 hw cW n q g sp lo (jPh lo ph (cRef n ped rf lo sp) ped sp pr j) (jPr cPr lo ph (cRef n ped rf lo sp) ped sp pr bo hd j) bo mo2 (cRef n ped rf lo sp) hd gr (st + 1) nx) ∧ va_S A s.heap H locs ∧ s.drawn.sameBut dd lw_cs ∧ jM j mo sp (fun k => cPr (sPh (lo k) (cRef n ped rf lo sp) ped (sp k) (ph k) (pr k)) ped (pr k) hd (bo k)) mo2 := ⟨0, mo, Nat.zero_le _, by exact lv_sub hl [0, 1, 2, 3] rfl, by rw [jPh_0, jPr_0]; exact hP, by rw [jPh_0, jPr_0]; exact hD, hS, hdd, jM_0 _ _ _⟩
      obtain ⟨d, hjd⟩ : ∃ d, j + d = n := ⟨n - j, by omega⟩
      clear hl hts hN hK hP hD hS hdd
      induction d generalizing H locs ls dd j mo2 with
      | zero =>
        obtain ⟨hjn, hl, hP, hD, hS, hdd, hM⟩ := hI
        have hjn : j = n := by omega
        have hts := dr_words hts0 dd
        have hN := cN_draw (d := dd) hN0
        have hK : va_K D vwCl [(cW, .object RX0)] (s.setDrawn dd) := hK0
        rw [hjn] at hl hP hD
        rw [hjn] at hM
        refine lv_iload hx hb dX1_step_49 (lv_at hl 0 rfl) ?_
        refine lv_aload_n hx hb dX1_step_51 rfl (lv_at hl 1 rfl) ?_
        refine va_get (D := D) (ci := 1) (v := .ref hw) (C := RX1) (T := TX1) (N := 6) hx hb hts (by decide +kernel) hown hK hP 0 rfl rfl 0 (by decide) (hts _ hm6) (fun _ h9 => h9) rfl dX1_step_52 ?_
        refine va_alen (D := D) (x := (n, .inr (.inr (.inr (.inr g))))) (v := nI n) hx hb hK hP 1 0 rfl rfl rfl dX1_step_55 ?_
        refine lv_icmp_ge (tgt := 94) hx hb dX1_step_56 (by decide) (fun c_13 => ?_) (fun c_13 => absurd (nI_le (Nat.le_refl n) (by omega)) c_13)
        refine lv_aload_n hx hb dX1_step_94 rfl (lv_at hl 1 rfl) ?_
        refine va_get (D := D) (ci := 1) (v := .long (cRef n ped rf lo sp)) (C := RX1) (T := TX1) (N := 6) hx hb hts (by decide +kernel) hown hK hP 0 rfl rfl 1 (by decide) (hts _ hm5) (fun _ h9 => h9) rfl dX1_step_95 ?_
        refine lv_ldc2 hx hb hown (hts _ hm7) dX1_step_98 ?_
        refine W.lcmp hx hb dX1_step_101 ?_
        refine lv_if_le (tgt := 110) hx hb dX1_step_102 (by decide) (fun c_14 => ?_) (fun c_14 => ?_)
        · skip
          replace c_14 := (lg_cmp_le _ _).mp c_14
          refine lv_aload_n hx hb dX1_step_110 rfl (lv_at hl 1 rfl) ?_
          refine lv_lload_n hx hb dX1_step_111 rfl (lv_at hl 3 rfl) ?_
          have hF := xF hD hS hA
          refine va_callv (va_runV (As := [.long sl]) (rest := []) ⟨hx, hb, hml, hown, hts⟩ (c1_shift l D cW h0 hw n q g sp lo (jPh lo ph (cRef n ped rf lo sp) ped sp pr n) (jPr cPr lo ph (cRef n ped rf lo sp) ped sp pr bo hd n) bo mo2 (cRef n ped rf lo sp) hd gr (st + 1) nx hn hg sl _) (cwV 1 hts gX1_step_X1_shift rfl rfl rfl (by decide +kernel) ⟨Nat.le_of_ble_eq_true rfl, Nat.le_of_ble_eq_true rfl⟩) ⟨xW_blind, va_recv hK hP (ci := 1) (q0 := 0) rfl rfl, xW_at hP hK hN hD⟩ rfl rfl hl.1 rfl (lv_room (Nat.le_of_ble_eq_true rfl)) dX1_step_112 ⟨Nat.le_of_ble_eq_true rfl, Nat.le_of_ble_eq_true rfl⟩) hS (fun q _ h => hF q h) hF (fun u t H locs ht hvm hpo hB hz1 hk1 hS => ?_)
          obtain ⟨hP, hD⟩ := xB_use hB ht hF
          obtain ⟨u1, u2⟩ := u
          dsimp only at hpo hP hD
          rw [hpo.1, hpo.2] at hP hD
          clear hB hk1 hz1 ht hvm
          replace hP : va_P D vwCl (cw h0 hw cW n q g sp lo (jPh lo ph (cRef n ped rf lo sp) ped sp pr n) (jPr cPr lo ph (cRef n ped rf lo sp) ped sp pr bo hd n) bo mo2 (cRef n ped rf lo sp) hd (if nx ≤ st + 1 then sGr (sCode gr (cRef n ped rf lo sp) (cMx sl)) gr else gr) (st + 1) (if nx ≤ st + 1 then sNx (sCode gr (cRef n ped rf lo sp) (cMx sl)) nx (st + 1 + 3) else nx)) H := hP
          replace hD : va_D A (cw h0 hw cW n q g sp lo (jPh lo ph (cRef n ped rf lo sp) ped sp pr n) (jPr cPr lo ph (cRef n ped rf lo sp) ped sp pr bo hd n) bo mo2 (cRef n ped rf lo sp) hd (if nx ≤ st + 1 then sGr (sCode gr (cRef n ped rf lo sp) (cMx sl)) gr else gr) (st + 1) (if nx ≤ st + 1 then sNx (sCode gr (cRef n ped rf lo sp) (cMx sl)) nx (st + 1 + 3) else nx)) := hD
          refine lv_aload_n hx hb dX1_step_115 rfl (lv_at hl 1 rfl) ?_
          refine va_get (D := D) (ci := 1) (v := .int (if nx ≤ st + 1 then sGr (sCode gr (cRef n ped rf lo sp) (cMx sl)) gr else gr)) (C := RX1) (T := TX1) (N := 6) hx hb hts (by decide +kernel) hown hK hP 0 rfl rfl 3 (by decide) (hts _ hm8) (fun _ h9 => h9) rfl dX1_step_116 ?_
          refine W.endD hdd ?_
          exact W.iret (v := (if nx ≤ st + 1 then sGr (sCode gr (cRef n ped rf lo sp) (cMx sl)) gr else gr)) hx hb hr (fun t ht hW => ⟨⟨_, (jPh lo ph (cRef n ped rf lo sp) ped sp pr n, jPr cPr lo ph (cRef n ped rf lo sp) ped sp pr bo hd n, mo2, cRef n ped rf lo sp, hd, if nx ≤ st + 1 then sGr (sCode gr (cRef n ped rf lo sp) (cMx sl)) gr else gr, st + 1, if nx ≤ st + 1 then sNx (sCode gr (cRef n ped rf lo sp) (cMx sl)) nx (st + 1 + 3) else nx), rfl, ⟨fun h => absurd h (by simp [fBad, k_3, k_4, k_8, k_9]), fun _ => ⟨mo2, by simp [c_14], by simp, fun k h1 h2 => by rw [jPr_in _ _ _ _ _ _ _ _ _ h1 h2]; exact hM.1 k h1 h2⟩⟩, xB_end hP hK hN hD ht hW⟩, hS.F ht⟩) hS.2.2 dX1_step_119
        · skip
          replace c_14 := mt (lg_cmp_le _ _).mpr c_14
          refine lv_aload_n hx hb dX1_step_105 rfl (lv_at hl 1 rfl) ?_
          refine lv_iconst (v := 0) hx hb dX1_step_106 (by decide) ?_
          refine va_put (D := D) (ci := 1) (v := .int 0) (ty := .boolean) (C := RX1) (T := TX1) (N := 6) hx hb hts (by decide +kernel) tyX1 tyX1_ok nmX1 hown hK hP hD hS 0 rfl rfl 2 (by decide) (hts _ hm9) (fun _ h9 => h9) rfl (by decide +kernel) rfl rfl (Nat.le_of_ble_eq_true rfl) dX1_step_107 (fun H locs hP hD hS => ?_)
          replace hP : va_P D vwCl (cw h0 hw cW n q g sp lo (jPh lo ph (cRef n ped rf lo sp) ped sp pr n) (jPr cPr lo ph (cRef n ped rf lo sp) ped sp pr bo hd n) bo mo2 (cRef n ped rf lo sp) 0 gr (st + 1) nx) H := hP
          replace hD : va_D A (cw h0 hw cW n q g sp lo (jPh lo ph (cRef n ped rf lo sp) ped sp pr n) (jPr cPr lo ph (cRef n ped rf lo sp) ped sp pr bo hd n) bo mo2 (cRef n ped rf lo sp) 0 gr (st + 1) nx) := hD
          refine lv_aload_n hx hb dX1_step_110 rfl (lv_at hl 1 rfl) ?_
          refine lv_lload_n hx hb dX1_step_111 rfl (lv_at hl 3 rfl) ?_
          have hF := xF hD hS hA
          refine va_callv (va_runV (As := [.long sl]) (rest := []) ⟨hx, hb, hml, hown, hts⟩ (c1_shift l D cW h0 hw n q g sp lo (jPh lo ph (cRef n ped rf lo sp) ped sp pr n) (jPr cPr lo ph (cRef n ped rf lo sp) ped sp pr bo hd n) bo mo2 (cRef n ped rf lo sp) 0 gr (st + 1) nx hn hg sl _) (cwV 1 hts gX1_step_X1_shift rfl rfl rfl (by decide +kernel) ⟨Nat.le_of_ble_eq_true rfl, Nat.le_of_ble_eq_true rfl⟩) ⟨xW_blind, va_recv hK hP (ci := 1) (q0 := 0) rfl rfl, xW_at hP hK hN hD⟩ rfl rfl hl.1 rfl (lv_room (Nat.le_of_ble_eq_true rfl)) dX1_step_112 ⟨Nat.le_of_ble_eq_true rfl, Nat.le_of_ble_eq_true rfl⟩) hS (fun q _ h => hF q h) hF (fun u t H locs ht hvm hpo hB hz1 hk1 hS => ?_)
          obtain ⟨hP, hD⟩ := xB_use hB ht hF
          obtain ⟨u1, u2⟩ := u
          dsimp only at hpo hP hD
          rw [hpo.1, hpo.2] at hP hD
          clear hB hk1 hz1 ht hvm
          replace hP : va_P D vwCl (cw h0 hw cW n q g sp lo (jPh lo ph (cRef n ped rf lo sp) ped sp pr n) (jPr cPr lo ph (cRef n ped rf lo sp) ped sp pr bo hd n) bo mo2 (cRef n ped rf lo sp) 0 (if nx ≤ st + 1 then sGr (sCode gr (cRef n ped rf lo sp) (cMx sl)) gr else gr) (st + 1) (if nx ≤ st + 1 then sNx (sCode gr (cRef n ped rf lo sp) (cMx sl)) nx (st + 1 + 3) else nx)) H := hP
          replace hD : va_D A (cw h0 hw cW n q g sp lo (jPh lo ph (cRef n ped rf lo sp) ped sp pr n) (jPr cPr lo ph (cRef n ped rf lo sp) ped sp pr bo hd n) bo mo2 (cRef n ped rf lo sp) 0 (if nx ≤ st + 1 then sGr (sCode gr (cRef n ped rf lo sp) (cMx sl)) gr else gr) (st + 1) (if nx ≤ st + 1 then sNx (sCode gr (cRef n ped rf lo sp) (cMx sl)) nx (st + 1 + 3) else nx)) := hD
          refine lv_aload_n hx hb dX1_step_115 rfl (lv_at hl 1 rfl) ?_
          refine va_get (D := D) (ci := 1) (v := .int (if nx ≤ st + 1 then sGr (sCode gr (cRef n ped rf lo sp) (cMx sl)) gr else gr)) (C := RX1) (T := TX1) (N := 6) hx hb hts (by decide +kernel) hown hK hP 0 rfl rfl 3 (by decide) (hts _ hm8) (fun _ h9 => h9) rfl dX1_step_116 ?_
          refine W.endD hdd ?_
          exact W.iret (v := (if nx ≤ st + 1 then sGr (sCode gr (cRef n ped rf lo sp) (cMx sl)) gr else gr)) hx hb hr (fun t ht hW => ⟨⟨_, (jPh lo ph (cRef n ped rf lo sp) ped sp pr n, jPr cPr lo ph (cRef n ped rf lo sp) ped sp pr bo hd n, mo2, cRef n ped rf lo sp, 0, if nx ≤ st + 1 then sGr (sCode gr (cRef n ped rf lo sp) (cMx sl)) gr else gr, st + 1, if nx ≤ st + 1 then sNx (sCode gr (cRef n ped rf lo sp) (cMx sl)) nx (st + 1 + 3) else nx), rfl, ⟨fun h => absurd h (by simp [fBad, k_3, k_4, k_8, k_9]), fun _ => ⟨mo2, by simp [c_14], by simp, fun k h1 h2 => by rw [jPr_in _ _ _ _ _ _ _ _ _ h1 h2]; exact hM.1 k h1 h2⟩⟩, xB_end hP hK hN hD ht hW⟩, hS.F ht⟩) hS.2.2 dX1_step_119
      | succ d ih =>
        obtain ⟨hjn, hl, hP, hD, hS, hdd, hM⟩ := hI
        have hlt : j < n := by omega
        have hts := dr_words hts0 dd
        have hN := cN_draw (d := dd) hN0
        have hK : va_K D vwCl [(cW, .object RX0)] (s.setDrawn dd) := hK0
        refine lv_iload hx hb dX1_step_49 (lv_at hl 0 rfl) ?_
        refine lv_aload_n hx hb dX1_step_51 rfl (lv_at hl 1 rfl) ?_
        refine va_get (D := D) (ci := 1) (v := .ref hw) (C := RX1) (T := TX1) (N := 6) hx hb hts (by decide +kernel) hown hK hP 0 rfl rfl 0 (by decide) (hts _ hm6) (fun _ h9 => h9) rfl dX1_step_52 ?_
        refine va_alen (D := D) (x := (n, .inr (.inr (.inr (.inr g))))) (v := nI n) hx hb hK hP 1 0 rfl rfl rfl dX1_step_55 ?_
        refine lv_icmp_ge (tgt := 94) hx hb dX1_step_56 (by decide) (fun c_15 => absurd c_15 (nI_ge hlt (by omega))) (fun c_15 => ?_)
        refine lv_aload_n hx hb dX1_step_59 rfl (lv_at hl 1 rfl) ?_
        refine va_get (D := D) (ci := 1) (v := .ref hw) (C := RX1) (T := TX1) (N := 6) hx hb hts (by decide +kernel) hown hK hP 0 rfl rfl 0 (by decide) (hts _ hm6) (fun _ h9 => h9) rfl dX1_step_60 ?_
        refine lv_iload hx hb dX1_step_63 (lv_at hl 0 rfl) ?_
        refine va_aldq (D := D) hx hb hK hP 1 0 rfl rfl (ix_n hn hlt) dX1_step_65 ?_
        refine W.eq (g2 := F0 m 66 ls [.ref (q j)]) (by rw [ix_nc hn hlt, hg j hlt]; rfl) ?_
        refine lv_lload_n hx hb dX1_step_66 rfl (lv_at hl 2 rfl) ?_
        refine lv_aload_n hx hb dX1_step_67 rfl (lv_at hl 1 rfl) ?_
        refine va_get (D := D) (ci := 1) (v := .long (cRef n ped rf lo sp)) (C := RX1) (T := TX1) (N := 6) hx hb hts (by decide +kernel) hown hK hP 0 rfl rfl 1 (by decide) (hts _ hm5) (fun _ h9 => h9) rfl dX1_step_68 ?_
        refine lv_aload_n hx hb dX1_step_71 rfl (lv_at hl 1 rfl) ?_
        refine va_get (D := D) (ci := 1) (v := .int hd) (C := RX1) (T := TX1) (N := 6) hx hb hts (by decide +kernel) hown hK hP 0 rfl rfl 2 (by decide) (hts _ hm9) (fun _ h9 => h9) rfl dX1_step_72 ?_
        have hF := xF hD hS hA
        refine va_callv (va_runVN (As := [.long ped, .long (cRef n ped rf lo sp), .int hd]) (rest := []) ⟨hx, hb, hml, hown, hts⟩ (c0_brake l D cW h0 hw n q g sp lo (jPh lo ph (cRef n ped rf lo sp) ped sp pr j) (jPr cPr lo ph (cRef n ped rf lo sp) ped sp pr bo hd j) bo mo2 (cRef n ped rf lo sp) hd gr (st + 1) nx hn hg j hlt ped (cRef n ped rf lo sp) hd _) ⟨va_cnB 3 hts gX1_step_X0_brake_n54 rfl rfl rfl hN.2.2.2.2.2.2.2.1 (hts _ hm10) (by decide +kernel) ⟨Nat.le_of_ble_eq_true rfl, Nat.le_of_ble_eq_true rfl⟩, (hts _ hm11), (hts _ hm12)⟩ ⟨xW_blind, va_recv hK hP (ci := 0) (q0 := (j + 2)) rfl (cw_at hlt), xW_at hP hK hN hD⟩ rfl rfl hl.1 rfl (lv_room (Nat.le_of_ble_eq_true rfl)) dX1_step_75 ⟨Nat.le_of_ble_eq_true rfl, Nat.le_of_ble_eq_true rfl⟩) hS (fun q _ h => hF q h) hF (fun u t H locs ht hvm hpo hB hz1 hk1 hS => ?_)
        obtain ⟨hP, hD⟩ := xB_use hB ht hF
        obtain ⟨u1, u2⟩ := u
        dsimp only at hpo hP hD
        rw [jPh_at _ _ _ _ _ _ (Nat.lt_succ_self j), jPr_at _ _ _ _ _ _ _ _ _ (Nat.lt_succ_self j), jPh_up, jPr_up] at hpo
        rw [hpo.1, hpo.2] at hP hD
        clear hB hk1 hz1 ht hvm
        replace hP : va_P D vwCl (cw h0 hw cW n q g sp lo (jPh lo ph (cRef n ped rf lo sp) ped sp pr (j + 1)) (jPr cPr lo ph (cRef n ped rf lo sp) ped sp pr bo hd (j + 1)) bo mo2 (cRef n ped rf lo sp) hd gr (st + 1) nx) H := hP
        replace hD : va_D A (cw h0 hw cW n q g sp lo (jPh lo ph (cRef n ped rf lo sp) ped sp pr (j + 1)) (jPr cPr lo ph (cRef n ped rf lo sp) ped sp pr bo hd (j + 1)) bo mo2 (cRef n ped rf lo sp) hd gr (st + 1) nx) := hD
        refine lv_aload_n hx hb dX1_step_78 rfl (lv_at hl 1 rfl) ?_
        refine va_get (D := D) (ci := 1) (v := .ref hw) (C := RX1) (T := TX1) (N := 6) hx hb hts (by decide +kernel) hown hK hP 0 rfl rfl 0 (by decide) (hts _ hm6) (fun _ h9 => h9) rfl dX1_step_79 ?_
        refine lv_iload hx hb dX1_step_82 (lv_at hl 0 rfl) ?_
        refine va_aldq (D := D) hx hb hK hP 1 0 rfl rfl (ix_n hn hlt) dX1_step_84 ?_
        refine W.eq (g2 := F0 m 85 ls [.ref (q j)]) (by rw [ix_nc hn hlt, hg j hlt]; rfl) ?_
        have hF := xF hD hS hA
        refine va_callvD hdd (va_runVN_D (As := []) (rest := []) ⟨hx, hb, hml, hown, hts⟩ (c0_follow l D cW h0 hw n q g sp lo (jPh lo ph (cRef n ped rf lo sp) ped sp pr (j + 1)) (jPr cPr lo ph (cRef n ped rf lo sp) ped sp pr bo hd (j + 1)) bo mo2 (cRef n ped rf lo sp) hd gr (st + 1) nx hn hg j hlt _) ⟨va_cnB 0 hts gX1_step_X0_followModel_n58 rfl rfl rfl hN.2.2.2.2.2.2.2.2.1 (hts _ hm10) (by decide +kernel) ⟨Nat.le_of_ble_eq_true rfl, Nat.le_of_ble_eq_true rfl⟩, (hts _ hm13), (hts _ hm14)⟩ ⟨xW_blind, va_recv hK hP (ci := 0) (q0 := (j + 2)) rfl (cw_at hlt), xW_at hP hK hN hD⟩ rfl rfl hl.1 rfl (lv_room (Nat.le_of_ble_eq_true rfl)) dX1_step_85 ⟨Nat.le_of_ble_eq_true rfl, Nat.le_of_ble_eq_true rfl⟩) hS (fun q _ h => hF q h) hF (fun u t H locs ht hvm hpo hB hz1 hk1 hS d_16 hdd_17 => ?_)
        have hts := dr_words hts0 d_16
        have hN := cN_draw (d := d_16) hN0
        have hK : va_K D vwCl [(cW, .object RX0)] (s.setDrawn d_16) := hK0
        obtain ⟨hP, hD⟩ := xB_use hB ht hF
        obtain ⟨yy, hpo, hy⟩ := hpo
        rw [hpo] at hP hD
        clear hB hk1 hz1 ht hvm
        replace hP : va_P D vwCl (cw h0 hw cW n q g sp lo (jPh lo ph (cRef n ped rf lo sp) ped sp pr (j + 1)) (jPr cPr lo ph (cRef n ped rf lo sp) ped sp pr bo hd (j + 1)) bo (va_up mo2 (j + 1) yy) (cRef n ped rf lo sp) hd gr (st + 1) nx) H := hP
        replace hD : va_D A (cw h0 hw cW n q g sp lo (jPh lo ph (cRef n ped rf lo sp) ped sp pr (j + 1)) (jPr cPr lo ph (cRef n ped rf lo sp) ped sp pr bo hd (j + 1)) bo (va_up mo2 (j + 1) yy) (cRef n ped rf lo sp) hd gr (st + 1) nx) := hD
        refine lv_iinc (v := nI (j + 1)) (lv' := [(5, .int (nI (j + 1))), (0, .ref h0), (1, .long ped), (3, .long sl)]) hx hb dX1_step_88 hl (k := 0) rfl (nI_1 j) (by decide) rfl (fun ls hl => ?_)
        refine lv_goto (tgt := 49) hx hb dX1_step_91 (by decide) ?_
        exact ih _ _ _ _ (j := j + 1) (mo2 := va_up mo2 (j + 1) yy) ⟨by omega, by exact lv_sub hl [0, 1, 2, 3] rfl, by exact hP, by exact hD, hS, hdd_17, jM_up hM hy (jPr_in _ _ _ _ _ _ _ _ _ (by omega) (Nat.le_refl _))⟩ (by omega)
    · skip
      refine lv_if_ne (tgt := 27) hx hb dX1_step_21 (by decide) (fun c_18 => absurd (by decide) c_18) (fun c_18 => ?_)
      refine lv_bipush (v := (-2)) hx hb dX1_step_24 (by decide) ?_
      refine W.endD hdd ?_
      exact W.iret (v := (-2)) hx hb hr (fun t ht hW => ⟨⟨_, (ph, pr, mo, rf, hd, gr, st, nx), rfl, ⟨fun _ => ⟨rfl, rfl⟩, fun h => absurd (Or.inr k_8) h⟩, xB_end hP hK hN hD ht hW⟩, hS.F ht⟩) hS.2.2 dX1_step_26
  · skip
    refine lv_if_eq (tgt := 24) hx hb dX1_step_8 (by decide) (fun c_19 => ?_) (fun c_19 => absurd (by decide) c_19)
    refine lv_bipush (v := (-2)) hx hb dX1_step_24 (by decide) ?_
    refine W.endD hdd ?_
    exact W.iret (v := (-2)) hx hb hr (fun t ht hW => ⟨⟨_, (ph, pr, mo, rf, hd, gr, st, nx), rfl, ⟨fun _ => ⟨rfl, rfl⟩, fun h => absurd (Or.inl k_3) h⟩, xB_end hP hK hN hD ht hW⟩, hS.F ht⟩) hS.2.2 dX1_step_26
end
section
/-! ===== the reference: methods that only read ===== -/
set_option maxHeartbeats 4000000 in
set_option maxRecDepth 100000 in
/-- noWheel of no wheel -/
theorem m2_no_out (l : Launch) (D : va_G) (m0 : Nat) (a : Nat → Nat) (C : Nat → ClassId) (n : Nat) (th : Int32) (sp : Nat → Int64) (lo ph : Nat → Int32) (pr bo : Nat → Int64) (mo : Nat → UInt64) (rf : Int64) (gr hd st ch rs : Int32) (hn : n ≤ 8) (w : Int32) (hwo : wOut n w) : Met l yX2_noWheel wsX2_noWheel ({ frames := 0, cells := 0, slots := 0, locals := 0 }) (va_Pc [.ref m0, .int w] (xP D [(C 1, .long), (C 2, .boolean), (C 3, .int), (C 4, .long), (C 5, .long), (C 6, .double)] (mw m0 a C th (nI n) sp lo ph pr bo mo rf gr hd st ch rs))) (vp_Si (fun r : Int32 => r = 1)) 0 0 (fun _ => False) := by
  refine Met.ofW (cc := cX2_noWheel) (maxL := 2) (ret := (some .boolean)) (by decide) rfl ?_
  intro p e s m args below meth c s₁ B hml hv
  obtain ⟨rfl, hP, hK, hN⟩ := hv
  have hx := B.exec
  have hb := B.bytes
  have hr := B.returns
  have hts := atoms_spec (ws := wsX2_noWheel) B.pre
  have hown : s.vm.findClass RX2 = some m.cls := findClass_of_methodNamed B.named
  have hlocks := B.notSynchronized
  have hm1 : (.fieldLink RX2 35 "GearBrakeModel" "wheels" "I" : Cond) ∈ wsX2_noWheel := by decide +kernel
  have hl := lv_entry ([.ref m0, .int w]) (n := 2) (Nat.le_of_ble_eq_true rfl)
  rw [lg_entry_eq]
  generalize (lg_sl ([.ref m0, .int w]) ++ List.replicate (2 - (lg_sl ([.ref m0, .int w])).length) Slot.unset).toArray = ls at hl ⊢
  replace hl : lv_has ls 2 [(0, .ref m0), (1, .int w)] := hl
  refine lv_iload_n hx hb dX2_noWheel_0 rfl (lv_at hl 1 rfl) ?_
  refine lv_iconst (v := 1) hx hb dX2_noWheel_1 (by decide) ?_
  refine lv_icmp_lt (tgt := 13) hx hb dX2_noWheel_2 (by decide) (fun c_1 => ?_) (fun c_1 => ?_)
  · skip
    refine lv_iconst (v := 1) hx hb dX2_noWheel_13 (by decide) ?_
    refine lv_goto (tgt := 18) hx hb dX2_noWheel_14 (by decide) ?_
    exact W.zret (v := 1) (ty := .boolean) hx hb hr rfl (fun t ht hW => ⟨_, rfl, rfl, ht⟩) (fun q h => absurd h List.not_mem_nil) dX2_noWheel_18
  · skip
    refine lv_iload_n hx hb dX2_noWheel_5 rfl (lv_at hl 1 rfl) ?_
    refine lv_aload_n hx hb dX2_noWheel_6 rfl (lv_at hl 0 rfl) ?_
    refine va_get (D := D) (ci := 2) (v := .int (nI n)) (C := RX2) (T := TX2) (N := 14) hx hb hts (by decide +kernel) hown hK hP 0 rfl rfl 1 (by decide) (hts _ hm1) (fun _ h9 => h9) rfl dX2_noWheel_7 ?_
    refine lv_icmp_le (tgt := 17) hx hb dX2_noWheel_10 (by decide) (fun c_2 => ?_) (fun c_2 => ?_)
    · skip
      exact (hwo.elim c_1 (i32_nlt c_2)).elim
    · skip
      refine lv_iconst (v := 1) hx hb dX2_noWheel_13 (by decide) ?_
      refine lv_goto (tgt := 18) hx hb dX2_noWheel_14 (by decide) ?_
      exact W.zret (v := 1) (ty := .boolean) hx hb hr rfl (fun t ht hW => ⟨_, rfl, rfl, ht⟩) (fun q h => absurd h List.not_mem_nil) dX2_noWheel_18
set_option maxHeartbeats 4000000 in
set_option maxRecDepth 100000 in
/-- noWheel of wheel i + 1 -/
theorem m2_no_in (l : Launch) (D : va_G) (m0 : Nat) (a : Nat → Nat) (C : Nat → ClassId) (n : Nat) (th : Int32) (sp : Nat → Int64) (lo ph : Nat → Int32) (pr bo : Nat → Int64) (mo : Nat → UInt64) (rf : Int64) (gr hd st ch rs : Int32) (hn : n ≤ 8) (i : Nat) (hi : i < n) : Met l yX2_noWheel wsX2_noWheel ({ frames := 0, cells := 0, slots := 0, locals := 0 }) (va_Pc [.ref m0, .int (nI (i + 1))] (xP D [(C 1, .long), (C 2, .boolean), (C 3, .int), (C 4, .long), (C 5, .long), (C 6, .double)] (mw m0 a C th (nI n) sp lo ph pr bo mo rf gr hd st ch rs))) (vp_Si (fun r : Int32 => r = 0)) 0 0 (fun _ => False) := by
  refine Met.ofW (cc := cX2_noWheel) (maxL := 2) (ret := (some .boolean)) (by decide) rfl ?_
  intro p e s m args below meth c s₁ B hml hv
  obtain ⟨rfl, hP, hK, hN⟩ := hv
  have hx := B.exec
  have hb := B.bytes
  have hr := B.returns
  have hts := atoms_spec (ws := wsX2_noWheel) B.pre
  have hown : s.vm.findClass RX2 = some m.cls := findClass_of_methodNamed B.named
  have hlocks := B.notSynchronized
  have hm1 : (.fieldLink RX2 35 "GearBrakeModel" "wheels" "I" : Cond) ∈ wsX2_noWheel := by decide +kernel
  have hl := lv_entry ([.ref m0, .int (nI (i + 1))]) (n := 2) (Nat.le_of_ble_eq_true rfl)
  rw [lg_entry_eq]
  generalize (lg_sl ([.ref m0, .int (nI (i + 1))]) ++ List.replicate (2 - (lg_sl ([.ref m0, .int (nI (i + 1))])).length) Slot.unset).toArray = ls at hl ⊢
  replace hl : lv_has ls 2 [(0, .ref m0), (1, .int (nI (i + 1)))] := hl
  refine lv_iload_n hx hb dX2_noWheel_0 rfl (lv_at hl 1 rfl) ?_
  refine lv_iconst (v := 1) hx hb dX2_noWheel_1 (by decide) ?_
  refine lv_icmp_lt (tgt := 13) hx hb dX2_noWheel_2 (by decide) (fun c_1 => absurd (Or.inl c_1) (wOut_in hn hi)) (fun c_1 => ?_)
  refine lv_iload_n hx hb dX2_noWheel_5 rfl (lv_at hl 1 rfl) ?_
  refine lv_aload_n hx hb dX2_noWheel_6 rfl (lv_at hl 0 rfl) ?_
  refine va_get (D := D) (ci := 2) (v := .int (nI n)) (C := RX2) (T := TX2) (N := 14) hx hb hts (by decide +kernel) hown hK hP 0 rfl rfl 1 (by decide) (hts _ hm1) (fun _ h9 => h9) rfl dX2_noWheel_7 ?_
  refine lv_icmp_le (tgt := 17) hx hb dX2_noWheel_10 (by decide) (fun c_2 => ?_) (fun c_2 => absurd (nI_le (by omega) (by omega)) c_2)
  refine lv_iconst (v := 0) hx hb dX2_noWheel_17 (by decide) ?_
  exact W.zret (v := 0) (ty := .boolean) hx hb hr rfl (fun t ht hW => ⟨_, rfl, rfl, ht⟩) (fun q h => absurd h List.not_mem_nil) dX2_noWheel_18
set_option maxHeartbeats 4000000 in
set_option maxRecDepth 100000 in
/-- thrown -/
theorem m2_thrown (l : Launch) (D : va_G) (m0 : Nat) (a : Nat → Nat) (C : Nat → ClassId) (n : Nat) (th : Int32) (sp : Nat → Int64) (lo ph : Nat → Int32) (pr bo : Nat → Int64) (mo : Nat → UInt64) (rf : Int64) (gr hd st ch rs : Int32) (hn : n ≤ 8) : Met l yX2_thrown wsX2_thrown ({ frames := 0, cells := 0, slots := 0, locals := 0 }) (va_Pc [.ref m0] (xP D [(C 1, .long), (C 2, .boolean), (C 3, .int), (C 4, .long), (C 5, .long), (C 6, .double)] (mw m0 a C th (nI n) sp lo ph pr bo mo rf gr hd st ch rs))) (vp_Si (fun r : Int32 => r = th)) 0 0 (fun _ => False) := by
  refine Met.ofW (cc := cX2_thrown) (maxL := 1) (ret := (some .int)) (by decide) rfl ?_
  intro p e s m args below meth c s₁ B hml hv
  obtain ⟨rfl, hP, hK, hN⟩ := hv
  have hx := B.exec
  have hb := B.bytes
  have hr := B.returns
  have hts := atoms_spec (ws := wsX2_thrown) B.pre
  have hown : s.vm.findClass RX2 = some m.cls := findClass_of_methodNamed B.named
  have hlocks := B.notSynchronized
  have hm1 : (.fieldLink RX2 40 "GearBrakeModel" "thrown" "I" : Cond) ∈ wsX2_thrown := by decide +kernel
  have hl := lv_entry ([.ref m0]) (n := 1) (Nat.le_of_ble_eq_true rfl)
  rw [lg_entry_eq]
  generalize (lg_sl ([.ref m0]) ++ List.replicate (1 - (lg_sl ([.ref m0])).length) Slot.unset).toArray = ls at hl ⊢
  replace hl : lv_has ls 1 [(0, .ref m0)] := hl
  refine lv_aload_n hx hb dX2_thrown_0 rfl (lv_at hl 0 rfl) ?_
  refine va_get (D := D) (ci := 2) (v := .int th) (C := RX2) (T := TX2) (N := 14) hx hb hts (by decide +kernel) hown hK hP 0 rfl rfl 0 (by decide) (hts _ hm1) (fun _ h9 => h9) rfl dX2_thrown_1 ?_
  exact W.iret (v := th) hx hb hr (fun t ht hW => ⟨_, rfl, rfl, ht⟩) (fun q h => absurd h List.not_mem_nil) dX2_thrown_4
set_option maxHeartbeats 4000000 in
set_option maxRecDepth 100000 in
/-- lostOnes -/
theorem m2_lostOnes (l : Launch) (D : va_G) (m0 : Nat) (a : Nat → Nat) (C : Nat → ClassId) (n : Nat) (th : Int32) (sp : Nat → Int64) (lo ph : Nat → Int32) (pr bo : Nat → Int64) (mo : Nat → UInt64) (rf : Int64) (gr hd st ch rs : Int32) (hn : n ≤ 8) : Met l yX2_lostOnes wsX2_lostOnes ({ frames := 0, cells := 0, slots := 0, locals := 0 }) (va_Pc [.ref m0] (xP D [(C 1, .long), (C 2, .boolean), (C 3, .int), (C 4, .long), (C 5, .long), (C 6, .double)] (mw m0 a C th (nI n) sp lo ph pr bo mo rf gr hd st ch rs))) (vp_Si (fun r : Int32 => r = cnt lo n)) 0 0 (fun _ => False) := by
  refine Met.ofW (cc := cX2_lostOnes) (maxL := 3) (ret := (some .int)) (by decide) rfl ?_
  intro p e s m args below meth c s₁ B hml hv
  obtain ⟨rfl, hP, hK, hN⟩ := hv
  have hx := B.exec
  have hb := B.bytes
  have hr := B.returns
  have hts := atoms_spec (ws := wsX2_lostOnes) B.pre
  have hown : s.vm.findClass RX2 = some m.cls := findClass_of_methodNamed B.named
  have hlocks := B.notSynchronized
  have hm1 : (.fieldLink RX2 35 "GearBrakeModel" "wheels" "I" : Cond) ∈ wsX2_lostOnes := by decide +kernel
  have hm2 : (.fieldLink RX2 13 "GearBrakeModel" "losts" "[Z" : Cond) ∈ wsX2_lostOnes := by decide +kernel
  have hl := lv_entry ([.ref m0]) (n := 3) (Nat.le_of_ble_eq_true rfl)
  rw [lg_entry_eq]
  generalize (lg_sl ([.ref m0]) ++ List.replicate (3 - (lg_sl ([.ref m0])).length) Slot.unset).toArray = ls at hl ⊢
  replace hl : lv_has ls 3 [(0, .ref m0)] := hl
  refine lv_iconst (v := 0) hx hb dX2_lostOnes_0 (by decide) ?_
  refine lv_istore_n (lv' := [(1, .int 0), (0, .ref m0)]) hx hb dX2_lostOnes_1 rfl hl (by decide) rfl (fun ls hl => ?_)
  refine lv_iconst (v := 1) hx hb dX2_lostOnes_2 (by decide) ?_
  refine lv_istore_n (lv' := [(2, .int 1), (1, .int 0), (0, .ref m0)]) hx hb dX2_lostOnes_3 rfl hl (by decide) rfl (fun ls hl => ?_)
  obtain ⟨j, hI⟩ : ∃ (j : Nat), j ≤ n ∧ lv_has ls 3 [(2, .int (nI (j + 1))), (1, .int (cnt lo j)), (0, .ref m0)] := ⟨0, Nat.zero_le _, by exact lv_sub hl [0, 1, 2] rfl⟩
  obtain ⟨d, hjd⟩ : ∃ d, j + d = n := ⟨n - j, by omega⟩
  clear hl
  induction d generalizing ls j with
  | zero =>
    obtain ⟨hjn, hl⟩ := hI
    have hjn : j = n := by omega
    rw [hjn] at hl
    refine lv_iload_n hx hb dX2_lostOnes_4 rfl (lv_at hl 0 rfl) ?_
    refine lv_aload_n hx hb dX2_lostOnes_5 rfl (lv_at hl 2 rfl) ?_
    refine va_get (D := D) (ci := 2) (v := .int (nI n)) (C := RX2) (T := TX2) (N := 14) hx hb hts (by decide +kernel) hown hK hP 0 rfl rfl 1 (by decide) (hts _ hm1) (fun _ h9 => h9) rfl dX2_lostOnes_6 ?_
    refine lv_icmp_gt (tgt := 35) hx hb dX2_lostOnes_9 (by decide) (fun c_1 => ?_) (fun c_1 => absurd (nI_lt (Nat.lt_succ_self n) (by omega)) c_1)
    refine lv_iload_n hx hb dX2_lostOnes_35 rfl (lv_at hl 1 rfl) ?_
    exact W.iret (v := (cnt lo n)) hx hb hr (fun t ht hW => ⟨_, rfl, rfl, ht⟩) (fun q h => absurd h List.not_mem_nil) dX2_lostOnes_36
  | succ d ih =>
    obtain ⟨hjn, hl⟩ := hI
    have hlt : j < n := by omega
    refine lv_iload_n hx hb dX2_lostOnes_4 rfl (lv_at hl 0 rfl) ?_
    refine lv_aload_n hx hb dX2_lostOnes_5 rfl (lv_at hl 2 rfl) ?_
    refine va_get (D := D) (ci := 2) (v := .int (nI n)) (C := RX2) (T := TX2) (N := 14) hx hb hts (by decide +kernel) hown hK hP 0 rfl rfl 1 (by decide) (hts _ hm1) (fun _ h9 => h9) rfl dX2_lostOnes_6 ?_
    refine lv_icmp_gt (tgt := 35) hx hb dX2_lostOnes_9 (by decide) (fun c_2 => absurd c_2 (nI_nlt (by omega) (by omega))) (fun c_2 => ?_)
    refine lv_aload_n hx hb dX2_lostOnes_12 rfl (lv_at hl 2 rfl) ?_
    refine va_get (D := D) (ci := 2) (v := .ref (a 2)) (C := RX2) (T := TX2) (N := 14) hx hb hts (by decide +kernel) hown hK hP 0 rfl rfl 3 (by decide) (hts _ hm2) (fun _ h9 => h9) rfl dX2_lostOnes_13 ?_
    refine lv_iload_n hx hb dX2_lostOnes_16 rfl (lv_at hl 0 rfl) ?_
    refine va_zald (D := D) (f := lo) hx hb hK hP 2 1 rfl rfl (ix_9 hn hlt) dX2_lostOnes_17 ?_
    refine W.eq (g2 := F0 m 18 ls [.int (lo (j + 1))]) (by rw [wIx hn hlt]) ?_
    refine lv_if_eq (tgt := 27) hx hb dX2_lostOnes_18 (by decide) (fun c_3 => ?_) (fun c_3 => ?_)
    · skip
      refine lv_iload_n hx hb dX2_lostOnes_27 rfl (lv_at hl 1 rfl) ?_
      refine lv_istore_n (lv' := [(1, .int (cnt lo j)), (2, .int (nI (j + 1))), (0, .ref m0)]) hx hb dX2_lostOnes_28 rfl hl (by decide) rfl (fun ls hl => ?_)
      refine lv_iinc (v := nI (j + 1 + 1)) (lv' := [(2, .int (nI (j + 1 + 1))), (1, .int (cnt lo j)), (0, .ref m0)]) hx hb dX2_lostOnes_29 hl (k := 1) rfl (nI_1 (j + 1)) (by decide) rfl (fun ls hl => ?_)
      refine lv_goto (tgt := 4) hx hb dX2_lostOnes_32 (by decide) ?_
      exact ih _ (j + 1) ⟨by omega, by rw [show nI ((j + 1) + 1) = nI (j + 1 + 1) from rfl]; rw [show cnt lo (j + 1) = cnt lo j from by simp [cnt, c_3]]; exact lv_sub hl [0, 1, 2] rfl⟩ (by omega)
    · skip
      refine lv_iload_n hx hb dX2_lostOnes_21 rfl (lv_at hl 1 rfl) ?_
      refine lv_iconst (v := 1) hx hb dX2_lostOnes_22 (by decide) ?_
      refine lv_iadd hx hb dX2_lostOnes_23 ?_
      refine lv_goto (tgt := 28) hx hb dX2_lostOnes_24 (by decide) ?_
      refine lv_istore_n (lv' := [(1, .int ((cnt lo j) + 1)), (2, .int (nI (j + 1))), (0, .ref m0)]) hx hb dX2_lostOnes_28 rfl hl (by decide) rfl (fun ls hl => ?_)
      refine lv_iinc (v := nI (j + 1 + 1)) (lv' := [(2, .int (nI (j + 1 + 1))), (1, .int ((cnt lo j) + 1)), (0, .ref m0)]) hx hb dX2_lostOnes_29 hl (k := 1) rfl (nI_1 (j + 1)) (by decide) rfl (fun ls hl => ?_)
      refine lv_goto (tgt := 4) hx hb dX2_lostOnes_32 (by decide) ?_
      exact ih _ (j + 1) ⟨by omega, by rw [show nI ((j + 1) + 1) = nI (j + 1 + 1) from rfl]; rw [show cnt lo (j + 1) = (cnt lo j) + 1 from by simp [cnt, c_3]]; exact lv_sub hl [0, 1, 2] rfl⟩ (by omega)
set_option maxHeartbeats 4000000 in
set_option maxRecDepth 100000 in
/-- phaseOf -/
theorem m2_phaseOf (l : Launch) (D : va_G) (m0 : Nat) (a : Nat → Nat) (C : Nat → ClassId) (n : Nat) (th : Int32) (sp : Nat → Int64) (lo ph : Nat → Int32) (pr bo : Nat → Int64) (mo : Nat → UInt64) (rf : Int64) (gr hd st ch rs : Int32) (hn : n ≤ 8) (i : Nat) (hi : i < n) (ped : Int64) : Met l yX2_phaseOf wsX2_phaseOf ({ frames := 0, cells := 0, slots := 0, locals := 0 }) (va_Pc [.ref m0, .int (nI (i + 1)), .long ped] (xP D [(C 1, .long), (C 2, .boolean), (C 3, .int), (C 4, .long), (C 5, .long), (C 6, .double)] (mw m0 a C th (nI n) sp lo ph pr bo mo rf gr hd st ch rs))) (vp_Si (fun r : Int32 => r = sPh (lo (i + 1)) rf ped (sp (i + 1)) (ph (i + 1)) (pr (i + 1)))) 0 0 (fun _ => False) := by
  refine Met.ofW (cc := cX2_phaseOf) (maxL := 5) (ret := (some .int)) (by decide) rfl ?_
  intro p e s m args below meth c s₁ B hml hv
  obtain ⟨rfl, hP, hK, hN⟩ := hv
  have hx := B.exec
  have hb := B.bytes
  have hr := B.returns
  have hts := atoms_spec (ws := wsX2_phaseOf) B.pre
  have hown : s.vm.findClass RX2 = some m.cls := findClass_of_methodNamed B.named
  have hlocks := B.notSynchronized
  have hm1 : (.fieldLink RX2 13 "GearBrakeModel" "losts" "[Z" : Cond) ∈ wsX2_phaseOf := by decide +kernel
  have hm2 : (.fieldLink RX2 53 "GearBrakeModel" "reference" "J" : Cond) ∈ wsX2_phaseOf := by decide +kernel
  have hm3 : (.constantLong RX2 38 (100) : Cond) ∈ wsX2_phaseOf := by decide +kernel
  have hm4 : (.fieldLink RX2 7 "GearBrakeModel" "speeds" "[J" : Cond) ∈ wsX2_phaseOf := by decide +kernel
  have hm5 : (.constantLong RX2 59 (80) : Cond) ∈ wsX2_phaseOf := by decide +kernel
  have hm6 : (.constantLong RX2 61 (90) : Cond) ∈ wsX2_phaseOf := by decide +kernel
  have hm7 : (.fieldLink RX2 17 "GearBrakeModel" "phases" "[I" : Cond) ∈ wsX2_phaseOf := by decide +kernel
  have hm8 : (.fieldLink RX2 21 "GearBrakeModel" "pressures" "[J" : Cond) ∈ wsX2_phaseOf := by decide +kernel
  have hl := lv_entry ([.ref m0, .int (nI (i + 1)), .long ped]) (n := 5) (Nat.le_of_ble_eq_true rfl)
  rw [lg_entry_eq]
  generalize (lg_sl ([.ref m0, .int (nI (i + 1)), .long ped]) ++ List.replicate (5 - (lg_sl ([.ref m0, .int (nI (i + 1)), .long ped])).length) Slot.unset).toArray = ls at hl ⊢
  replace hl : lv_has ls 5 [(0, .ref m0), (1, .int (nI (i + 1))), (2, .long ped)] := hl
  refine lv_aload_n hx hb dX2_phaseOf_0 rfl (lv_at hl 0 rfl) ?_
  refine va_get (D := D) (ci := 2) (v := .ref (a 2)) (C := RX2) (T := TX2) (N := 14) hx hb hts (by decide +kernel) hown hK hP 0 rfl rfl 3 (by decide) (hts _ hm1) (fun _ h9 => h9) rfl dX2_phaseOf_1 ?_
  refine lv_iload_n hx hb dX2_phaseOf_4 rfl (lv_at hl 1 rfl) ?_
  refine va_zald (D := D) (f := lo) hx hb hK hP 2 1 rfl rfl (ix_9 hn hi) dX2_phaseOf_5 ?_
  refine W.eq (g2 := F0 m 6 ls [.int (lo (i + 1))]) (by rw [wIx hn hi]) ?_
  refine lv_if_ne (tgt := 24) hx hb dX2_phaseOf_6 (by decide) (fun c_1 => ?_) (fun c_1 => ?_)
  · skip
    refine lv_iconst (v := 0) hx hb dX2_phaseOf_24 (by decide) ?_
    exact W.iret (v := 0) hx hb hr (fun t ht hW => ⟨_, rfl, by first | (simp [sPh, c_1]; done) | (simp [sPh, c_1]; rfl), ht⟩) (fun q h => absurd h List.not_mem_nil) dX2_phaseOf_25
  · skip
    refine lv_aload_n hx hb dX2_phaseOf_9 rfl (lv_at hl 0 rfl) ?_
    refine va_get (D := D) (ci := 2) (v := .long rf) (C := RX2) (T := TX2) (N := 14) hx hb hts (by decide +kernel) hown hK hP 0 rfl rfl 8 (by decide) (hts _ hm2) (fun _ h9 => h9) rfl dX2_phaseOf_10 ?_
    refine lv_lconst (v := 0) hx hb dX2_phaseOf_13 (by decide) ?_
    refine W.lcmp hx hb dX2_phaseOf_14 ?_
    refine lv_if_eq (tgt := 24) hx hb dX2_phaseOf_15 (by decide) (fun c_2 => ?_) (fun c_2 => ?_)
    · skip
      replace c_2 := (lg_cmp_eq _ _).mp c_2
      refine lv_iconst (v := 0) hx hb dX2_phaseOf_24 (by decide) ?_
      exact W.iret (v := 0) hx hb hr (fun t ht hW => ⟨_, rfl, by first | (simp [sPh, c_1, c_2]; done) | (simp [sPh, c_1, c_2]; rfl), ht⟩) (fun q h => absurd h List.not_mem_nil) dX2_phaseOf_25
    · skip
      replace c_2 := mt (lg_cmp_eq _ _).mpr c_2
      refine lv_lload_n hx hb dX2_phaseOf_18 rfl (lv_at hl 2 rfl) ?_
      refine lv_lconst (v := 0) hx hb dX2_phaseOf_19 (by decide) ?_
      refine W.lcmp hx hb dX2_phaseOf_20 ?_
      refine lv_if_ne (tgt := 26) hx hb dX2_phaseOf_21 (by decide) (fun c_3 => ?_) (fun c_3 => ?_)
      · skip
        replace c_3 := mt (lg_cmp_eq _ _).mpr c_3
        refine lv_ldc2 hx hb hown (hts _ hm3) dX2_phaseOf_26 ?_
        refine lv_aload_n hx hb dX2_phaseOf_29 rfl (lv_at hl 0 rfl) ?_
        refine va_get (D := D) (ci := 2) (v := .ref (a 1)) (C := RX2) (T := TX2) (N := 14) hx hb hts (by decide +kernel) hown hK hP 0 rfl rfl 2 (by decide) (hts _ hm4) (fun _ h9 => h9) rfl dX2_phaseOf_30 ?_
        refine lv_iload_n hx hb dX2_phaseOf_33 rfl (lv_at hl 1 rfl) ?_
        refine va_lald (D := D) (f := sp) hx hb hK hP 1 0 rfl rfl (ix_9 hn hi) dX2_phaseOf_34 ?_
        refine W.eq (g2 := F0 m 35 ls [.long (sp (i + 1)), .long 100]) (by rw [wIx hn hi]) ?_
        refine lv_lmul hx hb dX2_phaseOf_35 ?_
        refine lv_ldc2 hx hb hown (hts _ hm5) dX2_phaseOf_36 ?_
        refine lv_aload_n hx hb dX2_phaseOf_39 rfl (lv_at hl 0 rfl) ?_
        refine va_get (D := D) (ci := 2) (v := .long rf) (C := RX2) (T := TX2) (N := 14) hx hb hts (by decide +kernel) hown hK hP 0 rfl rfl 8 (by decide) (hts _ hm2) (fun _ h9 => h9) rfl dX2_phaseOf_40 ?_
        refine lv_lmul hx hb dX2_phaseOf_43 ?_
        refine W.lcmp hx hb dX2_phaseOf_44 ?_
        refine lv_if_ge (tgt := 50) hx hb dX2_phaseOf_45 (by decide) (fun c_4 => ?_) (fun c_4 => ?_)
        · skip
          replace c_4 := (lg_cmp_ge _ _).mp c_4
          refine lv_ldc2 hx hb hown (hts _ hm3) dX2_phaseOf_50 ?_
          refine lv_aload_n hx hb dX2_phaseOf_53 rfl (lv_at hl 0 rfl) ?_
          refine va_get (D := D) (ci := 2) (v := .ref (a 1)) (C := RX2) (T := TX2) (N := 14) hx hb hts (by decide +kernel) hown hK hP 0 rfl rfl 2 (by decide) (hts _ hm4) (fun _ h9 => h9) rfl dX2_phaseOf_54 ?_
          refine lv_iload_n hx hb dX2_phaseOf_57 rfl (lv_at hl 1 rfl) ?_
          refine va_lald (D := D) (f := sp) hx hb hK hP 1 0 rfl rfl (ix_9 hn hi) dX2_phaseOf_58 ?_
          refine W.eq (g2 := F0 m 59 ls [.long (sp (i + 1)), .long 100]) (by rw [wIx hn hi]) ?_
          refine lv_lmul hx hb dX2_phaseOf_59 ?_
          refine lv_ldc2 hx hb hown (hts _ hm6) dX2_phaseOf_60 ?_
          refine lv_aload_n hx hb dX2_phaseOf_63 rfl (lv_at hl 0 rfl) ?_
          refine va_get (D := D) (ci := 2) (v := .long rf) (C := RX2) (T := TX2) (N := 14) hx hb hts (by decide +kernel) hown hK hP 0 rfl rfl 8 (by decide) (hts _ hm2) (fun _ h9 => h9) rfl dX2_phaseOf_64 ?_
          refine lv_lmul hx hb dX2_phaseOf_67 ?_
          refine W.lcmp hx hb dX2_phaseOf_68 ?_
          refine lv_if_ge (tgt := 74) hx hb dX2_phaseOf_69 (by decide) (fun c_5 => ?_) (fun c_5 => ?_)
          · skip
            replace c_5 := (lg_cmp_ge _ _).mp c_5
            refine lv_aload_n hx hb dX2_phaseOf_74 rfl (lv_at hl 0 rfl) ?_
            refine va_get (D := D) (ci := 2) (v := .ref (a 3)) (C := RX2) (T := TX2) (N := 14) hx hb hts (by decide +kernel) hown hK hP 0 rfl rfl 4 (by decide) (hts _ hm7) (fun _ h9 => h9) rfl dX2_phaseOf_75 ?_
            refine lv_iload_n hx hb dX2_phaseOf_78 rfl (lv_at hl 1 rfl) ?_
            refine va_iald (D := D) (f := ph) hx hb hK hP 3 2 rfl rfl (ix_9 hn hi) dX2_phaseOf_79 ?_
            refine W.eq (g2 := F0 m 80 ls [.int (ph (i + 1))]) (by rw [wIx hn hi]) ?_
            refine lv_istore (lv' := [(4, .int (ph (i + 1))), (0, .ref m0), (1, .int (nI (i + 1))), (2, .long ped)]) hx hb dX2_phaseOf_80 hl (by decide) rfl (fun ls hl => ?_)
            refine lv_iload hx hb dX2_phaseOf_82 (lv_at hl 0 rfl) ?_
            refine lv_iconst (v := 1) hx hb dX2_phaseOf_84 (by decide) ?_
            refine lv_icmp_eq (tgt := 111) hx hb dX2_phaseOf_85 (by decide) (fun c_6 => ?_) (fun c_6 => ?_)
            · skip
              refine lv_iconst (v := 3) hx hb dX2_phaseOf_111 (by decide) ?_
              refine lv_goto (tgt := 116) hx hb dX2_phaseOf_112 (by decide) ?_
              exact W.iret (v := 3) hx hb hr (fun t ht hW => ⟨_, rfl, by first | (simp [sPh, c_1, c_2, c_3, c_4, c_5, c_6]; done) | (simp [sPh, c_1, c_2, c_3, c_4, c_5, c_6]; rfl), ht⟩) (fun q h => absurd h List.not_mem_nil) dX2_phaseOf_116
            · skip
              refine lv_iload hx hb dX2_phaseOf_88 (lv_at hl 0 rfl) ?_
              refine lv_iconst (v := 2) hx hb dX2_phaseOf_90 (by decide) ?_
              refine lv_icmp_eq (tgt := 111) hx hb dX2_phaseOf_91 (by decide) (fun c_7 => ?_) (fun c_7 => ?_)
              · skip
                refine lv_iconst (v := 3) hx hb dX2_phaseOf_111 (by decide) ?_
                refine lv_goto (tgt := 116) hx hb dX2_phaseOf_112 (by decide) ?_
                exact W.iret (v := 3) hx hb hr (fun t ht hW => ⟨_, rfl, by first | (simp [sPh, c_1, c_2, c_3, c_4, c_5, c_6, c_7]; done) | (simp [sPh, c_1, c_2, c_3, c_4, c_5, c_6, c_7]; rfl), ht⟩) (fun q h => absurd h List.not_mem_nil) dX2_phaseOf_116
              · skip
                refine lv_iload hx hb dX2_phaseOf_94 (lv_at hl 0 rfl) ?_
                refine lv_iconst (v := 3) hx hb dX2_phaseOf_96 (by decide) ?_
                refine lv_icmp_ne (tgt := 115) hx hb dX2_phaseOf_97 (by decide) (fun c_8 => ?_) (fun c_8 => ?_)
                · skip
                  refine lv_iconst (v := 0) hx hb dX2_phaseOf_115 (by decide) ?_
                  exact W.iret (v := 0) hx hb hr (fun t ht hW => ⟨_, rfl, by first | (simp [sPh, c_1, c_2, c_3, c_4, c_5, c_6, c_7, c_8]; done) | (simp [sPh, c_1, c_2, c_3, c_4, c_5, c_6, c_7, c_8]; rfl), ht⟩) (fun q h => absurd h List.not_mem_nil) dX2_phaseOf_116
                · skip
                  refine lv_aload_n hx hb dX2_phaseOf_100 rfl (lv_at hl 1 rfl) ?_
                  refine va_get (D := D) (ci := 2) (v := .ref (a 4)) (C := RX2) (T := TX2) (N := 14) hx hb hts (by decide +kernel) hown hK hP 0 rfl rfl 5 (by decide) (hts _ hm8) (fun _ h9 => h9) rfl dX2_phaseOf_101 ?_
                  refine lv_iload_n hx hb dX2_phaseOf_104 rfl (lv_at hl 2 rfl) ?_
                  refine va_lald (D := D) (f := pr) hx hb hK hP 4 3 rfl rfl (ix_9 hn hi) dX2_phaseOf_105 ?_
                  refine W.eq (g2 := F0 m 106 ls [.long (pr (i + 1))]) (by rw [wIx hn hi]) ?_
                  refine lv_lload_n hx hb dX2_phaseOf_106 rfl (lv_at hl 3 rfl) ?_
                  refine W.lcmp hx hb dX2_phaseOf_107 ?_
                  refine lv_if_ge (tgt := 115) hx hb dX2_phaseOf_108 (by decide) (fun c_9 => ?_) (fun c_9 => ?_)
                  · skip
                    replace c_9 := (lg_cmp_ge _ _).mp c_9
                    refine lv_iconst (v := 0) hx hb dX2_phaseOf_115 (by decide) ?_
                    exact W.iret (v := 0) hx hb hr (fun t ht hW => ⟨_, rfl, by first | (simp [sPh, c_1, c_2, c_3, c_4, c_5, c_6, c_7, c_8, c_9]; done) | (simp [sPh, c_1, c_2, c_3, c_4, c_5, c_6, c_7, c_8, c_9]; rfl), ht⟩) (fun q h => absurd h List.not_mem_nil) dX2_phaseOf_116
                  · skip
                    replace c_9 := mt (lg_cmp_ge _ _).mpr c_9
                    refine lv_iconst (v := 3) hx hb dX2_phaseOf_111 (by decide) ?_
                    refine lv_goto (tgt := 116) hx hb dX2_phaseOf_112 (by decide) ?_
                    exact W.iret (v := 3) hx hb hr (fun t ht hW => ⟨_, rfl, by first | (simp [sPh, c_1, c_2, c_3, c_4, c_5, c_6, c_7, c_8, c_9]; done) | (simp [sPh, c_1, c_2, c_3, c_4, c_5, c_6, c_7, c_8, c_9]; rfl), ht⟩) (fun q h => absurd h List.not_mem_nil) dX2_phaseOf_116
          · skip
            replace c_5 := mt (lg_cmp_ge _ _).mpr c_5
            refine lv_iconst (v := 1) hx hb dX2_phaseOf_72 (by decide) ?_
            exact W.iret (v := 1) hx hb hr (fun t ht hW => ⟨_, rfl, by first | (simp [sPh, c_1, c_2, c_3, c_4, c_5]; done) | (simp [sPh, c_1, c_2, c_3, c_4, c_5]; rfl), ht⟩) (fun q h => absurd h List.not_mem_nil) dX2_phaseOf_73
        · skip
          replace c_4 := mt (lg_cmp_ge _ _).mpr c_4
          refine lv_iconst (v := 2) hx hb dX2_phaseOf_48 (by decide) ?_
          exact W.iret (v := 2) hx hb hr (fun t ht hW => ⟨_, rfl, by first | (simp [sPh, c_1, c_2, c_3, c_4]; done) | (simp [sPh, c_1, c_2, c_3, c_4]; rfl), ht⟩) (fun q h => absurd h List.not_mem_nil) dX2_phaseOf_49
      · skip
        replace c_3 := (lg_cmp_eq _ _).mp c_3
        refine lv_iconst (v := 0) hx hb dX2_phaseOf_24 (by decide) ?_
        exact W.iret (v := 0) hx hb hr (fun t ht hW => ⟨_, rfl, by first | (simp [sPh, c_1, c_2, c_3]; done) | (simp [sPh, c_1, c_2, c_3]; rfl), ht⟩) (fun q h => absurd h List.not_mem_nil) dX2_phaseOf_25
set_option maxHeartbeats 4000000 in
set_option maxRecDepth 100000 in
/-- pressureOf -/
theorem m2_pressureOf (l : Launch) (D : va_G) (m0 : Nat) (a : Nat → Nat) (C : Nat → ClassId) (n : Nat) (th : Int32) (sp : Nat → Int64) (lo ph : Nat → Int32) (pr bo : Nat → Int64) (mo : Nat → UInt64) (rf : Int64) (gr hd st ch rs : Int32) (hn : n ≤ 8) (i : Nat) (hi : i < n) (ped : Int64) : Met l yX2_pressureOf wsX2_pressureOf ({ frames := 0, cells := 0, slots := 0, locals := 0 }) (va_Pc [.ref m0, .int (nI (i + 1)), .long ped] (xP D [(C 1, .long), (C 2, .boolean), (C 3, .int), (C 4, .long), (C 5, .long), (C 6, .double)] (mw m0 a C th (nI n) sp lo ph pr bo mo rf gr hd st ch rs))) (vp_Sl (fun r : Int64 => r = mPr (ph (i + 1)) ped (pr (i + 1)) hd (bo (i + 1)))) 0 0 (fun _ => False) := by
  refine Met.ofW (cc := cX2_pressureOf) (maxL := 6) (ret := (some .long)) (by decide) rfl ?_
  intro p e s m args below meth c s₁ B hml hv
  obtain ⟨rfl, hP, hK, hN⟩ := hv
  have hx := B.exec
  have hb := B.bytes
  have hr := B.returns
  have hts := atoms_spec (ws := wsX2_pressureOf) B.pre
  have hown : s.vm.findClass RX2 = some m.cls := findClass_of_methodNamed B.named
  have hlocks := B.notSynchronized
  have hm1 : (.fieldLink RX2 21 "GearBrakeModel" "pressures" "[J" : Cond) ∈ wsX2_pressureOf := by decide +kernel
  have hm2 : (.fieldLink RX2 17 "GearBrakeModel" "phases" "[I" : Cond) ∈ wsX2_pressureOf := by decide +kernel
  have hm3 : (.fieldLink RX2 67 "GearBrakeModel" "holds" "Z" : Cond) ∈ wsX2_pressureOf := by decide +kernel
  have hm4 : (.fieldLink RX2 24 "GearBrakeModel" "bounds" "[J" : Cond) ∈ wsX2_pressureOf := by decide +kernel
  have hm5 : (.constantLong RX2 71 (30) : Cond) ∈ wsX2_pressureOf := by decide +kernel
  have hm6 : (.constantLong RX2 65 (5) : Cond) ∈ wsX2_pressureOf := by decide +kernel
  have hm7 : (.constantLong RX2 63 (10) : Cond) ∈ wsX2_pressureOf := by decide +kernel
  have hl := lv_entry ([.ref m0, .int (nI (i + 1)), .long ped]) (n := 6) (Nat.le_of_ble_eq_true rfl)
  rw [lg_entry_eq]
  generalize (lg_sl ([.ref m0, .int (nI (i + 1)), .long ped]) ++ List.replicate (6 - (lg_sl ([.ref m0, .int (nI (i + 1)), .long ped])).length) Slot.unset).toArray = ls at hl ⊢
  replace hl : lv_has ls 6 [(0, .ref m0), (1, .int (nI (i + 1))), (2, .long ped)] := hl
  refine lv_aload_n hx hb dX2_pressureOf_0 rfl (lv_at hl 0 rfl) ?_
  refine va_get (D := D) (ci := 2) (v := .ref (a 4)) (C := RX2) (T := TX2) (N := 14) hx hb hts (by decide +kernel) hown hK hP 0 rfl rfl 5 (by decide) (hts _ hm1) (fun _ h9 => h9) rfl dX2_pressureOf_1 ?_
  refine lv_iload_n hx hb dX2_pressureOf_4 rfl (lv_at hl 1 rfl) ?_
  refine va_lald (D := D) (f := pr) hx hb hK hP 4 3 rfl rfl (ix_9 hn hi) dX2_pressureOf_5 ?_
  refine W.eq (g2 := F0 m 6 ls [.long (pr (i + 1))]) (by rw [wIx hn hi]) ?_
  refine lv_lstore (lv' := [(4, .long (pr (i + 1))), (0, .ref m0), (1, .int (nI (i + 1))), (2, .long ped)]) hx hb dX2_pressureOf_6 hl (by decide) rfl (fun ls hl => ?_)
  refine lv_aload_n hx hb dX2_pressureOf_8 rfl (lv_at hl 1 rfl) ?_
  refine va_get (D := D) (ci := 2) (v := .ref (a 3)) (C := RX2) (T := TX2) (N := 14) hx hb hts (by decide +kernel) hown hK hP 0 rfl rfl 4 (by decide) (hts _ hm2) (fun _ h9 => h9) rfl dX2_pressureOf_9 ?_
  refine lv_iload_n hx hb dX2_pressureOf_12 rfl (lv_at hl 2 rfl) ?_
  refine va_iald (D := D) (f := ph) hx hb hK hP 3 2 rfl rfl (ix_9 hn hi) dX2_pressureOf_13 ?_
  refine W.eq (g2 := F0 m 14 ls [.int (ph (i + 1))]) (by rw [wIx hn hi]) ?_
  refine lv_if_ne (tgt := 23) hx hb dX2_pressureOf_14 (by decide) (fun c_1 => ?_) (fun c_1 => ?_)
  · skip
    refine lv_aload_n hx hb dX2_pressureOf_23 rfl (lv_at hl 1 rfl) ?_
    refine va_get (D := D) (ci := 2) (v := .ref (a 3)) (C := RX2) (T := TX2) (N := 14) hx hb hts (by decide +kernel) hown hK hP 0 rfl rfl 4 (by decide) (hts _ hm2) (fun _ h9 => h9) rfl dX2_pressureOf_24 ?_
    refine lv_iload_n hx hb dX2_pressureOf_27 rfl (lv_at hl 2 rfl) ?_
    refine va_iald (D := D) (f := ph) hx hb hK hP 3 2 rfl rfl (ix_9 hn hi) dX2_pressureOf_28 ?_
    refine W.eq (g2 := F0 m 29 ls [.int (ph (i + 1))]) (by rw [wIx hn hi]) ?_
    refine lv_iconst (v := 2) hx hb dX2_pressureOf_29 (by decide) ?_
    refine lv_icmp_ne (tgt := 57) hx hb dX2_pressureOf_30 (by decide) (fun c_2 => ?_) (fun c_2 => ?_)
    · skip
      refine lv_aload_n hx hb dX2_pressureOf_57 rfl (lv_at hl 1 rfl) ?_
      refine va_get (D := D) (ci := 2) (v := .ref (a 3)) (C := RX2) (T := TX2) (N := 14) hx hb hts (by decide +kernel) hown hK hP 0 rfl rfl 4 (by decide) (hts _ hm2) (fun _ h9 => h9) rfl dX2_pressureOf_58 ?_
      refine lv_iload_n hx hb dX2_pressureOf_61 rfl (lv_at hl 2 rfl) ?_
      refine va_iald (D := D) (f := ph) hx hb hK hP 3 2 rfl rfl (ix_9 hn hi) dX2_pressureOf_62 ?_
      refine W.eq (g2 := F0 m 63 ls [.int (ph (i + 1))]) (by rw [wIx hn hi]) ?_
      refine lv_iconst (v := 3) hx hb dX2_pressureOf_63 (by decide) ?_
      refine lv_icmp_ne (tgt := 90) hx hb dX2_pressureOf_64 (by decide) (fun c_3 => ?_) (fun c_3 => ?_)
      · skip
        refine lv_aload_n hx hb dX2_pressureOf_90 rfl (lv_at hl 1 rfl) ?_
        refine va_get (D := D) (ci := 2) (v := .int hd) (C := RX2) (T := TX2) (N := 14) hx hb hts (by decide +kernel) hown hK hP 0 rfl rfl 10 (by decide) (hts _ hm3) (fun _ h9 => h9) rfl dX2_pressureOf_91 ?_
        refine lv_if_eq (tgt := 112) hx hb dX2_pressureOf_94 (by decide) (fun c_4 => ?_) (fun c_4 => ?_)
        · skip
          refine lv_lload hx hb dX2_pressureOf_112 (lv_at hl 0 rfl) ?_
          refine lv_lstore (lv' := [(4, .long (pr (i + 1))), (0, .ref m0), (1, .int (nI (i + 1))), (2, .long ped)]) hx hb dX2_pressureOf_114 hl (by decide) rfl (fun ls hl => ?_)
          refine lv_lload hx hb dX2_pressureOf_116 (lv_at hl 0 rfl) ?_
          refine lv_aload_n hx hb dX2_pressureOf_118 rfl (lv_at hl 1 rfl) ?_
          refine va_get (D := D) (ci := 2) (v := .ref (a 5)) (C := RX2) (T := TX2) (N := 14) hx hb hts (by decide +kernel) hown hK hP 0 rfl rfl 6 (by decide) (hts _ hm4) (fun _ h9 => h9) rfl dX2_pressureOf_119 ?_
          refine lv_iload_n hx hb dX2_pressureOf_122 rfl (lv_at hl 2 rfl) ?_
          refine va_lald (D := D) (f := bo) hx hb hK hP 5 4 rfl rfl (ix_9 hn hi) dX2_pressureOf_123 ?_
          refine W.eq (g2 := F0 m 124 ls [.long (bo (i + 1)), .long (pr (i + 1))]) (by rw [wIx hn hi]) ?_
          refine W.lcmp hx hb dX2_pressureOf_124 ?_
          refine lv_if_le (tgt := 137) hx hb dX2_pressureOf_125 (by decide) (fun c_5 => ?_) (fun c_5 => ?_)
          · skip
            replace c_5 := (lg_cmp_le _ _).mp c_5
            refine lv_lload hx hb dX2_pressureOf_137 (lv_at hl 0 rfl) ?_
            exact W.lret (v := (pr (i + 1))) hx hb hr (fun t ht hW => ⟨_, rfl, by first | (simp [mPr, mHold, mWant, c_1, c_2, c_3, c_4, c_5]; done) | (simp [mPr, mHold, mWant, c_1, c_2, c_3, c_4, c_5]; rfl), ht⟩) (fun q h => absurd h List.not_mem_nil) dX2_pressureOf_139
          · skip
            replace c_5 := mt (lg_cmp_le _ _).mpr c_5
            refine lv_aload_n hx hb dX2_pressureOf_128 rfl (lv_at hl 1 rfl) ?_
            refine va_get (D := D) (ci := 2) (v := .ref (a 5)) (C := RX2) (T := TX2) (N := 14) hx hb hts (by decide +kernel) hown hK hP 0 rfl rfl 6 (by decide) (hts _ hm4) (fun _ h9 => h9) rfl dX2_pressureOf_129 ?_
            refine lv_iload_n hx hb dX2_pressureOf_132 rfl (lv_at hl 2 rfl) ?_
            refine va_lald (D := D) (f := bo) hx hb hK hP 5 4 rfl rfl (ix_9 hn hi) dX2_pressureOf_133 ?_
            refine W.eq (g2 := F0 m 134 ls [.long (bo (i + 1))]) (by rw [wIx hn hi]) ?_
            refine lv_goto (tgt := 139) hx hb dX2_pressureOf_134 (by decide) ?_
            exact W.lret (v := (bo (i + 1))) hx hb hr (fun t ht hW => ⟨_, rfl, by first | (simp [mPr, mHold, mWant, c_1, c_2, c_3, c_4, c_5]; done) | (simp [mPr, mHold, mWant, c_1, c_2, c_3, c_4, c_5]; rfl), ht⟩) (fun q h => absurd h List.not_mem_nil) dX2_pressureOf_139
        · skip
          refine lv_lload hx hb dX2_pressureOf_97 (lv_at hl 0 rfl) ?_
          refine lv_ldc2 hx hb hown (hts _ hm5) dX2_pressureOf_99 ?_
          refine W.lcmp hx hb dX2_pressureOf_102 ?_
          refine lv_if_ge (tgt := 112) hx hb dX2_pressureOf_103 (by decide) (fun c_6 => ?_) (fun c_6 => ?_)
          · skip
            replace c_6 := (lg_cmp_ge _ _).mp c_6
            refine lv_lload hx hb dX2_pressureOf_112 (lv_at hl 0 rfl) ?_
            refine lv_lstore (lv' := [(4, .long (pr (i + 1))), (0, .ref m0), (1, .int (nI (i + 1))), (2, .long ped)]) hx hb dX2_pressureOf_114 hl (by decide) rfl (fun ls hl => ?_)
            refine lv_lload hx hb dX2_pressureOf_116 (lv_at hl 0 rfl) ?_
            refine lv_aload_n hx hb dX2_pressureOf_118 rfl (lv_at hl 1 rfl) ?_
            refine va_get (D := D) (ci := 2) (v := .ref (a 5)) (C := RX2) (T := TX2) (N := 14) hx hb hts (by decide +kernel) hown hK hP 0 rfl rfl 6 (by decide) (hts _ hm4) (fun _ h9 => h9) rfl dX2_pressureOf_119 ?_
            refine lv_iload_n hx hb dX2_pressureOf_122 rfl (lv_at hl 2 rfl) ?_
            refine va_lald (D := D) (f := bo) hx hb hK hP 5 4 rfl rfl (ix_9 hn hi) dX2_pressureOf_123 ?_
            refine W.eq (g2 := F0 m 124 ls [.long (bo (i + 1)), .long (pr (i + 1))]) (by rw [wIx hn hi]) ?_
            refine W.lcmp hx hb dX2_pressureOf_124 ?_
            refine lv_if_le (tgt := 137) hx hb dX2_pressureOf_125 (by decide) (fun c_7 => ?_) (fun c_7 => ?_)
            · skip
              replace c_7 := (lg_cmp_le _ _).mp c_7
              refine lv_lload hx hb dX2_pressureOf_137 (lv_at hl 0 rfl) ?_
              exact W.lret (v := (pr (i + 1))) hx hb hr (fun t ht hW => ⟨_, rfl, by first | (simp [mPr, mHold, mWant, c_1, c_2, c_3, c_4, c_6, c_7]; done) | (simp [mPr, mHold, mWant, c_1, c_2, c_3, c_4, c_6, c_7]; rfl), ht⟩) (fun q h => absurd h List.not_mem_nil) dX2_pressureOf_139
            · skip
              replace c_7 := mt (lg_cmp_le _ _).mpr c_7
              refine lv_aload_n hx hb dX2_pressureOf_128 rfl (lv_at hl 1 rfl) ?_
              refine va_get (D := D) (ci := 2) (v := .ref (a 5)) (C := RX2) (T := TX2) (N := 14) hx hb hts (by decide +kernel) hown hK hP 0 rfl rfl 6 (by decide) (hts _ hm4) (fun _ h9 => h9) rfl dX2_pressureOf_129 ?_
              refine lv_iload_n hx hb dX2_pressureOf_132 rfl (lv_at hl 2 rfl) ?_
              refine va_lald (D := D) (f := bo) hx hb hK hP 5 4 rfl rfl (ix_9 hn hi) dX2_pressureOf_133 ?_
              refine W.eq (g2 := F0 m 134 ls [.long (bo (i + 1))]) (by rw [wIx hn hi]) ?_
              refine lv_goto (tgt := 139) hx hb dX2_pressureOf_134 (by decide) ?_
              exact W.lret (v := (bo (i + 1))) hx hb hr (fun t ht hW => ⟨_, rfl, by first | (simp [mPr, mHold, mWant, c_1, c_2, c_3, c_4, c_6, c_7]; done) | (simp [mPr, mHold, mWant, c_1, c_2, c_3, c_4, c_6, c_7]; rfl), ht⟩) (fun q h => absurd h List.not_mem_nil) dX2_pressureOf_139
          · skip
            replace c_6 := mt (lg_cmp_ge _ _).mpr c_6
            refine lv_ldc2 hx hb hown (hts _ hm5) dX2_pressureOf_106 ?_
            refine lv_goto (tgt := 114) hx hb dX2_pressureOf_109 (by decide) ?_
            refine lv_lstore (lv' := [(4, .long 30), (0, .ref m0), (1, .int (nI (i + 1))), (2, .long ped)]) hx hb dX2_pressureOf_114 hl (by decide) rfl (fun ls hl => ?_)
            refine lv_lload hx hb dX2_pressureOf_116 (lv_at hl 0 rfl) ?_
            refine lv_aload_n hx hb dX2_pressureOf_118 rfl (lv_at hl 1 rfl) ?_
            refine va_get (D := D) (ci := 2) (v := .ref (a 5)) (C := RX2) (T := TX2) (N := 14) hx hb hts (by decide +kernel) hown hK hP 0 rfl rfl 6 (by decide) (hts _ hm4) (fun _ h9 => h9) rfl dX2_pressureOf_119 ?_
            refine lv_iload_n hx hb dX2_pressureOf_122 rfl (lv_at hl 2 rfl) ?_
            refine va_lald (D := D) (f := bo) hx hb hK hP 5 4 rfl rfl (ix_9 hn hi) dX2_pressureOf_123 ?_
            refine W.eq (g2 := F0 m 124 ls [.long (bo (i + 1)), .long 30]) (by rw [wIx hn hi]) ?_
            refine W.lcmp hx hb dX2_pressureOf_124 ?_
            refine lv_if_le (tgt := 137) hx hb dX2_pressureOf_125 (by decide) (fun c_8 => ?_) (fun c_8 => ?_)
            · skip
              replace c_8 := (lg_cmp_le _ _).mp c_8
              refine lv_lload hx hb dX2_pressureOf_137 (lv_at hl 0 rfl) ?_
              exact W.lret (v := 30) hx hb hr (fun t ht hW => ⟨_, rfl, by first | (simp [mPr, mHold, mWant, c_1, c_2, c_3, c_4, c_6, c_8]; done) | (simp [mPr, mHold, mWant, c_1, c_2, c_3, c_4, c_6, c_8]; rfl), ht⟩) (fun q h => absurd h List.not_mem_nil) dX2_pressureOf_139
            · skip
              replace c_8 := mt (lg_cmp_le _ _).mpr c_8
              refine lv_aload_n hx hb dX2_pressureOf_128 rfl (lv_at hl 1 rfl) ?_
              refine va_get (D := D) (ci := 2) (v := .ref (a 5)) (C := RX2) (T := TX2) (N := 14) hx hb hts (by decide +kernel) hown hK hP 0 rfl rfl 6 (by decide) (hts _ hm4) (fun _ h9 => h9) rfl dX2_pressureOf_129 ?_
              refine lv_iload_n hx hb dX2_pressureOf_132 rfl (lv_at hl 2 rfl) ?_
              refine va_lald (D := D) (f := bo) hx hb hK hP 5 4 rfl rfl (ix_9 hn hi) dX2_pressureOf_133 ?_
              refine W.eq (g2 := F0 m 134 ls [.long (bo (i + 1))]) (by rw [wIx hn hi]) ?_
              refine lv_goto (tgt := 139) hx hb dX2_pressureOf_134 (by decide) ?_
              exact W.lret (v := (bo (i + 1))) hx hb hr (fun t ht hW => ⟨_, rfl, by first | (simp [mPr, mHold, mWant, c_1, c_2, c_3, c_4, c_6, c_8]; done) | (simp [mPr, mHold, mWant, c_1, c_2, c_3, c_4, c_6, c_8]; rfl), ht⟩) (fun q h => absurd h List.not_mem_nil) dX2_pressureOf_139
      · skip
        refine lv_lload hx hb dX2_pressureOf_67 (lv_at hl 0 rfl) ?_
        refine lv_ldc2 hx hb hown (hts _ hm6) dX2_pressureOf_69 ?_
        refine lv_ladd hx hb dX2_pressureOf_72 ?_
        refine lv_lload_n hx hb dX2_pressureOf_73 rfl (lv_at hl 3 rfl) ?_
        refine W.lcmp hx hb dX2_pressureOf_74 ?_
        refine lv_if_le (tgt := 82) hx hb dX2_pressureOf_75 (by decide) (fun c_9 => ?_) (fun c_9 => ?_)
        · skip
          replace c_9 := (lg_cmp_le _ _).mp c_9
          refine lv_lload hx hb dX2_pressureOf_82 (lv_at hl 0 rfl) ?_
          refine lv_ldc2 hx hb hown (hts _ hm6) dX2_pressureOf_84 ?_
          refine lv_ladd hx hb dX2_pressureOf_87 ?_
          refine lv_lstore (lv' := [(4, .long ((pr (i + 1)) + 5)), (0, .ref m0), (1, .int (nI (i + 1))), (2, .long ped)]) hx hb dX2_pressureOf_88 hl (by decide) rfl (fun ls hl => ?_)
          refine lv_aload_n hx hb dX2_pressureOf_90 rfl (lv_at hl 1 rfl) ?_
          refine va_get (D := D) (ci := 2) (v := .int hd) (C := RX2) (T := TX2) (N := 14) hx hb hts (by decide +kernel) hown hK hP 0 rfl rfl 10 (by decide) (hts _ hm3) (fun _ h9 => h9) rfl dX2_pressureOf_91 ?_
          refine lv_if_eq (tgt := 112) hx hb dX2_pressureOf_94 (by decide) (fun c_10 => ?_) (fun c_10 => ?_)
          · skip
            refine lv_lload hx hb dX2_pressureOf_112 (lv_at hl 0 rfl) ?_
            refine lv_lstore (lv' := [(4, .long ((pr (i + 1)) + 5)), (0, .ref m0), (1, .int (nI (i + 1))), (2, .long ped)]) hx hb dX2_pressureOf_114 hl (by decide) rfl (fun ls hl => ?_)
            refine lv_lload hx hb dX2_pressureOf_116 (lv_at hl 0 rfl) ?_
            refine lv_aload_n hx hb dX2_pressureOf_118 rfl (lv_at hl 1 rfl) ?_
            refine va_get (D := D) (ci := 2) (v := .ref (a 5)) (C := RX2) (T := TX2) (N := 14) hx hb hts (by decide +kernel) hown hK hP 0 rfl rfl 6 (by decide) (hts _ hm4) (fun _ h9 => h9) rfl dX2_pressureOf_119 ?_
            refine lv_iload_n hx hb dX2_pressureOf_122 rfl (lv_at hl 2 rfl) ?_
            refine va_lald (D := D) (f := bo) hx hb hK hP 5 4 rfl rfl (ix_9 hn hi) dX2_pressureOf_123 ?_
            refine W.eq (g2 := F0 m 124 ls [.long (bo (i + 1)), .long ((pr (i + 1)) + 5)]) (by rw [wIx hn hi]) ?_
            refine W.lcmp hx hb dX2_pressureOf_124 ?_
            refine lv_if_le (tgt := 137) hx hb dX2_pressureOf_125 (by decide) (fun c_11 => ?_) (fun c_11 => ?_)
            · skip
              replace c_11 := (lg_cmp_le _ _).mp c_11
              refine lv_lload hx hb dX2_pressureOf_137 (lv_at hl 0 rfl) ?_
              exact W.lret (v := ((pr (i + 1)) + 5)) hx hb hr (fun t ht hW => ⟨_, rfl, by first | (simp [mPr, mHold, mWant, c_1, c_2, c_3, c_9, c_10, c_11]; done) | (simp [mPr, mHold, mWant, c_1, c_2, c_3, c_9, c_10, c_11]; rfl), ht⟩) (fun q h => absurd h List.not_mem_nil) dX2_pressureOf_139
            · skip
              replace c_11 := mt (lg_cmp_le _ _).mpr c_11
              refine lv_aload_n hx hb dX2_pressureOf_128 rfl (lv_at hl 1 rfl) ?_
              refine va_get (D := D) (ci := 2) (v := .ref (a 5)) (C := RX2) (T := TX2) (N := 14) hx hb hts (by decide +kernel) hown hK hP 0 rfl rfl 6 (by decide) (hts _ hm4) (fun _ h9 => h9) rfl dX2_pressureOf_129 ?_
              refine lv_iload_n hx hb dX2_pressureOf_132 rfl (lv_at hl 2 rfl) ?_
              refine va_lald (D := D) (f := bo) hx hb hK hP 5 4 rfl rfl (ix_9 hn hi) dX2_pressureOf_133 ?_
              refine W.eq (g2 := F0 m 134 ls [.long (bo (i + 1))]) (by rw [wIx hn hi]) ?_
              refine lv_goto (tgt := 139) hx hb dX2_pressureOf_134 (by decide) ?_
              exact W.lret (v := (bo (i + 1))) hx hb hr (fun t ht hW => ⟨_, rfl, by first | (simp [mPr, mHold, mWant, c_1, c_2, c_3, c_9, c_10, c_11]; done) | (simp [mPr, mHold, mWant, c_1, c_2, c_3, c_9, c_10, c_11]; rfl), ht⟩) (fun q h => absurd h List.not_mem_nil) dX2_pressureOf_139
          · skip
            refine lv_lload hx hb dX2_pressureOf_97 (lv_at hl 0 rfl) ?_
            refine lv_ldc2 hx hb hown (hts _ hm5) dX2_pressureOf_99 ?_
            refine W.lcmp hx hb dX2_pressureOf_102 ?_
            refine lv_if_ge (tgt := 112) hx hb dX2_pressureOf_103 (by decide) (fun c_12 => ?_) (fun c_12 => ?_)
            · skip
              replace c_12 := (lg_cmp_ge _ _).mp c_12
              refine lv_lload hx hb dX2_pressureOf_112 (lv_at hl 0 rfl) ?_
              refine lv_lstore (lv' := [(4, .long ((pr (i + 1)) + 5)), (0, .ref m0), (1, .int (nI (i + 1))), (2, .long ped)]) hx hb dX2_pressureOf_114 hl (by decide) rfl (fun ls hl => ?_)
              refine lv_lload hx hb dX2_pressureOf_116 (lv_at hl 0 rfl) ?_
              refine lv_aload_n hx hb dX2_pressureOf_118 rfl (lv_at hl 1 rfl) ?_
              refine va_get (D := D) (ci := 2) (v := .ref (a 5)) (C := RX2) (T := TX2) (N := 14) hx hb hts (by decide +kernel) hown hK hP 0 rfl rfl 6 (by decide) (hts _ hm4) (fun _ h9 => h9) rfl dX2_pressureOf_119 ?_
              refine lv_iload_n hx hb dX2_pressureOf_122 rfl (lv_at hl 2 rfl) ?_
              refine va_lald (D := D) (f := bo) hx hb hK hP 5 4 rfl rfl (ix_9 hn hi) dX2_pressureOf_123 ?_
              refine W.eq (g2 := F0 m 124 ls [.long (bo (i + 1)), .long ((pr (i + 1)) + 5)]) (by rw [wIx hn hi]) ?_
              refine W.lcmp hx hb dX2_pressureOf_124 ?_
              refine lv_if_le (tgt := 137) hx hb dX2_pressureOf_125 (by decide) (fun c_13 => ?_) (fun c_13 => ?_)
              · skip
                replace c_13 := (lg_cmp_le _ _).mp c_13
                refine lv_lload hx hb dX2_pressureOf_137 (lv_at hl 0 rfl) ?_
                exact W.lret (v := ((pr (i + 1)) + 5)) hx hb hr (fun t ht hW => ⟨_, rfl, by first | (simp [mPr, mHold, mWant, c_1, c_2, c_3, c_9, c_10, c_12, c_13]; done) | (simp [mPr, mHold, mWant, c_1, c_2, c_3, c_9, c_10, c_12, c_13]; rfl), ht⟩) (fun q h => absurd h List.not_mem_nil) dX2_pressureOf_139
              · skip
                replace c_13 := mt (lg_cmp_le _ _).mpr c_13
                refine lv_aload_n hx hb dX2_pressureOf_128 rfl (lv_at hl 1 rfl) ?_
                refine va_get (D := D) (ci := 2) (v := .ref (a 5)) (C := RX2) (T := TX2) (N := 14) hx hb hts (by decide +kernel) hown hK hP 0 rfl rfl 6 (by decide) (hts _ hm4) (fun _ h9 => h9) rfl dX2_pressureOf_129 ?_
                refine lv_iload_n hx hb dX2_pressureOf_132 rfl (lv_at hl 2 rfl) ?_
                refine va_lald (D := D) (f := bo) hx hb hK hP 5 4 rfl rfl (ix_9 hn hi) dX2_pressureOf_133 ?_
                refine W.eq (g2 := F0 m 134 ls [.long (bo (i + 1))]) (by rw [wIx hn hi]) ?_
                refine lv_goto (tgt := 139) hx hb dX2_pressureOf_134 (by decide) ?_
                exact W.lret (v := (bo (i + 1))) hx hb hr (fun t ht hW => ⟨_, rfl, by first | (simp [mPr, mHold, mWant, c_1, c_2, c_3, c_9, c_10, c_12, c_13]; done) | (simp [mPr, mHold, mWant, c_1, c_2, c_3, c_9, c_10, c_12, c_13]; rfl), ht⟩) (fun q h => absurd h List.not_mem_nil) dX2_pressureOf_139
            · skip
              replace c_12 := mt (lg_cmp_ge _ _).mpr c_12
              refine lv_ldc2 hx hb hown (hts _ hm5) dX2_pressureOf_106 ?_
              refine lv_goto (tgt := 114) hx hb dX2_pressureOf_109 (by decide) ?_
              refine lv_lstore (lv' := [(4, .long 30), (0, .ref m0), (1, .int (nI (i + 1))), (2, .long ped)]) hx hb dX2_pressureOf_114 hl (by decide) rfl (fun ls hl => ?_)
              refine lv_lload hx hb dX2_pressureOf_116 (lv_at hl 0 rfl) ?_
              refine lv_aload_n hx hb dX2_pressureOf_118 rfl (lv_at hl 1 rfl) ?_
              refine va_get (D := D) (ci := 2) (v := .ref (a 5)) (C := RX2) (T := TX2) (N := 14) hx hb hts (by decide +kernel) hown hK hP 0 rfl rfl 6 (by decide) (hts _ hm4) (fun _ h9 => h9) rfl dX2_pressureOf_119 ?_
              refine lv_iload_n hx hb dX2_pressureOf_122 rfl (lv_at hl 2 rfl) ?_
              refine va_lald (D := D) (f := bo) hx hb hK hP 5 4 rfl rfl (ix_9 hn hi) dX2_pressureOf_123 ?_
              refine W.eq (g2 := F0 m 124 ls [.long (bo (i + 1)), .long 30]) (by rw [wIx hn hi]) ?_
              refine W.lcmp hx hb dX2_pressureOf_124 ?_
              refine lv_if_le (tgt := 137) hx hb dX2_pressureOf_125 (by decide) (fun c_14 => ?_) (fun c_14 => ?_)
              · skip
                replace c_14 := (lg_cmp_le _ _).mp c_14
                refine lv_lload hx hb dX2_pressureOf_137 (lv_at hl 0 rfl) ?_
                exact W.lret (v := 30) hx hb hr (fun t ht hW => ⟨_, rfl, by first | (simp [mPr, mHold, mWant, c_1, c_2, c_3, c_9, c_10, c_12, c_14]; done) | (simp [mPr, mHold, mWant, c_1, c_2, c_3, c_9, c_10, c_12, c_14]; rfl), ht⟩) (fun q h => absurd h List.not_mem_nil) dX2_pressureOf_139
              · skip
                replace c_14 := mt (lg_cmp_le _ _).mpr c_14
                refine lv_aload_n hx hb dX2_pressureOf_128 rfl (lv_at hl 1 rfl) ?_
                refine va_get (D := D) (ci := 2) (v := .ref (a 5)) (C := RX2) (T := TX2) (N := 14) hx hb hts (by decide +kernel) hown hK hP 0 rfl rfl 6 (by decide) (hts _ hm4) (fun _ h9 => h9) rfl dX2_pressureOf_129 ?_
                refine lv_iload_n hx hb dX2_pressureOf_132 rfl (lv_at hl 2 rfl) ?_
                refine va_lald (D := D) (f := bo) hx hb hK hP 5 4 rfl rfl (ix_9 hn hi) dX2_pressureOf_133 ?_
                refine W.eq (g2 := F0 m 134 ls [.long (bo (i + 1))]) (by rw [wIx hn hi]) ?_
                refine lv_goto (tgt := 139) hx hb dX2_pressureOf_134 (by decide) ?_
                exact W.lret (v := (bo (i + 1))) hx hb hr (fun t ht hW => ⟨_, rfl, by first | (simp [mPr, mHold, mWant, c_1, c_2, c_3, c_9, c_10, c_12, c_14]; done) | (simp [mPr, mHold, mWant, c_1, c_2, c_3, c_9, c_10, c_12, c_14]; rfl), ht⟩) (fun q h => absurd h List.not_mem_nil) dX2_pressureOf_139
        · skip
          replace c_9 := mt (lg_cmp_le _ _).mpr c_9
          refine lv_lload_n hx hb dX2_pressureOf_78 rfl (lv_at hl 3 rfl) ?_
          refine lv_goto (tgt := 88) hx hb dX2_pressureOf_79 (by decide) ?_
          refine lv_lstore (lv' := [(4, .long ped), (0, .ref m0), (1, .int (nI (i + 1))), (2, .long ped)]) hx hb dX2_pressureOf_88 hl (by decide) rfl (fun ls hl => ?_)
          refine lv_aload_n hx hb dX2_pressureOf_90 rfl (lv_at hl 1 rfl) ?_
          refine va_get (D := D) (ci := 2) (v := .int hd) (C := RX2) (T := TX2) (N := 14) hx hb hts (by decide +kernel) hown hK hP 0 rfl rfl 10 (by decide) (hts _ hm3) (fun _ h9 => h9) rfl dX2_pressureOf_91 ?_
          refine lv_if_eq (tgt := 112) hx hb dX2_pressureOf_94 (by decide) (fun c_15 => ?_) (fun c_15 => ?_)
          · skip
            refine lv_lload hx hb dX2_pressureOf_112 (lv_at hl 0 rfl) ?_
            refine lv_lstore (lv' := [(4, .long ped), (0, .ref m0), (1, .int (nI (i + 1))), (2, .long ped)]) hx hb dX2_pressureOf_114 hl (by decide) rfl (fun ls hl => ?_)
            refine lv_lload hx hb dX2_pressureOf_116 (lv_at hl 0 rfl) ?_
            refine lv_aload_n hx hb dX2_pressureOf_118 rfl (lv_at hl 1 rfl) ?_
            refine va_get (D := D) (ci := 2) (v := .ref (a 5)) (C := RX2) (T := TX2) (N := 14) hx hb hts (by decide +kernel) hown hK hP 0 rfl rfl 6 (by decide) (hts _ hm4) (fun _ h9 => h9) rfl dX2_pressureOf_119 ?_
            refine lv_iload_n hx hb dX2_pressureOf_122 rfl (lv_at hl 2 rfl) ?_
            refine va_lald (D := D) (f := bo) hx hb hK hP 5 4 rfl rfl (ix_9 hn hi) dX2_pressureOf_123 ?_
            refine W.eq (g2 := F0 m 124 ls [.long (bo (i + 1)), .long ped]) (by rw [wIx hn hi]) ?_
            refine W.lcmp hx hb dX2_pressureOf_124 ?_
            refine lv_if_le (tgt := 137) hx hb dX2_pressureOf_125 (by decide) (fun c_16 => ?_) (fun c_16 => ?_)
            · skip
              replace c_16 := (lg_cmp_le _ _).mp c_16
              refine lv_lload hx hb dX2_pressureOf_137 (lv_at hl 0 rfl) ?_
              exact W.lret (v := ped) hx hb hr (fun t ht hW => ⟨_, rfl, by first | (simp [mPr, mHold, mWant, c_1, c_2, c_3, c_9, c_15, c_16]; done) | (simp [mPr, mHold, mWant, c_1, c_2, c_3, c_9, c_15, c_16]; rfl), ht⟩) (fun q h => absurd h List.not_mem_nil) dX2_pressureOf_139
            · skip
              replace c_16 := mt (lg_cmp_le _ _).mpr c_16
              refine lv_aload_n hx hb dX2_pressureOf_128 rfl (lv_at hl 1 rfl) ?_
              refine va_get (D := D) (ci := 2) (v := .ref (a 5)) (C := RX2) (T := TX2) (N := 14) hx hb hts (by decide +kernel) hown hK hP 0 rfl rfl 6 (by decide) (hts _ hm4) (fun _ h9 => h9) rfl dX2_pressureOf_129 ?_
              refine lv_iload_n hx hb dX2_pressureOf_132 rfl (lv_at hl 2 rfl) ?_
              refine va_lald (D := D) (f := bo) hx hb hK hP 5 4 rfl rfl (ix_9 hn hi) dX2_pressureOf_133 ?_
              refine W.eq (g2 := F0 m 134 ls [.long (bo (i + 1))]) (by rw [wIx hn hi]) ?_
              refine lv_goto (tgt := 139) hx hb dX2_pressureOf_134 (by decide) ?_
              exact W.lret (v := (bo (i + 1))) hx hb hr (fun t ht hW => ⟨_, rfl, by first | (simp [mPr, mHold, mWant, c_1, c_2, c_3, c_9, c_15, c_16]; done) | (simp [mPr, mHold, mWant, c_1, c_2, c_3, c_9, c_15, c_16]; rfl), ht⟩) (fun q h => absurd h List.not_mem_nil) dX2_pressureOf_139
          · skip
            refine lv_lload hx hb dX2_pressureOf_97 (lv_at hl 0 rfl) ?_
            refine lv_ldc2 hx hb hown (hts _ hm5) dX2_pressureOf_99 ?_
            refine W.lcmp hx hb dX2_pressureOf_102 ?_
            refine lv_if_ge (tgt := 112) hx hb dX2_pressureOf_103 (by decide) (fun c_17 => ?_) (fun c_17 => ?_)
            · skip
              replace c_17 := (lg_cmp_ge _ _).mp c_17
              refine lv_lload hx hb dX2_pressureOf_112 (lv_at hl 0 rfl) ?_
              refine lv_lstore (lv' := [(4, .long ped), (0, .ref m0), (1, .int (nI (i + 1))), (2, .long ped)]) hx hb dX2_pressureOf_114 hl (by decide) rfl (fun ls hl => ?_)
              refine lv_lload hx hb dX2_pressureOf_116 (lv_at hl 0 rfl) ?_
              refine lv_aload_n hx hb dX2_pressureOf_118 rfl (lv_at hl 1 rfl) ?_
              refine va_get (D := D) (ci := 2) (v := .ref (a 5)) (C := RX2) (T := TX2) (N := 14) hx hb hts (by decide +kernel) hown hK hP 0 rfl rfl 6 (by decide) (hts _ hm4) (fun _ h9 => h9) rfl dX2_pressureOf_119 ?_
              refine lv_iload_n hx hb dX2_pressureOf_122 rfl (lv_at hl 2 rfl) ?_
              refine va_lald (D := D) (f := bo) hx hb hK hP 5 4 rfl rfl (ix_9 hn hi) dX2_pressureOf_123 ?_
              refine W.eq (g2 := F0 m 124 ls [.long (bo (i + 1)), .long ped]) (by rw [wIx hn hi]) ?_
              refine W.lcmp hx hb dX2_pressureOf_124 ?_
              refine lv_if_le (tgt := 137) hx hb dX2_pressureOf_125 (by decide) (fun c_18 => ?_) (fun c_18 => ?_)
              · skip
                replace c_18 := (lg_cmp_le _ _).mp c_18
                refine lv_lload hx hb dX2_pressureOf_137 (lv_at hl 0 rfl) ?_
                exact W.lret (v := ped) hx hb hr (fun t ht hW => ⟨_, rfl, by first | (simp [mPr, mHold, mWant, c_1, c_2, c_3, c_9, c_15, c_17, c_18]; done) | (simp [mPr, mHold, mWant, c_1, c_2, c_3, c_9, c_15, c_17, c_18]; rfl), ht⟩) (fun q h => absurd h List.not_mem_nil) dX2_pressureOf_139
              · skip
                replace c_18 := mt (lg_cmp_le _ _).mpr c_18
                refine lv_aload_n hx hb dX2_pressureOf_128 rfl (lv_at hl 1 rfl) ?_
                refine va_get (D := D) (ci := 2) (v := .ref (a 5)) (C := RX2) (T := TX2) (N := 14) hx hb hts (by decide +kernel) hown hK hP 0 rfl rfl 6 (by decide) (hts _ hm4) (fun _ h9 => h9) rfl dX2_pressureOf_129 ?_
                refine lv_iload_n hx hb dX2_pressureOf_132 rfl (lv_at hl 2 rfl) ?_
                refine va_lald (D := D) (f := bo) hx hb hK hP 5 4 rfl rfl (ix_9 hn hi) dX2_pressureOf_133 ?_
                refine W.eq (g2 := F0 m 134 ls [.long (bo (i + 1))]) (by rw [wIx hn hi]) ?_
                refine lv_goto (tgt := 139) hx hb dX2_pressureOf_134 (by decide) ?_
                exact W.lret (v := (bo (i + 1))) hx hb hr (fun t ht hW => ⟨_, rfl, by first | (simp [mPr, mHold, mWant, c_1, c_2, c_3, c_9, c_15, c_17, c_18]; done) | (simp [mPr, mHold, mWant, c_1, c_2, c_3, c_9, c_15, c_17, c_18]; rfl), ht⟩) (fun q h => absurd h List.not_mem_nil) dX2_pressureOf_139
            · skip
              replace c_17 := mt (lg_cmp_ge _ _).mpr c_17
              refine lv_ldc2 hx hb hown (hts _ hm5) dX2_pressureOf_106 ?_
              refine lv_goto (tgt := 114) hx hb dX2_pressureOf_109 (by decide) ?_
              refine lv_lstore (lv' := [(4, .long 30), (0, .ref m0), (1, .int (nI (i + 1))), (2, .long ped)]) hx hb dX2_pressureOf_114 hl (by decide) rfl (fun ls hl => ?_)
              refine lv_lload hx hb dX2_pressureOf_116 (lv_at hl 0 rfl) ?_
              refine lv_aload_n hx hb dX2_pressureOf_118 rfl (lv_at hl 1 rfl) ?_
              refine va_get (D := D) (ci := 2) (v := .ref (a 5)) (C := RX2) (T := TX2) (N := 14) hx hb hts (by decide +kernel) hown hK hP 0 rfl rfl 6 (by decide) (hts _ hm4) (fun _ h9 => h9) rfl dX2_pressureOf_119 ?_
              refine lv_iload_n hx hb dX2_pressureOf_122 rfl (lv_at hl 2 rfl) ?_
              refine va_lald (D := D) (f := bo) hx hb hK hP 5 4 rfl rfl (ix_9 hn hi) dX2_pressureOf_123 ?_
              refine W.eq (g2 := F0 m 124 ls [.long (bo (i + 1)), .long 30]) (by rw [wIx hn hi]) ?_
              refine W.lcmp hx hb dX2_pressureOf_124 ?_
              refine lv_if_le (tgt := 137) hx hb dX2_pressureOf_125 (by decide) (fun c_19 => ?_) (fun c_19 => ?_)
              · skip
                replace c_19 := (lg_cmp_le _ _).mp c_19
                refine lv_lload hx hb dX2_pressureOf_137 (lv_at hl 0 rfl) ?_
                exact W.lret (v := 30) hx hb hr (fun t ht hW => ⟨_, rfl, by first | (simp [mPr, mHold, mWant, c_1, c_2, c_3, c_9, c_15, c_17, c_19]; done) | (simp [mPr, mHold, mWant, c_1, c_2, c_3, c_9, c_15, c_17, c_19]; rfl), ht⟩) (fun q h => absurd h List.not_mem_nil) dX2_pressureOf_139
              · skip
                replace c_19 := mt (lg_cmp_le _ _).mpr c_19
                refine lv_aload_n hx hb dX2_pressureOf_128 rfl (lv_at hl 1 rfl) ?_
                refine va_get (D := D) (ci := 2) (v := .ref (a 5)) (C := RX2) (T := TX2) (N := 14) hx hb hts (by decide +kernel) hown hK hP 0 rfl rfl 6 (by decide) (hts _ hm4) (fun _ h9 => h9) rfl dX2_pressureOf_129 ?_
                refine lv_iload_n hx hb dX2_pressureOf_132 rfl (lv_at hl 2 rfl) ?_
                refine va_lald (D := D) (f := bo) hx hb hK hP 5 4 rfl rfl (ix_9 hn hi) dX2_pressureOf_133 ?_
                refine W.eq (g2 := F0 m 134 ls [.long (bo (i + 1))]) (by rw [wIx hn hi]) ?_
                refine lv_goto (tgt := 139) hx hb dX2_pressureOf_134 (by decide) ?_
                exact W.lret (v := (bo (i + 1))) hx hb hr (fun t ht hW => ⟨_, rfl, by first | (simp [mPr, mHold, mWant, c_1, c_2, c_3, c_9, c_15, c_17, c_19]; done) | (simp [mPr, mHold, mWant, c_1, c_2, c_3, c_9, c_15, c_17, c_19]; rfl), ht⟩) (fun q h => absurd h List.not_mem_nil) dX2_pressureOf_139
    · skip
      refine lv_lload hx hb dX2_pressureOf_33 (lv_at hl 0 rfl) ?_
      refine lv_ldc2 hx hb hown (hts _ hm7) dX2_pressureOf_35 ?_
      refine W.lcmp hx hb dX2_pressureOf_38 ?_
      refine lv_if_ge (tgt := 46) hx hb dX2_pressureOf_39 (by decide) (fun c_20 => ?_) (fun c_20 => ?_)
      · skip
        replace c_20 := (lg_cmp_ge _ _).mp c_20
        refine lv_lload hx hb dX2_pressureOf_46 (lv_at hl 0 rfl) ?_
        refine lv_ldc2 hx hb hown (hts _ hm7) dX2_pressureOf_48 ?_
        refine lv_lsub hx hb dX2_pressureOf_51 ?_
        refine lv_lstore (lv' := [(4, .long ((pr (i + 1)) - 10)), (0, .ref m0), (1, .int (nI (i + 1))), (2, .long ped)]) hx hb dX2_pressureOf_52 hl (by decide) rfl (fun ls hl => ?_)
        refine lv_goto (tgt := 90) hx hb dX2_pressureOf_54 (by decide) ?_
        refine lv_aload_n hx hb dX2_pressureOf_90 rfl (lv_at hl 1 rfl) ?_
        refine va_get (D := D) (ci := 2) (v := .int hd) (C := RX2) (T := TX2) (N := 14) hx hb hts (by decide +kernel) hown hK hP 0 rfl rfl 10 (by decide) (hts _ hm3) (fun _ h9 => h9) rfl dX2_pressureOf_91 ?_
        refine lv_if_eq (tgt := 112) hx hb dX2_pressureOf_94 (by decide) (fun c_21 => ?_) (fun c_21 => ?_)
        · skip
          refine lv_lload hx hb dX2_pressureOf_112 (lv_at hl 0 rfl) ?_
          refine lv_lstore (lv' := [(4, .long ((pr (i + 1)) - 10)), (0, .ref m0), (1, .int (nI (i + 1))), (2, .long ped)]) hx hb dX2_pressureOf_114 hl (by decide) rfl (fun ls hl => ?_)
          refine lv_lload hx hb dX2_pressureOf_116 (lv_at hl 0 rfl) ?_
          refine lv_aload_n hx hb dX2_pressureOf_118 rfl (lv_at hl 1 rfl) ?_
          refine va_get (D := D) (ci := 2) (v := .ref (a 5)) (C := RX2) (T := TX2) (N := 14) hx hb hts (by decide +kernel) hown hK hP 0 rfl rfl 6 (by decide) (hts _ hm4) (fun _ h9 => h9) rfl dX2_pressureOf_119 ?_
          refine lv_iload_n hx hb dX2_pressureOf_122 rfl (lv_at hl 2 rfl) ?_
          refine va_lald (D := D) (f := bo) hx hb hK hP 5 4 rfl rfl (ix_9 hn hi) dX2_pressureOf_123 ?_
          refine W.eq (g2 := F0 m 124 ls [.long (bo (i + 1)), .long ((pr (i + 1)) - 10)]) (by rw [wIx hn hi]) ?_
          refine W.lcmp hx hb dX2_pressureOf_124 ?_
          refine lv_if_le (tgt := 137) hx hb dX2_pressureOf_125 (by decide) (fun c_22 => ?_) (fun c_22 => ?_)
          · skip
            replace c_22 := (lg_cmp_le _ _).mp c_22
            refine lv_lload hx hb dX2_pressureOf_137 (lv_at hl 0 rfl) ?_
            exact W.lret (v := ((pr (i + 1)) - 10)) hx hb hr (fun t ht hW => ⟨_, rfl, by first | (simp [mPr, mHold, mWant, c_1, c_2, c_20, c_21, c_22]; done) | (simp [mPr, mHold, mWant, c_1, c_2, c_20, c_21, c_22]; rfl), ht⟩) (fun q h => absurd h List.not_mem_nil) dX2_pressureOf_139
          · skip
            replace c_22 := mt (lg_cmp_le _ _).mpr c_22
            refine lv_aload_n hx hb dX2_pressureOf_128 rfl (lv_at hl 1 rfl) ?_
            refine va_get (D := D) (ci := 2) (v := .ref (a 5)) (C := RX2) (T := TX2) (N := 14) hx hb hts (by decide +kernel) hown hK hP 0 rfl rfl 6 (by decide) (hts _ hm4) (fun _ h9 => h9) rfl dX2_pressureOf_129 ?_
            refine lv_iload_n hx hb dX2_pressureOf_132 rfl (lv_at hl 2 rfl) ?_
            refine va_lald (D := D) (f := bo) hx hb hK hP 5 4 rfl rfl (ix_9 hn hi) dX2_pressureOf_133 ?_
            refine W.eq (g2 := F0 m 134 ls [.long (bo (i + 1))]) (by rw [wIx hn hi]) ?_
            refine lv_goto (tgt := 139) hx hb dX2_pressureOf_134 (by decide) ?_
            exact W.lret (v := (bo (i + 1))) hx hb hr (fun t ht hW => ⟨_, rfl, by first | (simp [mPr, mHold, mWant, c_1, c_2, c_20, c_21, c_22]; done) | (simp [mPr, mHold, mWant, c_1, c_2, c_20, c_21, c_22]; rfl), ht⟩) (fun q h => absurd h List.not_mem_nil) dX2_pressureOf_139
        · skip
          refine lv_lload hx hb dX2_pressureOf_97 (lv_at hl 0 rfl) ?_
          refine lv_ldc2 hx hb hown (hts _ hm5) dX2_pressureOf_99 ?_
          refine W.lcmp hx hb dX2_pressureOf_102 ?_
          refine lv_if_ge (tgt := 112) hx hb dX2_pressureOf_103 (by decide) (fun c_23 => ?_) (fun c_23 => ?_)
          · skip
            replace c_23 := (lg_cmp_ge _ _).mp c_23
            refine lv_lload hx hb dX2_pressureOf_112 (lv_at hl 0 rfl) ?_
            refine lv_lstore (lv' := [(4, .long ((pr (i + 1)) - 10)), (0, .ref m0), (1, .int (nI (i + 1))), (2, .long ped)]) hx hb dX2_pressureOf_114 hl (by decide) rfl (fun ls hl => ?_)
            refine lv_lload hx hb dX2_pressureOf_116 (lv_at hl 0 rfl) ?_
            refine lv_aload_n hx hb dX2_pressureOf_118 rfl (lv_at hl 1 rfl) ?_
            refine va_get (D := D) (ci := 2) (v := .ref (a 5)) (C := RX2) (T := TX2) (N := 14) hx hb hts (by decide +kernel) hown hK hP 0 rfl rfl 6 (by decide) (hts _ hm4) (fun _ h9 => h9) rfl dX2_pressureOf_119 ?_
            refine lv_iload_n hx hb dX2_pressureOf_122 rfl (lv_at hl 2 rfl) ?_
            refine va_lald (D := D) (f := bo) hx hb hK hP 5 4 rfl rfl (ix_9 hn hi) dX2_pressureOf_123 ?_
            refine W.eq (g2 := F0 m 124 ls [.long (bo (i + 1)), .long ((pr (i + 1)) - 10)]) (by rw [wIx hn hi]) ?_
            refine W.lcmp hx hb dX2_pressureOf_124 ?_
            refine lv_if_le (tgt := 137) hx hb dX2_pressureOf_125 (by decide) (fun c_24 => ?_) (fun c_24 => ?_)
            · skip
              replace c_24 := (lg_cmp_le _ _).mp c_24
              refine lv_lload hx hb dX2_pressureOf_137 (lv_at hl 0 rfl) ?_
              exact W.lret (v := ((pr (i + 1)) - 10)) hx hb hr (fun t ht hW => ⟨_, rfl, by first | (simp [mPr, mHold, mWant, c_1, c_2, c_20, c_21, c_23, c_24]; done) | (simp [mPr, mHold, mWant, c_1, c_2, c_20, c_21, c_23, c_24]; rfl), ht⟩) (fun q h => absurd h List.not_mem_nil) dX2_pressureOf_139
            · skip
              replace c_24 := mt (lg_cmp_le _ _).mpr c_24
              refine lv_aload_n hx hb dX2_pressureOf_128 rfl (lv_at hl 1 rfl) ?_
              refine va_get (D := D) (ci := 2) (v := .ref (a 5)) (C := RX2) (T := TX2) (N := 14) hx hb hts (by decide +kernel) hown hK hP 0 rfl rfl 6 (by decide) (hts _ hm4) (fun _ h9 => h9) rfl dX2_pressureOf_129 ?_
              refine lv_iload_n hx hb dX2_pressureOf_132 rfl (lv_at hl 2 rfl) ?_
              refine va_lald (D := D) (f := bo) hx hb hK hP 5 4 rfl rfl (ix_9 hn hi) dX2_pressureOf_133 ?_
              refine W.eq (g2 := F0 m 134 ls [.long (bo (i + 1))]) (by rw [wIx hn hi]) ?_
              refine lv_goto (tgt := 139) hx hb dX2_pressureOf_134 (by decide) ?_
              exact W.lret (v := (bo (i + 1))) hx hb hr (fun t ht hW => ⟨_, rfl, by first | (simp [mPr, mHold, mWant, c_1, c_2, c_20, c_21, c_23, c_24]; done) | (simp [mPr, mHold, mWant, c_1, c_2, c_20, c_21, c_23, c_24]; rfl), ht⟩) (fun q h => absurd h List.not_mem_nil) dX2_pressureOf_139
          · skip
            replace c_23 := mt (lg_cmp_ge _ _).mpr c_23
            refine lv_ldc2 hx hb hown (hts _ hm5) dX2_pressureOf_106 ?_
            refine lv_goto (tgt := 114) hx hb dX2_pressureOf_109 (by decide) ?_
            refine lv_lstore (lv' := [(4, .long 30), (0, .ref m0), (1, .int (nI (i + 1))), (2, .long ped)]) hx hb dX2_pressureOf_114 hl (by decide) rfl (fun ls hl => ?_)
            refine lv_lload hx hb dX2_pressureOf_116 (lv_at hl 0 rfl) ?_
            refine lv_aload_n hx hb dX2_pressureOf_118 rfl (lv_at hl 1 rfl) ?_
            refine va_get (D := D) (ci := 2) (v := .ref (a 5)) (C := RX2) (T := TX2) (N := 14) hx hb hts (by decide +kernel) hown hK hP 0 rfl rfl 6 (by decide) (hts _ hm4) (fun _ h9 => h9) rfl dX2_pressureOf_119 ?_
            refine lv_iload_n hx hb dX2_pressureOf_122 rfl (lv_at hl 2 rfl) ?_
            refine va_lald (D := D) (f := bo) hx hb hK hP 5 4 rfl rfl (ix_9 hn hi) dX2_pressureOf_123 ?_
            refine W.eq (g2 := F0 m 124 ls [.long (bo (i + 1)), .long 30]) (by rw [wIx hn hi]) ?_
            refine W.lcmp hx hb dX2_pressureOf_124 ?_
            refine lv_if_le (tgt := 137) hx hb dX2_pressureOf_125 (by decide) (fun c_25 => ?_) (fun c_25 => ?_)
            · skip
              replace c_25 := (lg_cmp_le _ _).mp c_25
              refine lv_lload hx hb dX2_pressureOf_137 (lv_at hl 0 rfl) ?_
              exact W.lret (v := 30) hx hb hr (fun t ht hW => ⟨_, rfl, by first | (simp [mPr, mHold, mWant, c_1, c_2, c_20, c_21, c_23, c_25]; done) | (simp [mPr, mHold, mWant, c_1, c_2, c_20, c_21, c_23, c_25]; rfl), ht⟩) (fun q h => absurd h List.not_mem_nil) dX2_pressureOf_139
            · skip
              replace c_25 := mt (lg_cmp_le _ _).mpr c_25
              refine lv_aload_n hx hb dX2_pressureOf_128 rfl (lv_at hl 1 rfl) ?_
              refine va_get (D := D) (ci := 2) (v := .ref (a 5)) (C := RX2) (T := TX2) (N := 14) hx hb hts (by decide +kernel) hown hK hP 0 rfl rfl 6 (by decide) (hts _ hm4) (fun _ h9 => h9) rfl dX2_pressureOf_129 ?_
              refine lv_iload_n hx hb dX2_pressureOf_132 rfl (lv_at hl 2 rfl) ?_
              refine va_lald (D := D) (f := bo) hx hb hK hP 5 4 rfl rfl (ix_9 hn hi) dX2_pressureOf_133 ?_
              refine W.eq (g2 := F0 m 134 ls [.long (bo (i + 1))]) (by rw [wIx hn hi]) ?_
              refine lv_goto (tgt := 139) hx hb dX2_pressureOf_134 (by decide) ?_
              exact W.lret (v := (bo (i + 1))) hx hb hr (fun t ht hW => ⟨_, rfl, by first | (simp [mPr, mHold, mWant, c_1, c_2, c_20, c_21, c_23, c_25]; done) | (simp [mPr, mHold, mWant, c_1, c_2, c_20, c_21, c_23, c_25]; rfl), ht⟩) (fun q h => absurd h List.not_mem_nil) dX2_pressureOf_139
      · skip
        replace c_20 := mt (lg_cmp_ge _ _).mpr c_20
        refine lv_lconst (v := 0) hx hb dX2_pressureOf_42 (by decide) ?_
        refine lv_goto (tgt := 52) hx hb dX2_pressureOf_43 (by decide) ?_
        refine lv_lstore (lv' := [(4, .long 0), (0, .ref m0), (1, .int (nI (i + 1))), (2, .long ped)]) hx hb dX2_pressureOf_52 hl (by decide) rfl (fun ls hl => ?_)
        refine lv_goto (tgt := 90) hx hb dX2_pressureOf_54 (by decide) ?_
        refine lv_aload_n hx hb dX2_pressureOf_90 rfl (lv_at hl 1 rfl) ?_
        refine va_get (D := D) (ci := 2) (v := .int hd) (C := RX2) (T := TX2) (N := 14) hx hb hts (by decide +kernel) hown hK hP 0 rfl rfl 10 (by decide) (hts _ hm3) (fun _ h9 => h9) rfl dX2_pressureOf_91 ?_
        refine lv_if_eq (tgt := 112) hx hb dX2_pressureOf_94 (by decide) (fun c_26 => ?_) (fun c_26 => ?_)
        · skip
          refine lv_lload hx hb dX2_pressureOf_112 (lv_at hl 0 rfl) ?_
          refine lv_lstore (lv' := [(4, .long 0), (0, .ref m0), (1, .int (nI (i + 1))), (2, .long ped)]) hx hb dX2_pressureOf_114 hl (by decide) rfl (fun ls hl => ?_)
          refine lv_lload hx hb dX2_pressureOf_116 (lv_at hl 0 rfl) ?_
          refine lv_aload_n hx hb dX2_pressureOf_118 rfl (lv_at hl 1 rfl) ?_
          refine va_get (D := D) (ci := 2) (v := .ref (a 5)) (C := RX2) (T := TX2) (N := 14) hx hb hts (by decide +kernel) hown hK hP 0 rfl rfl 6 (by decide) (hts _ hm4) (fun _ h9 => h9) rfl dX2_pressureOf_119 ?_
          refine lv_iload_n hx hb dX2_pressureOf_122 rfl (lv_at hl 2 rfl) ?_
          refine va_lald (D := D) (f := bo) hx hb hK hP 5 4 rfl rfl (ix_9 hn hi) dX2_pressureOf_123 ?_
          refine W.eq (g2 := F0 m 124 ls [.long (bo (i + 1)), .long 0]) (by rw [wIx hn hi]) ?_
          refine W.lcmp hx hb dX2_pressureOf_124 ?_
          refine lv_if_le (tgt := 137) hx hb dX2_pressureOf_125 (by decide) (fun c_27 => ?_) (fun c_27 => ?_)
          · skip
            replace c_27 := (lg_cmp_le _ _).mp c_27
            refine lv_lload hx hb dX2_pressureOf_137 (lv_at hl 0 rfl) ?_
            exact W.lret (v := 0) hx hb hr (fun t ht hW => ⟨_, rfl, by first | (simp [mPr, mHold, mWant, c_1, c_2, c_20, c_26, c_27]; done) | (simp [mPr, mHold, mWant, c_1, c_2, c_20, c_26, c_27]; rfl), ht⟩) (fun q h => absurd h List.not_mem_nil) dX2_pressureOf_139
          · skip
            replace c_27 := mt (lg_cmp_le _ _).mpr c_27
            refine lv_aload_n hx hb dX2_pressureOf_128 rfl (lv_at hl 1 rfl) ?_
            refine va_get (D := D) (ci := 2) (v := .ref (a 5)) (C := RX2) (T := TX2) (N := 14) hx hb hts (by decide +kernel) hown hK hP 0 rfl rfl 6 (by decide) (hts _ hm4) (fun _ h9 => h9) rfl dX2_pressureOf_129 ?_
            refine lv_iload_n hx hb dX2_pressureOf_132 rfl (lv_at hl 2 rfl) ?_
            refine va_lald (D := D) (f := bo) hx hb hK hP 5 4 rfl rfl (ix_9 hn hi) dX2_pressureOf_133 ?_
            refine W.eq (g2 := F0 m 134 ls [.long (bo (i + 1))]) (by rw [wIx hn hi]) ?_
            refine lv_goto (tgt := 139) hx hb dX2_pressureOf_134 (by decide) ?_
            exact W.lret (v := (bo (i + 1))) hx hb hr (fun t ht hW => ⟨_, rfl, by first | (simp [mPr, mHold, mWant, c_1, c_2, c_20, c_26, c_27]; done) | (simp [mPr, mHold, mWant, c_1, c_2, c_20, c_26, c_27]; rfl), ht⟩) (fun q h => absurd h List.not_mem_nil) dX2_pressureOf_139
        · skip
          refine lv_lload hx hb dX2_pressureOf_97 (lv_at hl 0 rfl) ?_
          refine lv_ldc2 hx hb hown (hts _ hm5) dX2_pressureOf_99 ?_
          refine W.lcmp hx hb dX2_pressureOf_102 ?_
          refine lv_if_ge (tgt := 112) hx hb dX2_pressureOf_103 (by decide) (fun c_28 => ?_) (fun c_28 => ?_)
          · skip
            replace c_28 := (lg_cmp_ge _ _).mp c_28
            refine lv_lload hx hb dX2_pressureOf_112 (lv_at hl 0 rfl) ?_
            refine lv_lstore (lv' := [(4, .long 0), (0, .ref m0), (1, .int (nI (i + 1))), (2, .long ped)]) hx hb dX2_pressureOf_114 hl (by decide) rfl (fun ls hl => ?_)
            refine lv_lload hx hb dX2_pressureOf_116 (lv_at hl 0 rfl) ?_
            refine lv_aload_n hx hb dX2_pressureOf_118 rfl (lv_at hl 1 rfl) ?_
            refine va_get (D := D) (ci := 2) (v := .ref (a 5)) (C := RX2) (T := TX2) (N := 14) hx hb hts (by decide +kernel) hown hK hP 0 rfl rfl 6 (by decide) (hts _ hm4) (fun _ h9 => h9) rfl dX2_pressureOf_119 ?_
            refine lv_iload_n hx hb dX2_pressureOf_122 rfl (lv_at hl 2 rfl) ?_
            refine va_lald (D := D) (f := bo) hx hb hK hP 5 4 rfl rfl (ix_9 hn hi) dX2_pressureOf_123 ?_
            refine W.eq (g2 := F0 m 124 ls [.long (bo (i + 1)), .long 0]) (by rw [wIx hn hi]) ?_
            refine W.lcmp hx hb dX2_pressureOf_124 ?_
            refine lv_if_le (tgt := 137) hx hb dX2_pressureOf_125 (by decide) (fun c_29 => ?_) (fun c_29 => ?_)
            · skip
              replace c_29 := (lg_cmp_le _ _).mp c_29
              refine lv_lload hx hb dX2_pressureOf_137 (lv_at hl 0 rfl) ?_
              exact W.lret (v := 0) hx hb hr (fun t ht hW => ⟨_, rfl, by first | (simp [mPr, mHold, mWant, c_1, c_2, c_20, c_26, c_28, c_29]; done) | (simp [mPr, mHold, mWant, c_1, c_2, c_20, c_26, c_28, c_29]; rfl), ht⟩) (fun q h => absurd h List.not_mem_nil) dX2_pressureOf_139
            · skip
              replace c_29 := mt (lg_cmp_le _ _).mpr c_29
              refine lv_aload_n hx hb dX2_pressureOf_128 rfl (lv_at hl 1 rfl) ?_
              refine va_get (D := D) (ci := 2) (v := .ref (a 5)) (C := RX2) (T := TX2) (N := 14) hx hb hts (by decide +kernel) hown hK hP 0 rfl rfl 6 (by decide) (hts _ hm4) (fun _ h9 => h9) rfl dX2_pressureOf_129 ?_
              refine lv_iload_n hx hb dX2_pressureOf_132 rfl (lv_at hl 2 rfl) ?_
              refine va_lald (D := D) (f := bo) hx hb hK hP 5 4 rfl rfl (ix_9 hn hi) dX2_pressureOf_133 ?_
              refine W.eq (g2 := F0 m 134 ls [.long (bo (i + 1))]) (by rw [wIx hn hi]) ?_
              refine lv_goto (tgt := 139) hx hb dX2_pressureOf_134 (by decide) ?_
              exact W.lret (v := (bo (i + 1))) hx hb hr (fun t ht hW => ⟨_, rfl, by first | (simp [mPr, mHold, mWant, c_1, c_2, c_20, c_26, c_28, c_29]; done) | (simp [mPr, mHold, mWant, c_1, c_2, c_20, c_26, c_28, c_29]; rfl), ht⟩) (fun q h => absurd h List.not_mem_nil) dX2_pressureOf_139
          · skip
            replace c_28 := mt (lg_cmp_ge _ _).mpr c_28
            refine lv_ldc2 hx hb hown (hts _ hm5) dX2_pressureOf_106 ?_
            refine lv_goto (tgt := 114) hx hb dX2_pressureOf_109 (by decide) ?_
            refine lv_lstore (lv' := [(4, .long 30), (0, .ref m0), (1, .int (nI (i + 1))), (2, .long ped)]) hx hb dX2_pressureOf_114 hl (by decide) rfl (fun ls hl => ?_)
            refine lv_lload hx hb dX2_pressureOf_116 (lv_at hl 0 rfl) ?_
            refine lv_aload_n hx hb dX2_pressureOf_118 rfl (lv_at hl 1 rfl) ?_
            refine va_get (D := D) (ci := 2) (v := .ref (a 5)) (C := RX2) (T := TX2) (N := 14) hx hb hts (by decide +kernel) hown hK hP 0 rfl rfl 6 (by decide) (hts _ hm4) (fun _ h9 => h9) rfl dX2_pressureOf_119 ?_
            refine lv_iload_n hx hb dX2_pressureOf_122 rfl (lv_at hl 2 rfl) ?_
            refine va_lald (D := D) (f := bo) hx hb hK hP 5 4 rfl rfl (ix_9 hn hi) dX2_pressureOf_123 ?_
            refine W.eq (g2 := F0 m 124 ls [.long (bo (i + 1)), .long 30]) (by rw [wIx hn hi]) ?_
            refine W.lcmp hx hb dX2_pressureOf_124 ?_
            refine lv_if_le (tgt := 137) hx hb dX2_pressureOf_125 (by decide) (fun c_30 => ?_) (fun c_30 => ?_)
            · skip
              replace c_30 := (lg_cmp_le _ _).mp c_30
              refine lv_lload hx hb dX2_pressureOf_137 (lv_at hl 0 rfl) ?_
              exact W.lret (v := 30) hx hb hr (fun t ht hW => ⟨_, rfl, by first | (simp [mPr, mHold, mWant, c_1, c_2, c_20, c_26, c_28, c_30]; done) | (simp [mPr, mHold, mWant, c_1, c_2, c_20, c_26, c_28, c_30]; rfl), ht⟩) (fun q h => absurd h List.not_mem_nil) dX2_pressureOf_139
            · skip
              replace c_30 := mt (lg_cmp_le _ _).mpr c_30
              refine lv_aload_n hx hb dX2_pressureOf_128 rfl (lv_at hl 1 rfl) ?_
              refine va_get (D := D) (ci := 2) (v := .ref (a 5)) (C := RX2) (T := TX2) (N := 14) hx hb hts (by decide +kernel) hown hK hP 0 rfl rfl 6 (by decide) (hts _ hm4) (fun _ h9 => h9) rfl dX2_pressureOf_129 ?_
              refine lv_iload_n hx hb dX2_pressureOf_132 rfl (lv_at hl 2 rfl) ?_
              refine va_lald (D := D) (f := bo) hx hb hK hP 5 4 rfl rfl (ix_9 hn hi) dX2_pressureOf_133 ?_
              refine W.eq (g2 := F0 m 134 ls [.long (bo (i + 1))]) (by rw [wIx hn hi]) ?_
              refine lv_goto (tgt := 139) hx hb dX2_pressureOf_134 (by decide) ?_
              exact W.lret (v := (bo (i + 1))) hx hb hr (fun t ht hW => ⟨_, rfl, by first | (simp [mPr, mHold, mWant, c_1, c_2, c_20, c_26, c_28, c_30]; done) | (simp [mPr, mHold, mWant, c_1, c_2, c_20, c_26, c_28, c_30]; rfl), ht⟩) (fun q h => absurd h List.not_mem_nil) dX2_pressureOf_139
  · skip
    refine lv_lload_n hx hb dX2_pressureOf_17 rfl (lv_at hl 3 rfl) ?_
    refine lv_lstore (lv' := [(4, .long ped), (0, .ref m0), (1, .int (nI (i + 1))), (2, .long ped)]) hx hb dX2_pressureOf_18 hl (by decide) rfl (fun ls hl => ?_)
    refine lv_goto (tgt := 90) hx hb dX2_pressureOf_20 (by decide) ?_
    refine lv_aload_n hx hb dX2_pressureOf_90 rfl (lv_at hl 1 rfl) ?_
    refine va_get (D := D) (ci := 2) (v := .int hd) (C := RX2) (T := TX2) (N := 14) hx hb hts (by decide +kernel) hown hK hP 0 rfl rfl 10 (by decide) (hts _ hm3) (fun _ h9 => h9) rfl dX2_pressureOf_91 ?_
    refine lv_if_eq (tgt := 112) hx hb dX2_pressureOf_94 (by decide) (fun c_31 => ?_) (fun c_31 => ?_)
    · skip
      refine lv_lload hx hb dX2_pressureOf_112 (lv_at hl 0 rfl) ?_
      refine lv_lstore (lv' := [(4, .long ped), (0, .ref m0), (1, .int (nI (i + 1))), (2, .long ped)]) hx hb dX2_pressureOf_114 hl (by decide) rfl (fun ls hl => ?_)
      refine lv_lload hx hb dX2_pressureOf_116 (lv_at hl 0 rfl) ?_
      refine lv_aload_n hx hb dX2_pressureOf_118 rfl (lv_at hl 1 rfl) ?_
      refine va_get (D := D) (ci := 2) (v := .ref (a 5)) (C := RX2) (T := TX2) (N := 14) hx hb hts (by decide +kernel) hown hK hP 0 rfl rfl 6 (by decide) (hts _ hm4) (fun _ h9 => h9) rfl dX2_pressureOf_119 ?_
      refine lv_iload_n hx hb dX2_pressureOf_122 rfl (lv_at hl 2 rfl) ?_
      refine va_lald (D := D) (f := bo) hx hb hK hP 5 4 rfl rfl (ix_9 hn hi) dX2_pressureOf_123 ?_
      refine W.eq (g2 := F0 m 124 ls [.long (bo (i + 1)), .long ped]) (by rw [wIx hn hi]) ?_
      refine W.lcmp hx hb dX2_pressureOf_124 ?_
      refine lv_if_le (tgt := 137) hx hb dX2_pressureOf_125 (by decide) (fun c_32 => ?_) (fun c_32 => ?_)
      · skip
        replace c_32 := (lg_cmp_le _ _).mp c_32
        refine lv_lload hx hb dX2_pressureOf_137 (lv_at hl 0 rfl) ?_
        exact W.lret (v := ped) hx hb hr (fun t ht hW => ⟨_, rfl, by first | (simp [mPr, mHold, mWant, c_1, c_31, c_32]; done) | (simp [mPr, mHold, mWant, c_1, c_31, c_32]; rfl), ht⟩) (fun q h => absurd h List.not_mem_nil) dX2_pressureOf_139
      · skip
        replace c_32 := mt (lg_cmp_le _ _).mpr c_32
        refine lv_aload_n hx hb dX2_pressureOf_128 rfl (lv_at hl 1 rfl) ?_
        refine va_get (D := D) (ci := 2) (v := .ref (a 5)) (C := RX2) (T := TX2) (N := 14) hx hb hts (by decide +kernel) hown hK hP 0 rfl rfl 6 (by decide) (hts _ hm4) (fun _ h9 => h9) rfl dX2_pressureOf_129 ?_
        refine lv_iload_n hx hb dX2_pressureOf_132 rfl (lv_at hl 2 rfl) ?_
        refine va_lald (D := D) (f := bo) hx hb hK hP 5 4 rfl rfl (ix_9 hn hi) dX2_pressureOf_133 ?_
        refine W.eq (g2 := F0 m 134 ls [.long (bo (i + 1))]) (by rw [wIx hn hi]) ?_
        refine lv_goto (tgt := 139) hx hb dX2_pressureOf_134 (by decide) ?_
        exact W.lret (v := (bo (i + 1))) hx hb hr (fun t ht hW => ⟨_, rfl, by first | (simp [mPr, mHold, mWant, c_1, c_31, c_32]; done) | (simp [mPr, mHold, mWant, c_1, c_31, c_32]; rfl), ht⟩) (fun q h => absurd h List.not_mem_nil) dX2_pressureOf_139
    · skip
      refine lv_lload hx hb dX2_pressureOf_97 (lv_at hl 0 rfl) ?_
      refine lv_ldc2 hx hb hown (hts _ hm5) dX2_pressureOf_99 ?_
      refine W.lcmp hx hb dX2_pressureOf_102 ?_
      refine lv_if_ge (tgt := 112) hx hb dX2_pressureOf_103 (by decide) (fun c_33 => ?_) (fun c_33 => ?_)
      · skip
        replace c_33 := (lg_cmp_ge _ _).mp c_33
        refine lv_lload hx hb dX2_pressureOf_112 (lv_at hl 0 rfl) ?_
        refine lv_lstore (lv' := [(4, .long ped), (0, .ref m0), (1, .int (nI (i + 1))), (2, .long ped)]) hx hb dX2_pressureOf_114 hl (by decide) rfl (fun ls hl => ?_)
        refine lv_lload hx hb dX2_pressureOf_116 (lv_at hl 0 rfl) ?_
        refine lv_aload_n hx hb dX2_pressureOf_118 rfl (lv_at hl 1 rfl) ?_
        refine va_get (D := D) (ci := 2) (v := .ref (a 5)) (C := RX2) (T := TX2) (N := 14) hx hb hts (by decide +kernel) hown hK hP 0 rfl rfl 6 (by decide) (hts _ hm4) (fun _ h9 => h9) rfl dX2_pressureOf_119 ?_
        refine lv_iload_n hx hb dX2_pressureOf_122 rfl (lv_at hl 2 rfl) ?_
        refine va_lald (D := D) (f := bo) hx hb hK hP 5 4 rfl rfl (ix_9 hn hi) dX2_pressureOf_123 ?_
        refine W.eq (g2 := F0 m 124 ls [.long (bo (i + 1)), .long ped]) (by rw [wIx hn hi]) ?_
        refine W.lcmp hx hb dX2_pressureOf_124 ?_
        refine lv_if_le (tgt := 137) hx hb dX2_pressureOf_125 (by decide) (fun c_34 => ?_) (fun c_34 => ?_)
        · skip
          replace c_34 := (lg_cmp_le _ _).mp c_34
          refine lv_lload hx hb dX2_pressureOf_137 (lv_at hl 0 rfl) ?_
          exact W.lret (v := ped) hx hb hr (fun t ht hW => ⟨_, rfl, by first | (simp [mPr, mHold, mWant, c_1, c_31, c_33, c_34]; done) | (simp [mPr, mHold, mWant, c_1, c_31, c_33, c_34]; rfl), ht⟩) (fun q h => absurd h List.not_mem_nil) dX2_pressureOf_139
        · skip
          replace c_34 := mt (lg_cmp_le _ _).mpr c_34
          refine lv_aload_n hx hb dX2_pressureOf_128 rfl (lv_at hl 1 rfl) ?_
          refine va_get (D := D) (ci := 2) (v := .ref (a 5)) (C := RX2) (T := TX2) (N := 14) hx hb hts (by decide +kernel) hown hK hP 0 rfl rfl 6 (by decide) (hts _ hm4) (fun _ h9 => h9) rfl dX2_pressureOf_129 ?_
          refine lv_iload_n hx hb dX2_pressureOf_132 rfl (lv_at hl 2 rfl) ?_
          refine va_lald (D := D) (f := bo) hx hb hK hP 5 4 rfl rfl (ix_9 hn hi) dX2_pressureOf_133 ?_
          refine W.eq (g2 := F0 m 134 ls [.long (bo (i + 1))]) (by rw [wIx hn hi]) ?_
          refine lv_goto (tgt := 139) hx hb dX2_pressureOf_134 (by decide) ?_
          exact W.lret (v := (bo (i + 1))) hx hb hr (fun t ht hW => ⟨_, rfl, by first | (simp [mPr, mHold, mWant, c_1, c_31, c_33, c_34]; done) | (simp [mPr, mHold, mWant, c_1, c_31, c_33, c_34]; rfl), ht⟩) (fun q h => absurd h List.not_mem_nil) dX2_pressureOf_139
      · skip
        replace c_33 := mt (lg_cmp_ge _ _).mpr c_33
        refine lv_ldc2 hx hb hown (hts _ hm5) dX2_pressureOf_106 ?_
        refine lv_goto (tgt := 114) hx hb dX2_pressureOf_109 (by decide) ?_
        refine lv_lstore (lv' := [(4, .long 30), (0, .ref m0), (1, .int (nI (i + 1))), (2, .long ped)]) hx hb dX2_pressureOf_114 hl (by decide) rfl (fun ls hl => ?_)
        refine lv_lload hx hb dX2_pressureOf_116 (lv_at hl 0 rfl) ?_
        refine lv_aload_n hx hb dX2_pressureOf_118 rfl (lv_at hl 1 rfl) ?_
        refine va_get (D := D) (ci := 2) (v := .ref (a 5)) (C := RX2) (T := TX2) (N := 14) hx hb hts (by decide +kernel) hown hK hP 0 rfl rfl 6 (by decide) (hts _ hm4) (fun _ h9 => h9) rfl dX2_pressureOf_119 ?_
        refine lv_iload_n hx hb dX2_pressureOf_122 rfl (lv_at hl 2 rfl) ?_
        refine va_lald (D := D) (f := bo) hx hb hK hP 5 4 rfl rfl (ix_9 hn hi) dX2_pressureOf_123 ?_
        refine W.eq (g2 := F0 m 124 ls [.long (bo (i + 1)), .long 30]) (by rw [wIx hn hi]) ?_
        refine W.lcmp hx hb dX2_pressureOf_124 ?_
        refine lv_if_le (tgt := 137) hx hb dX2_pressureOf_125 (by decide) (fun c_35 => ?_) (fun c_35 => ?_)
        · skip
          replace c_35 := (lg_cmp_le _ _).mp c_35
          refine lv_lload hx hb dX2_pressureOf_137 (lv_at hl 0 rfl) ?_
          exact W.lret (v := 30) hx hb hr (fun t ht hW => ⟨_, rfl, by first | (simp [mPr, mHold, mWant, c_1, c_31, c_33, c_35]; done) | (simp [mPr, mHold, mWant, c_1, c_31, c_33, c_35]; rfl), ht⟩) (fun q h => absurd h List.not_mem_nil) dX2_pressureOf_139
        · skip
          replace c_35 := mt (lg_cmp_le _ _).mpr c_35
          refine lv_aload_n hx hb dX2_pressureOf_128 rfl (lv_at hl 1 rfl) ?_
          refine va_get (D := D) (ci := 2) (v := .ref (a 5)) (C := RX2) (T := TX2) (N := 14) hx hb hts (by decide +kernel) hown hK hP 0 rfl rfl 6 (by decide) (hts _ hm4) (fun _ h9 => h9) rfl dX2_pressureOf_129 ?_
          refine lv_iload_n hx hb dX2_pressureOf_132 rfl (lv_at hl 2 rfl) ?_
          refine va_lald (D := D) (f := bo) hx hb hK hP 5 4 rfl rfl (ix_9 hn hi) dX2_pressureOf_133 ?_
          refine W.eq (g2 := F0 m 134 ls [.long (bo (i + 1))]) (by rw [wIx hn hi]) ?_
          refine lv_goto (tgt := 139) hx hb dX2_pressureOf_134 (by decide) ?_
          exact W.lret (v := (bo (i + 1))) hx hb hr (fun t ht hW => ⟨_, rfl, by first | (simp [mPr, mHold, mWant, c_1, c_31, c_33, c_35]; done) | (simp [mPr, mHold, mWant, c_1, c_31, c_33, c_35]; rfl), ht⟩) (fun q h => absurd h List.not_mem_nil) dX2_pressureOf_139
end
section
/-! ===== the reference: methods that write ===== -/
set_option maxHeartbeats 4000000 in
set_option maxRecDepth 100000 in
/-- refer -/
theorem m2_refer (l : Launch) (D : va_G) (m0 : Nat) (a : Nat → Nat) (C : Nat → ClassId) (n : Nat) (th : Int32) (sp : Nat → Int64) (lo ph : Nat → Int32) (pr bo : Nat → Int64) (mo : Nat → UInt64) (rf : Int64) (gr hd st ch rs : Int32) (hn : n ≤ 8) (ped : Int64) (sz : Nat) : Met l yX2_refer wsX2_refer ({ frames := 1, cells := 0, slots := 0, locals := 22 }) (va_Pc [.ref m0, .long ped] (xW D [(C 1, .long), (C 2, .boolean), (C 3, .int), (C 4, .long), (C 5, .long), (C 6, .double)] (mw m0 a C th (nI n) sp lo ph pr bo mo rf gr hd st ch rs) sz)) (va_Qv (fun (u : (Int64)) => u = mRef n ped rf lo sp) (fun (u : (Int64)) => xB D [(C 1, .long), (C 2, .boolean), (C 3, .int), (C 4, .long), (C 5, .long), (C 6, .double)] (va_A (mw m0 a C th (nI n) sp lo ph pr bo mo rf gr hd st ch rs) sz) (mw m0 a C th (nI n) sp lo ph pr bo mo u gr hd st ch rs)) (va_A (mw m0 a C th (nI n) sp lo ph pr bo mo rf gr hd st ch rs) sz)) 0 0 (va_A (mw m0 a C th (nI n) sp lo ph pr bo mo rf gr hd st ch rs) sz) := by
  refine Met.ofW (cc := cX2_refer) (maxL := 8) (ret := none) (by decide) rfl ?_
  intro p e s m args below meth c s₁ B hml hv
  obtain ⟨rfl, hsz, ⟨hP, hK, hN⟩, hDt⟩ := hv
  have hx := B.exec
  have hb := B.bytes
  have hr := B.returns
  have hts := atoms_spec (ws := wsX2_refer) B.pre
  have hown : s.vm.findClass RX2 = some m.cls := findClass_of_methodNamed B.named
  have hlocks := B.notSynchronized
  have hm1 : (.fieldLink RX2 35 "GearBrakeModel" "wheels" "I" : Cond) ∈ wsX2_refer := by decide +kernel
  have hm2 : (.fieldLink RX2 53 "GearBrakeModel" "reference" "J" : Cond) ∈ wsX2_refer := by decide +kernel
  have hm3 : (.constantLong RX2 57 (3) : Cond) ∈ wsX2_refer := by decide +kernel
  have hm4 : (.fieldLink RX2 13 "GearBrakeModel" "losts" "[Z" : Cond) ∈ wsX2_refer := by decide +kernel
  have hm5 : (.fieldLink RX2 7 "GearBrakeModel" "speeds" "[J" : Cond) ∈ wsX2_refer := by decide +kernel
  subst hsz
  have hD := hDt.self (sz := s.heap.size)
  generalize hAe : va_A (mw m0 a C th (nI n) sp lo ph pr bo mo rf gr hd st ch rs) s.heap.size = A at hD ⊢
  have hA : ∀ q : Nat, s.heap.size ≤ q → A q := fun q h => by rw [← hAe]; exact Or.inr h
  have hS : va_S A s.heap s.heap [] := va_S.rf
  have hl := lv_entry ([.ref m0, .long ped]) (n := 8) (Nat.le_of_ble_eq_true rfl)
  rw [lg_entry_eq]
  generalize (lg_sl ([.ref m0, .long ped]) ++ List.replicate (8 - (lg_sl ([.ref m0, .long ped])).length) Slot.unset).toArray = ls at hl ⊢
  replace hl : lv_has ls 8 [(0, .ref m0), (1, .long ped)] := hl
  refine lv_lconst (v := 0) hx hb dX2_refer_0 (by decide) ?_
  refine lv_lstore_n (lv' := [(3, .long 0), (0, .ref m0), (1, .long ped)]) hx hb dX2_refer_1 rfl hl (by decide) rfl (fun ls hl => ?_)
  refine lv_iconst (v := 1) hx hb dX2_refer_2 (by decide) ?_
  refine lv_istore (lv' := [(5, .int 1), (3, .long 0), (0, .ref m0), (1, .long ped)]) hx hb dX2_refer_3 hl (by decide) rfl (fun ls hl => ?_)
  obtain ⟨j, hI⟩ : ∃ (j : Nat), j ≤ n ∧ lv_has ls 8 [(5, .int (nI (j + 1))), (3, .long (mTop lo sp j)), (0, .ref m0), (1, .long ped)] := ⟨0, Nat.zero_le _, by exact lv_sub hl [0, 1, 2, 3] rfl⟩
  obtain ⟨d, hjd⟩ : ∃ d, j + d = n := ⟨n - j, by omega⟩
  clear hl
  induction d generalizing ls j with
  | zero =>
    obtain ⟨hjn, hl⟩ := hI
    have hjn : j = n := by omega
    rw [hjn] at hl
    refine lv_iload hx hb dX2_refer_5 (lv_at hl 0 rfl) ?_
    refine lv_aload_n hx hb dX2_refer_7 rfl (lv_at hl 2 rfl) ?_
    refine va_get (D := D) (ci := 2) (v := .int (nI n)) (C := RX2) (T := TX2) (N := 14) hx hb hts (by decide +kernel) hown hK hP 0 rfl rfl 1 (by decide) (hts _ hm1) (fun _ h9 => h9) rfl dX2_refer_8 ?_
    refine lv_icmp_gt (tgt := 54) hx hb dX2_refer_11 (by decide) (fun c_1 => ?_) (fun c_1 => absurd (nI_lt (Nat.lt_succ_self n) (by omega)) c_1)
    refine lv_aload_n hx hb dX2_refer_54 rfl (lv_at hl 2 rfl) ?_
    refine vp_callSi (W.runV (As := []) (rest := []) ⟨hx, hb, hml, hown, hts⟩ (m2_lostOnes l D m0 a C n th sp lo ph pr bo mo rf gr hd st ch rs hn) (cwV 0 hts gX2_refer_X2_lostOnes rfl rfl rfl (by decide +kernel) ⟨Nat.le_of_ble_eq_true rfl, Nat.le_of_ble_eq_true rfl⟩) ⟨xP_blind, va_recv hK hP (ci := 2) (q0 := 0) rfl rfl, xP_at hP hK hN⟩ rfl rfl hl.1 rfl (lv_room (Nat.le_of_ble_eq_true rfl)) dX2_refer_55 ⟨Nat.le_of_ble_eq_true rfl, Nat.le_of_ble_eq_true rfl⟩) (fun r_2 hr_3 => ?_)
    subst hr_3
    refine lv_aload_n hx hb dX2_refer_58 rfl (lv_at hl 2 rfl) ?_
    refine va_get (D := D) (ci := 2) (v := .int (nI n)) (C := RX2) (T := TX2) (N := 14) hx hb hts (by decide +kernel) hown hK hP 0 rfl rfl 1 (by decide) (hts _ hm1) (fun _ h9 => h9) rfl dX2_refer_59 ?_
    refine lv_icmp_ne (tgt := 69) hx hb dX2_refer_62 (by decide) (fun c_4 => ?_) (fun c_4 => ?_)
    · skip
      refine lv_iconst (v := 0) hx hb dX2_refer_69 (by decide) ?_
      refine lv_istore (lv' := [(5, .int 0), (3, .long (mTop lo sp n)), (0, .ref m0), (1, .long ped)]) hx hb dX2_refer_70 hl (by decide) rfl (fun ls hl => ?_)
      refine lv_aload_n hx hb dX2_refer_72 rfl (lv_at hl 2 rfl) ?_
      refine va_get (D := D) (ci := 2) (v := .long rf) (C := RX2) (T := TX2) (N := 14) hx hb hts (by decide +kernel) hown hK hP 0 rfl rfl 8 (by decide) (hts _ hm2) (fun _ h9 => h9) rfl dX2_refer_73 ?_
      refine lv_ldc2 hx hb hown (hts _ hm3) dX2_refer_76 ?_
      refine W.lcmp hx hb dX2_refer_79 ?_
      refine lv_if_ge (tgt := 87) hx hb dX2_refer_80 (by decide) (fun c_5 => ?_) (fun c_5 => ?_)
      · skip
        replace c_5 := (lg_cmp_ge _ _).mp c_5
        refine lv_aload_n hx hb dX2_refer_87 rfl (lv_at hl 2 rfl) ?_
        refine va_get (D := D) (ci := 2) (v := .long rf) (C := RX2) (T := TX2) (N := 14) hx hb hts (by decide +kernel) hown hK hP 0 rfl rfl 8 (by decide) (hts _ hm2) (fun _ h9 => h9) rfl dX2_refer_88 ?_
        refine lv_ldc2 hx hb hown (hts _ hm3) dX2_refer_91 ?_
        refine lv_lsub hx hb dX2_refer_94 ?_
        refine lv_lstore (lv' := [(6, .long (rf - 3)), (5, .int 0), (3, .long (mTop lo sp n)), (0, .ref m0), (1, .long ped)]) hx hb dX2_refer_95 hl (by decide) rfl (fun ls hl => ?_)
        refine lv_iload hx hb dX2_refer_97 (lv_at hl 1 rfl) ?_
        refine lv_if_eq (tgt := 111) hx hb dX2_refer_99 (by decide) (fun c_6 => ?_) (fun c_6 => absurd (by decide) c_6)
        refine lv_aload_n hx hb dX2_refer_111 rfl (lv_at hl 3 rfl) ?_
        refine lv_lload_n hx hb dX2_refer_112 rfl (lv_at hl 4 rfl) ?_
        refine lv_lconst (v := 0) hx hb dX2_refer_113 (by decide) ?_
        refine W.lcmp hx hb dX2_refer_114 ?_
        refine lv_if_le (tgt := 130) hx hb dX2_refer_115 (by decide) (fun c_7 => ?_) (fun c_7 => ?_)
        · skip
          replace c_7 := (lg_cmp_le _ _).mp c_7
          refine lv_lload_n hx hb dX2_refer_130 rfl (lv_at hl 2 rfl) ?_
          refine va_put (D := D) (ci := 2) (v := .long (mTop lo sp n)) (ty := .long) (C := RX2) (T := TX2) (N := 14) hx hb hts (by decide +kernel) tyX2 tyX2_ok nmX2 hown hK hP hD hS 0 rfl rfl 8 (by decide) (hts _ hm2) (fun _ h9 => h9) rfl (by decide +kernel) rfl rfl (Nat.le_of_ble_eq_true rfl) dX2_refer_131 (fun H locs hP hD hS => ?_)
          replace hP : va_P D vwCl (mw m0 a C th (nI n) sp lo ph pr bo mo (mTop lo sp n) gr hd st ch rs) H := hP
          replace hD : va_D A (mw m0 a C th (nI n) sp lo ph pr bo mo (mTop lo sp n) gr hd st ch rs) := hD
          exact W.vret hx hb hr (fun t ht hW => ⟨⟨(mTop lo sp n), rfl, by simp [mRef, mLess, c_4, c_5, c_7], xB_end hP hK hN hD ht hW⟩, hS.F ht⟩) hS.2.2 dX2_refer_134
        · skip
          replace c_7 := mt (lg_cmp_le _ _).mpr c_7
          refine lv_lload hx hb dX2_refer_118 (lv_at hl 0 rfl) ?_
          refine lv_lload_n hx hb dX2_refer_120 rfl (lv_at hl 2 rfl) ?_
          refine W.lcmp hx hb dX2_refer_121 ?_
          refine lv_if_le (tgt := 130) hx hb dX2_refer_122 (by decide) (fun c_8 => ?_) (fun c_8 => ?_)
          · skip
            replace c_8 := (lg_cmp_le _ _).mp c_8
            refine lv_lload_n hx hb dX2_refer_130 rfl (lv_at hl 2 rfl) ?_
            refine va_put (D := D) (ci := 2) (v := .long (mTop lo sp n)) (ty := .long) (C := RX2) (T := TX2) (N := 14) hx hb hts (by decide +kernel) tyX2 tyX2_ok nmX2 hown hK hP hD hS 0 rfl rfl 8 (by decide) (hts _ hm2) (fun _ h9 => h9) rfl (by decide +kernel) rfl rfl (Nat.le_of_ble_eq_true rfl) dX2_refer_131 (fun H locs hP hD hS => ?_)
            replace hP : va_P D vwCl (mw m0 a C th (nI n) sp lo ph pr bo mo (mTop lo sp n) gr hd st ch rs) H := hP
            replace hD : va_D A (mw m0 a C th (nI n) sp lo ph pr bo mo (mTop lo sp n) gr hd st ch rs) := hD
            exact W.vret hx hb hr (fun t ht hW => ⟨⟨(mTop lo sp n), rfl, by simp [mRef, mLess, c_4, c_5, c_7, c_8], xB_end hP hK hN hD ht hW⟩, hS.F ht⟩) hS.2.2 dX2_refer_134
          · skip
            replace c_8 := mt (lg_cmp_le _ _).mpr c_8
            refine lv_lload hx hb dX2_refer_125 (lv_at hl 0 rfl) ?_
            refine lv_goto (tgt := 131) hx hb dX2_refer_127 (by decide) ?_
            refine va_put (D := D) (ci := 2) (v := .long (rf - 3)) (ty := .long) (C := RX2) (T := TX2) (N := 14) hx hb hts (by decide +kernel) tyX2 tyX2_ok nmX2 hown hK hP hD hS 0 rfl rfl 8 (by decide) (hts _ hm2) (fun _ h9 => h9) rfl (by decide +kernel) rfl rfl (Nat.le_of_ble_eq_true rfl) dX2_refer_131 (fun H locs hP hD hS => ?_)
            replace hP : va_P D vwCl (mw m0 a C th (nI n) sp lo ph pr bo mo (rf - 3) gr hd st ch rs) H := hP
            replace hD : va_D A (mw m0 a C th (nI n) sp lo ph pr bo mo (rf - 3) gr hd st ch rs) := hD
            exact W.vret hx hb hr (fun t ht hW => ⟨⟨(rf - 3), rfl, by simp [mRef, mLess, c_4, c_5, c_7, c_8], xB_end hP hK hN hD ht hW⟩, hS.F ht⟩) hS.2.2 dX2_refer_134
      · skip
        replace c_5 := mt (lg_cmp_ge _ _).mpr c_5
        refine lv_lconst (v := 0) hx hb dX2_refer_83 (by decide) ?_
        refine lv_goto (tgt := 95) hx hb dX2_refer_84 (by decide) ?_
        refine lv_lstore (lv' := [(6, .long 0), (5, .int 0), (3, .long (mTop lo sp n)), (0, .ref m0), (1, .long ped)]) hx hb dX2_refer_95 hl (by decide) rfl (fun ls hl => ?_)
        refine lv_iload hx hb dX2_refer_97 (lv_at hl 1 rfl) ?_
        refine lv_if_eq (tgt := 111) hx hb dX2_refer_99 (by decide) (fun c_9 => ?_) (fun c_9 => absurd (by decide) c_9)
        refine lv_aload_n hx hb dX2_refer_111 rfl (lv_at hl 3 rfl) ?_
        refine lv_lload_n hx hb dX2_refer_112 rfl (lv_at hl 4 rfl) ?_
        refine lv_lconst (v := 0) hx hb dX2_refer_113 (by decide) ?_
        refine W.lcmp hx hb dX2_refer_114 ?_
        refine lv_if_le (tgt := 130) hx hb dX2_refer_115 (by decide) (fun c_10 => ?_) (fun c_10 => ?_)
        · skip
          replace c_10 := (lg_cmp_le _ _).mp c_10
          refine lv_lload_n hx hb dX2_refer_130 rfl (lv_at hl 2 rfl) ?_
          refine va_put (D := D) (ci := 2) (v := .long (mTop lo sp n)) (ty := .long) (C := RX2) (T := TX2) (N := 14) hx hb hts (by decide +kernel) tyX2 tyX2_ok nmX2 hown hK hP hD hS 0 rfl rfl 8 (by decide) (hts _ hm2) (fun _ h9 => h9) rfl (by decide +kernel) rfl rfl (Nat.le_of_ble_eq_true rfl) dX2_refer_131 (fun H locs hP hD hS => ?_)
          replace hP : va_P D vwCl (mw m0 a C th (nI n) sp lo ph pr bo mo (mTop lo sp n) gr hd st ch rs) H := hP
          replace hD : va_D A (mw m0 a C th (nI n) sp lo ph pr bo mo (mTop lo sp n) gr hd st ch rs) := hD
          exact W.vret hx hb hr (fun t ht hW => ⟨⟨(mTop lo sp n), rfl, by simp [mRef, mLess, c_4, c_5, c_10], xB_end hP hK hN hD ht hW⟩, hS.F ht⟩) hS.2.2 dX2_refer_134
        · skip
          replace c_10 := mt (lg_cmp_le _ _).mpr c_10
          refine lv_lload hx hb dX2_refer_118 (lv_at hl 0 rfl) ?_
          refine lv_lload_n hx hb dX2_refer_120 rfl (lv_at hl 2 rfl) ?_
          refine W.lcmp hx hb dX2_refer_121 ?_
          refine lv_if_le (tgt := 130) hx hb dX2_refer_122 (by decide) (fun c_11 => ?_) (fun c_11 => ?_)
          · skip
            replace c_11 := (lg_cmp_le _ _).mp c_11
            refine lv_lload_n hx hb dX2_refer_130 rfl (lv_at hl 2 rfl) ?_
            refine va_put (D := D) (ci := 2) (v := .long (mTop lo sp n)) (ty := .long) (C := RX2) (T := TX2) (N := 14) hx hb hts (by decide +kernel) tyX2 tyX2_ok nmX2 hown hK hP hD hS 0 rfl rfl 8 (by decide) (hts _ hm2) (fun _ h9 => h9) rfl (by decide +kernel) rfl rfl (Nat.le_of_ble_eq_true rfl) dX2_refer_131 (fun H locs hP hD hS => ?_)
            replace hP : va_P D vwCl (mw m0 a C th (nI n) sp lo ph pr bo mo (mTop lo sp n) gr hd st ch rs) H := hP
            replace hD : va_D A (mw m0 a C th (nI n) sp lo ph pr bo mo (mTop lo sp n) gr hd st ch rs) := hD
            exact W.vret hx hb hr (fun t ht hW => ⟨⟨(mTop lo sp n), rfl, by simp [mRef, mLess, c_4, c_5, c_10, c_11], xB_end hP hK hN hD ht hW⟩, hS.F ht⟩) hS.2.2 dX2_refer_134
          · skip
            replace c_11 := mt (lg_cmp_le _ _).mpr c_11
            refine lv_lload hx hb dX2_refer_125 (lv_at hl 0 rfl) ?_
            refine lv_goto (tgt := 131) hx hb dX2_refer_127 (by decide) ?_
            refine va_put (D := D) (ci := 2) (v := .long 0) (ty := .long) (C := RX2) (T := TX2) (N := 14) hx hb hts (by decide +kernel) tyX2 tyX2_ok nmX2 hown hK hP hD hS 0 rfl rfl 8 (by decide) (hts _ hm2) (fun _ h9 => h9) rfl (by decide +kernel) rfl rfl (Nat.le_of_ble_eq_true rfl) dX2_refer_131 (fun H locs hP hD hS => ?_)
            replace hP : va_P D vwCl (mw m0 a C th (nI n) sp lo ph pr bo mo 0 gr hd st ch rs) H := hP
            replace hD : va_D A (mw m0 a C th (nI n) sp lo ph pr bo mo 0 gr hd st ch rs) := hD
            exact W.vret hx hb hr (fun t ht hW => ⟨⟨(0), rfl, by simp [mRef, mLess, c_4, c_5, c_10, c_11], xB_end hP hK hN hD ht hW⟩, hS.F ht⟩) hS.2.2 dX2_refer_134
    · skip
      refine lv_iconst (v := 1) hx hb dX2_refer_65 (by decide) ?_
      refine lv_goto (tgt := 70) hx hb dX2_refer_66 (by decide) ?_
      refine lv_istore (lv' := [(5, .int 1), (3, .long (mTop lo sp n)), (0, .ref m0), (1, .long ped)]) hx hb dX2_refer_70 hl (by decide) rfl (fun ls hl => ?_)
      refine lv_aload_n hx hb dX2_refer_72 rfl (lv_at hl 2 rfl) ?_
      refine va_get (D := D) (ci := 2) (v := .long rf) (C := RX2) (T := TX2) (N := 14) hx hb hts (by decide +kernel) hown hK hP 0 rfl rfl 8 (by decide) (hts _ hm2) (fun _ h9 => h9) rfl dX2_refer_73 ?_
      refine lv_ldc2 hx hb hown (hts _ hm3) dX2_refer_76 ?_
      refine W.lcmp hx hb dX2_refer_79 ?_
      refine lv_if_ge (tgt := 87) hx hb dX2_refer_80 (by decide) (fun c_12 => ?_) (fun c_12 => ?_)
      · skip
        replace c_12 := (lg_cmp_ge _ _).mp c_12
        refine lv_aload_n hx hb dX2_refer_87 rfl (lv_at hl 2 rfl) ?_
        refine va_get (D := D) (ci := 2) (v := .long rf) (C := RX2) (T := TX2) (N := 14) hx hb hts (by decide +kernel) hown hK hP 0 rfl rfl 8 (by decide) (hts _ hm2) (fun _ h9 => h9) rfl dX2_refer_88 ?_
        refine lv_ldc2 hx hb hown (hts _ hm3) dX2_refer_91 ?_
        refine lv_lsub hx hb dX2_refer_94 ?_
        refine lv_lstore (lv' := [(6, .long (rf - 3)), (5, .int 1), (3, .long (mTop lo sp n)), (0, .ref m0), (1, .long ped)]) hx hb dX2_refer_95 hl (by decide) rfl (fun ls hl => ?_)
        refine lv_iload hx hb dX2_refer_97 (lv_at hl 1 rfl) ?_
        refine lv_if_eq (tgt := 111) hx hb dX2_refer_99 (by decide) (fun c_13 => absurd c_13 (by decide)) (fun c_13 => ?_)
        refine lv_aload_n hx hb dX2_refer_102 rfl (lv_at hl 3 rfl) ?_
        refine lv_lload hx hb dX2_refer_103 (lv_at hl 0 rfl) ?_
        refine va_put (D := D) (ci := 2) (v := .long (rf - 3)) (ty := .long) (C := RX2) (T := TX2) (N := 14) hx hb hts (by decide +kernel) tyX2 tyX2_ok nmX2 hown hK hP hD hS 0 rfl rfl 8 (by decide) (hts _ hm2) (fun _ h9 => h9) rfl (by decide +kernel) rfl rfl (Nat.le_of_ble_eq_true rfl) dX2_refer_105 (fun H locs hP hD hS => ?_)
        replace hP : va_P D vwCl (mw m0 a C th (nI n) sp lo ph pr bo mo (rf - 3) gr hd st ch rs) H := hP
        replace hD : va_D A (mw m0 a C th (nI n) sp lo ph pr bo mo (rf - 3) gr hd st ch rs) := hD
        refine lv_goto (tgt := 134) hx hb dX2_refer_108 (by decide) ?_
        exact W.vret hx hb hr (fun t ht hW => ⟨⟨(rf - 3), rfl, by simp [mRef, mLess, c_4, c_12], xB_end hP hK hN hD ht hW⟩, hS.F ht⟩) hS.2.2 dX2_refer_134
      · skip
        replace c_12 := mt (lg_cmp_ge _ _).mpr c_12
        refine lv_lconst (v := 0) hx hb dX2_refer_83 (by decide) ?_
        refine lv_goto (tgt := 95) hx hb dX2_refer_84 (by decide) ?_
        refine lv_lstore (lv' := [(6, .long 0), (5, .int 1), (3, .long (mTop lo sp n)), (0, .ref m0), (1, .long ped)]) hx hb dX2_refer_95 hl (by decide) rfl (fun ls hl => ?_)
        refine lv_iload hx hb dX2_refer_97 (lv_at hl 1 rfl) ?_
        refine lv_if_eq (tgt := 111) hx hb dX2_refer_99 (by decide) (fun c_14 => absurd c_14 (by decide)) (fun c_14 => ?_)
        refine lv_aload_n hx hb dX2_refer_102 rfl (lv_at hl 3 rfl) ?_
        refine lv_lload hx hb dX2_refer_103 (lv_at hl 0 rfl) ?_
        refine va_put (D := D) (ci := 2) (v := .long 0) (ty := .long) (C := RX2) (T := TX2) (N := 14) hx hb hts (by decide +kernel) tyX2 tyX2_ok nmX2 hown hK hP hD hS 0 rfl rfl 8 (by decide) (hts _ hm2) (fun _ h9 => h9) rfl (by decide +kernel) rfl rfl (Nat.le_of_ble_eq_true rfl) dX2_refer_105 (fun H locs hP hD hS => ?_)
        replace hP : va_P D vwCl (mw m0 a C th (nI n) sp lo ph pr bo mo 0 gr hd st ch rs) H := hP
        replace hD : va_D A (mw m0 a C th (nI n) sp lo ph pr bo mo 0 gr hd st ch rs) := hD
        refine lv_goto (tgt := 134) hx hb dX2_refer_108 (by decide) ?_
        exact W.vret hx hb hr (fun t ht hW => ⟨⟨(0), rfl, by simp [mRef, mLess, c_4, c_12], xB_end hP hK hN hD ht hW⟩, hS.F ht⟩) hS.2.2 dX2_refer_134
  | succ d ih =>
    obtain ⟨hjn, hl⟩ := hI
    have hlt : j < n := by omega
    refine lv_iload hx hb dX2_refer_5 (lv_at hl 0 rfl) ?_
    refine lv_aload_n hx hb dX2_refer_7 rfl (lv_at hl 2 rfl) ?_
    refine va_get (D := D) (ci := 2) (v := .int (nI n)) (C := RX2) (T := TX2) (N := 14) hx hb hts (by decide +kernel) hown hK hP 0 rfl rfl 1 (by decide) (hts _ hm1) (fun _ h9 => h9) rfl dX2_refer_8 ?_
    refine lv_icmp_gt (tgt := 54) hx hb dX2_refer_11 (by decide) (fun c_15 => absurd c_15 (nI_nlt (by omega) (by omega))) (fun c_15 => ?_)
    refine lv_aload_n hx hb dX2_refer_14 rfl (lv_at hl 2 rfl) ?_
    refine va_get (D := D) (ci := 2) (v := .ref (a 2)) (C := RX2) (T := TX2) (N := 14) hx hb hts (by decide +kernel) hown hK hP 0 rfl rfl 3 (by decide) (hts _ hm4) (fun _ h9 => h9) rfl dX2_refer_15 ?_
    refine lv_iload hx hb dX2_refer_18 (lv_at hl 0 rfl) ?_
    refine va_zald (D := D) (f := lo) hx hb hK hP 2 1 rfl rfl (ix_9 hn hlt) dX2_refer_20 ?_
    refine W.eq (g2 := F0 m 21 ls [.int (lo (j + 1))]) (by rw [wIx hn hlt]) ?_
    refine lv_if_ne (tgt := 46) hx hb dX2_refer_21 (by decide) (fun c_16 => ?_) (fun c_16 => ?_)
    · skip
      refine lv_lload_n hx hb dX2_refer_46 rfl (lv_at hl 1 rfl) ?_
      refine lv_lstore_n (lv' := [(3, .long (mTop lo sp j)), (5, .int (nI (j + 1))), (0, .ref m0), (1, .long ped)]) hx hb dX2_refer_47 rfl hl (by decide) rfl (fun ls hl => ?_)
      refine lv_iinc (v := nI (j + 1 + 1)) (lv' := [(5, .int (nI (j + 1 + 1))), (3, .long (mTop lo sp j)), (0, .ref m0), (1, .long ped)]) hx hb dX2_refer_48 hl (k := 1) rfl (nI_1 (j + 1)) (by decide) rfl (fun ls hl => ?_)
      refine lv_goto (tgt := 5) hx hb dX2_refer_51 (by decide) ?_
      exact ih _ (j + 1) ⟨by omega, by rw [show nI ((j + 1) + 1) = nI (j + 1 + 1) from rfl]; rw [show mTop lo sp (j + 1) = mTop lo sp j from by simp only [mTop]; simp [c_16]]; exact lv_sub hl [0, 1, 2, 3] rfl⟩ (by omega)
    · skip
      refine lv_aload_n hx hb dX2_refer_24 rfl (lv_at hl 2 rfl) ?_
      refine va_get (D := D) (ci := 2) (v := .ref (a 1)) (C := RX2) (T := TX2) (N := 14) hx hb hts (by decide +kernel) hown hK hP 0 rfl rfl 2 (by decide) (hts _ hm5) (fun _ h9 => h9) rfl dX2_refer_25 ?_
      refine lv_iload hx hb dX2_refer_28 (lv_at hl 0 rfl) ?_
      refine va_lald (D := D) (f := sp) hx hb hK hP 1 0 rfl rfl (ix_9 hn hlt) dX2_refer_30 ?_
      refine W.eq (g2 := F0 m 31 ls [.long (sp (j + 1))]) (by rw [wIx hn hlt]) ?_
      refine lv_lload_n hx hb dX2_refer_31 rfl (lv_at hl 1 rfl) ?_
      refine W.lcmp hx hb dX2_refer_32 ?_
      refine lv_if_le (tgt := 46) hx hb dX2_refer_33 (by decide) (fun c_17 => ?_) (fun c_17 => ?_)
      · skip
        replace c_17 := (lg_cmp_le _ _).mp c_17
        refine lv_lload_n hx hb dX2_refer_46 rfl (lv_at hl 1 rfl) ?_
        refine lv_lstore_n (lv' := [(3, .long (mTop lo sp j)), (5, .int (nI (j + 1))), (0, .ref m0), (1, .long ped)]) hx hb dX2_refer_47 rfl hl (by decide) rfl (fun ls hl => ?_)
        refine lv_iinc (v := nI (j + 1 + 1)) (lv' := [(5, .int (nI (j + 1 + 1))), (3, .long (mTop lo sp j)), (0, .ref m0), (1, .long ped)]) hx hb dX2_refer_48 hl (k := 1) rfl (nI_1 (j + 1)) (by decide) rfl (fun ls hl => ?_)
        refine lv_goto (tgt := 5) hx hb dX2_refer_51 (by decide) ?_
        exact ih _ (j + 1) ⟨by omega, by rw [show nI ((j + 1) + 1) = nI (j + 1 + 1) from rfl]; rw [show mTop lo sp (j + 1) = mTop lo sp j from by simp only [mTop]; simp [c_16, c_17]]; exact lv_sub hl [0, 1, 2, 3] rfl⟩ (by omega)
      · skip
        replace c_17 := mt (lg_cmp_le _ _).mpr c_17
        refine lv_aload_n hx hb dX2_refer_36 rfl (lv_at hl 2 rfl) ?_
        refine va_get (D := D) (ci := 2) (v := .ref (a 1)) (C := RX2) (T := TX2) (N := 14) hx hb hts (by decide +kernel) hown hK hP 0 rfl rfl 2 (by decide) (hts _ hm5) (fun _ h9 => h9) rfl dX2_refer_37 ?_
        refine lv_iload hx hb dX2_refer_40 (lv_at hl 0 rfl) ?_
        refine va_lald (D := D) (f := sp) hx hb hK hP 1 0 rfl rfl (ix_9 hn hlt) dX2_refer_42 ?_
        refine W.eq (g2 := F0 m 43 ls [.long (sp (j + 1))]) (by rw [wIx hn hlt]) ?_
        refine lv_goto (tgt := 47) hx hb dX2_refer_43 (by decide) ?_
        refine lv_lstore_n (lv' := [(3, .long (sp (j + 1))), (5, .int (nI (j + 1))), (0, .ref m0), (1, .long ped)]) hx hb dX2_refer_47 rfl hl (by decide) rfl (fun ls hl => ?_)
        refine lv_iinc (v := nI (j + 1 + 1)) (lv' := [(5, .int (nI (j + 1 + 1))), (3, .long (sp (j + 1))), (0, .ref m0), (1, .long ped)]) hx hb dX2_refer_48 hl (k := 1) rfl (nI_1 (j + 1)) (by decide) rfl (fun ls hl => ?_)
        refine lv_goto (tgt := 5) hx hb dX2_refer_51 (by decide) ?_
        exact ih _ (j + 1) ⟨by omega, by rw [show nI ((j + 1) + 1) = nI (j + 1 + 1) from rfl]; rw [show mTop lo sp (j + 1) = sp (j + 1) from by simp only [mTop]; simp [c_16, c_17]]; exact lv_sub hl [0, 1, 2, 3] rfl⟩ (by omega)
set_option maxHeartbeats 4000000 in
set_option maxRecDepth 100000 in
/-- turn -/
theorem m2_turn (l : Launch) (D : va_G) (m0 : Nat) (a : Nat → Nat) (C : Nat → ClassId) (n : Nat) (th : Int32) (sp : Nat → Int64) (lo ph : Nat → Int32) (pr bo : Nat → Int64) (mo : Nat → UInt64) (rf : Int64) (gr hd st ch rs : Int32) (hn : n ≤ 8) (gx gy : Int32) (sz : Nat) : Met l yX2_turn wsX2_turn ({ frames := 0, cells := 0, slots := 0, locals := 0 }) (va_Pc [.ref m0, .int gx, .int gy] (xW D [(C 1, .long), (C 2, .boolean), (C 3, .int), (C 4, .long), (C 5, .long), (C 6, .double)] (mw m0 a C th (nI n) sp lo ph pr bo mo rf gr hd st ch rs) sz)) (va_Qv (fun (u : (Int32) × (Int32) × (Int32)) => u.1 = gx ∧ u.2.1 = st ∧ u.2.2 = gy) (fun (u : (Int32) × (Int32) × (Int32)) => xB D [(C 1, .long), (C 2, .boolean), (C 3, .int), (C 4, .long), (C 5, .long), (C 6, .double)] (va_A (mw m0 a C th (nI n) sp lo ph pr bo mo rf gr hd st ch rs) sz) (mw m0 a C th (nI n) sp lo ph pr bo mo rf u.1 hd st u.2.1 u.2.2)) (va_A (mw m0 a C th (nI n) sp lo ph pr bo mo rf gr hd st ch rs) sz)) 0 0 (va_A (mw m0 a C th (nI n) sp lo ph pr bo mo rf gr hd st ch rs) sz) := by
  refine Met.ofW (cc := cX2_turn) (maxL := 3) (ret := none) (by decide) rfl ?_
  intro p e s m args below meth c s₁ B hml hv
  obtain ⟨rfl, hsz, ⟨hP, hK, hN⟩, hDt⟩ := hv
  have hx := B.exec
  have hb := B.bytes
  have hr := B.returns
  have hts := atoms_spec (ws := wsX2_turn) B.pre
  have hown : s.vm.findClass RX2 = some m.cls := findClass_of_methodNamed B.named
  have hlocks := B.notSynchronized
  have hm1 : (.fieldLink RX2 31 "GearBrakeModel" "gear" "I" : Cond) ∈ wsX2_turn := by decide +kernel
  have hm2 : (.fieldLink RX2 75 "GearBrakeModel" "steps" "I" : Cond) ∈ wsX2_turn := by decide +kernel
  have hm3 : (.fieldLink RX2 96 "GearBrakeModel" "changed" "I" : Cond) ∈ wsX2_turn := by decide +kernel
  have hm4 : (.fieldLink RX2 99 "GearBrakeModel" "rest" "I" : Cond) ∈ wsX2_turn := by decide +kernel
  subst hsz
  have hD := hDt.self (sz := s.heap.size)
  generalize hAe : va_A (mw m0 a C th (nI n) sp lo ph pr bo mo rf gr hd st ch rs) s.heap.size = A at hD ⊢
  have hA : ∀ q : Nat, s.heap.size ≤ q → A q := fun q h => by rw [← hAe]; exact Or.inr h
  have hS : va_S A s.heap s.heap [] := va_S.rf
  have hl := lv_entry ([.ref m0, .int gx, .int gy]) (n := 3) (Nat.le_of_ble_eq_true rfl)
  rw [lg_entry_eq]
  generalize (lg_sl ([.ref m0, .int gx, .int gy]) ++ List.replicate (3 - (lg_sl ([.ref m0, .int gx, .int gy])).length) Slot.unset).toArray = ls at hl ⊢
  replace hl : lv_has ls 3 [(0, .ref m0), (1, .int gx), (2, .int gy)] := hl
  refine lv_aload_n hx hb dX2_turn_0 rfl (lv_at hl 0 rfl) ?_
  refine lv_iload_n hx hb dX2_turn_1 rfl (lv_at hl 1 rfl) ?_
  refine va_put (D := D) (ci := 2) (v := .int gx) (ty := .int) (C := RX2) (T := TX2) (N := 14) hx hb hts (by decide +kernel) tyX2 tyX2_ok nmX2 hown hK hP hD hS 0 rfl rfl 9 (by decide) (hts _ hm1) (fun _ h9 => h9) rfl (by decide +kernel) rfl rfl (Nat.le_of_ble_eq_true rfl) dX2_turn_2 (fun H locs hP hD hS => ?_)
  replace hP : va_P D vwCl (mw m0 a C th (nI n) sp lo ph pr bo mo rf gx hd st ch rs) H := hP
  replace hD : va_D A (mw m0 a C th (nI n) sp lo ph pr bo mo rf gx hd st ch rs) := hD
  refine lv_aload_n hx hb dX2_turn_5 rfl (lv_at hl 0 rfl) ?_
  refine lv_aload_n hx hb dX2_turn_6 rfl (lv_at hl 0 rfl) ?_
  refine va_get (D := D) (ci := 2) (v := .int st) (C := RX2) (T := TX2) (N := 14) hx hb hts (by decide +kernel) hown hK hP 0 rfl rfl 11 (by decide) (hts _ hm2) (fun _ h9 => h9) rfl dX2_turn_7 ?_
  refine va_put (D := D) (ci := 2) (v := .int st) (ty := .int) (C := RX2) (T := TX2) (N := 14) hx hb hts (by decide +kernel) tyX2 tyX2_ok nmX2 hown hK hP hD hS 0 rfl rfl 12 (by decide) (hts _ hm3) (fun _ h9 => h9) rfl (by decide +kernel) rfl rfl (Nat.le_of_ble_eq_true rfl) dX2_turn_10 (fun H locs hP hD hS => ?_)
  replace hP : va_P D vwCl (mw m0 a C th (nI n) sp lo ph pr bo mo rf gx hd st st rs) H := hP
  replace hD : va_D A (mw m0 a C th (nI n) sp lo ph pr bo mo rf gx hd st st rs) := hD
  refine lv_aload_n hx hb dX2_turn_13 rfl (lv_at hl 0 rfl) ?_
  refine lv_iload_n hx hb dX2_turn_14 rfl (lv_at hl 2 rfl) ?_
  refine va_put (D := D) (ci := 2) (v := .int gy) (ty := .int) (C := RX2) (T := TX2) (N := 14) hx hb hts (by decide +kernel) tyX2 tyX2_ok nmX2 hown hK hP hD hS 0 rfl rfl 13 (by decide) (hts _ hm4) (fun _ h9 => h9) rfl (by decide +kernel) rfl rfl (Nat.le_of_ble_eq_true rfl) dX2_turn_15 (fun H locs hP hD hS => ?_)
  replace hP : va_P D vwCl (mw m0 a C th (nI n) sp lo ph pr bo mo rf gx hd st st gy) H := hP
  replace hD : va_D A (mw m0 a C th (nI n) sp lo ph pr bo mo rf gx hd st st gy) := hD
  exact W.vret hx hb hr (fun t ht hW => ⟨⟨(gx, st, gy), rfl, ⟨rfl, rfl, rfl⟩, xB_end hP hK hN hD ht hW⟩, hS.F ht⟩) hS.2.2 dX2_turn_18
set_option maxHeartbeats 4000000 in
set_option maxRecDepth 100000 in
/-- wheel -/
theorem m2_wheel (l : Launch) (D : va_G) (m0 : Nat) (a : Nat → Nat) (C : Nat → ClassId) (n : Nat) (th : Int32) (sp : Nat → Int64) (lo ph : Nat → Int32) (pr bo : Nat → Int64) (mo : Nat → UInt64) (rf : Int64) (gr hd st ch rs : Int32) (hn : n ≤ 8) (w : Int32) (v : Int64) (sz : Nat) : Met l yX2_wheel wsX2_wheel ({ frames := 1, cells := 0, slots := 0, locals := 22 }) (va_Pc [.ref m0, .int w, .long v] (xW D [(C 1, .long), (C 2, .boolean), (C 3, .int), (C 4, .long), (C 5, .long), (C 6, .double)] (mw m0 a C th (nI n) sp lo ph pr bo mo rf gr hd st ch rs) sz)) (va_Qi (fun (r : Int32) (u : (Int32) × (Nat → Int64)) => r = fW n w v 1000 ∧ u.1 = 0 ∧ u.2 = gW n w v 1000 sp v) (fun (u : (Int32) × (Nat → Int64)) => xB D [(C 1, .long), (C 2, .boolean), (C 3, .int), (C 4, .long), (C 5, .long), (C 6, .double)] (va_A (mw m0 a C th (nI n) sp lo ph pr bo mo rf gr hd st ch rs) sz) (mw m0 a C u.1 (nI n) u.2 lo ph pr bo mo rf gr hd st ch rs)) (va_A (mw m0 a C th (nI n) sp lo ph pr bo mo rf gr hd st ch rs) sz)) 0 0 (va_A (mw m0 a C th (nI n) sp lo ph pr bo mo rf gr hd st ch rs) sz) := by
  rcases w_io n w hn with hwo | ⟨i, hi, rfl⟩
  · skip
    refine Met.ofW (cc := cX2_wheel) (maxL := 4) (ret := (some .int)) (by decide) rfl ?_
    intro p e s m args below meth c s₁ B hml hv
    obtain ⟨rfl, hsz, ⟨hP, hK, hN⟩, hDt⟩ := hv
    have hx := B.exec
    have hb := B.bytes
    have hr := B.returns
    have hts := atoms_spec (ws := wsX2_wheel) B.pre
    have hown : s.vm.findClass RX2 = some m.cls := findClass_of_methodNamed B.named
    have hlocks := B.notSynchronized
    have hm1 : (.fieldLink RX2 40 "GearBrakeModel" "thrown" "I" : Cond) ∈ wsX2_wheel := by decide +kernel
    subst hsz
    have hD := hDt.self (sz := s.heap.size)
    generalize hAe : va_A (mw m0 a C th (nI n) sp lo ph pr bo mo rf gr hd st ch rs) s.heap.size = A at hD ⊢
    have hA : ∀ q : Nat, s.heap.size ≤ q → A q := fun q h => by rw [← hAe]; exact Or.inr h
    have hS : va_S A s.heap s.heap [] := va_S.rf
    have hl := lv_entry ([.ref m0, .int w, .long v]) (n := 4) (Nat.le_of_ble_eq_true rfl)
    rw [lg_entry_eq]
    generalize (lg_sl ([.ref m0, .int w, .long v]) ++ List.replicate (4 - (lg_sl ([.ref m0, .int w, .long v])).length) Slot.unset).toArray = ls at hl ⊢
    replace hl : lv_has ls 4 [(0, .ref m0), (1, .int w), (2, .long v)] := hl
    refine lv_aload_n hx hb dX2_wheel_0 rfl (lv_at hl 0 rfl) ?_
    refine lv_iconst (v := 0) hx hb dX2_wheel_1 (by decide) ?_
    refine va_put (D := D) (ci := 2) (v := .int 0) (ty := .int) (C := RX2) (T := TX2) (N := 14) hx hb hts (by decide +kernel) tyX2 tyX2_ok nmX2 hown hK hP hD hS 0 rfl rfl 0 (by decide) (hts _ hm1) (fun _ h9 => h9) rfl (by decide +kernel) rfl rfl (Nat.le_of_ble_eq_true rfl) dX2_wheel_2 (fun H locs hP hD hS => ?_)
    replace hP : va_P D vwCl (mw m0 a C 0 (nI n) sp lo ph pr bo mo rf gr hd st ch rs) H := hP
    replace hD : va_D A (mw m0 a C 0 (nI n) sp lo ph pr bo mo rf gr hd st ch rs) := hD
    refine lv_aload_n hx hb dX2_wheel_5 rfl (lv_at hl 0 rfl) ?_
    refine lv_iload_n hx hb dX2_wheel_6 rfl (lv_at hl 1 rfl) ?_
    refine vp_callSi (W.runV (As := [.int w]) (rest := []) ⟨hx, hb, hml, hown, hts⟩ (m2_no_out l D m0 a C n 0 sp lo ph pr bo mo rf gr hd st ch rs hn w hwo) (cwV 1 hts gX2_wheel_X2_noWheel rfl rfl rfl (by decide +kernel) ⟨Nat.le_of_ble_eq_true rfl, Nat.le_of_ble_eq_true rfl⟩) ⟨xP_blind, va_recv hK hP (ci := 2) (q0 := 0) rfl rfl, xP_at hP hK hN⟩ rfl rfl hl.1 rfl (lv_room (Nat.le_of_ble_eq_true rfl)) dX2_wheel_7 ⟨Nat.le_of_ble_eq_true rfl, Nat.le_of_ble_eq_true rfl⟩) (fun r_1 hr_2 => ?_)
    subst hr_2
    refine lv_if_eq (tgt := 15) hx hb dX2_wheel_10 (by decide) (fun c_3 => absurd c_3 (by decide)) (fun c_3 => ?_)
    refine lv_iconst (v := (-1)) hx hb dX2_wheel_13 (by decide) ?_
    exact W.iret (v := (-1)) hx hb hr (fun t ht hW => ⟨⟨_, (0, sp), rfl, ⟨by simp [fW, gW, hwo], by simp [fW, gW, hwo], by simp [fW, gW, hwo]⟩, xB_end hP hK hN hD ht hW⟩, hS.F ht⟩) hS.2.2 dX2_wheel_14
  · skip
    refine Met.ofW (cc := cX2_wheel) (maxL := 4) (ret := (some .int)) (by decide) rfl ?_
    intro p e s m args below meth c s₁ B hml hv
    obtain ⟨rfl, hsz, ⟨hP, hK, hN⟩, hDt⟩ := hv
    have hx := B.exec
    have hb := B.bytes
    have hr := B.returns
    have hts := atoms_spec (ws := wsX2_wheel) B.pre
    have hown : s.vm.findClass RX2 = some m.cls := findClass_of_methodNamed B.named
    have hlocks := B.notSynchronized
    have hm1 : (.fieldLink RX2 40 "GearBrakeModel" "thrown" "I" : Cond) ∈ wsX2_wheel := by decide +kernel
    have hm2 : (.constantLong RX2 47 (1000) : Cond) ∈ wsX2_wheel := by decide +kernel
    have hm3 : (.fieldLink RX2 7 "GearBrakeModel" "speeds" "[J" : Cond) ∈ wsX2_wheel := by decide +kernel
    subst hsz
    have hD := hDt.self (sz := s.heap.size)
    generalize hAe : va_A (mw m0 a C th (nI n) sp lo ph pr bo mo rf gr hd st ch rs) s.heap.size = A at hD ⊢
    have hA : ∀ q : Nat, s.heap.size ≤ q → A q := fun q h => by rw [← hAe]; exact Or.inr h
    have hS : va_S A s.heap s.heap [] := va_S.rf
    have hl := lv_entry ([.ref m0, .int (nI (i + 1)), .long v]) (n := 4) (Nat.le_of_ble_eq_true rfl)
    rw [lg_entry_eq]
    generalize (lg_sl ([.ref m0, .int (nI (i + 1)), .long v]) ++ List.replicate (4 - (lg_sl ([.ref m0, .int (nI (i + 1)), .long v])).length) Slot.unset).toArray = ls at hl ⊢
    replace hl : lv_has ls 4 [(0, .ref m0), (1, .int (nI (i + 1))), (2, .long v)] := hl
    refine lv_aload_n hx hb dX2_wheel_0 rfl (lv_at hl 0 rfl) ?_
    refine lv_iconst (v := 0) hx hb dX2_wheel_1 (by decide) ?_
    refine va_put (D := D) (ci := 2) (v := .int 0) (ty := .int) (C := RX2) (T := TX2) (N := 14) hx hb hts (by decide +kernel) tyX2 tyX2_ok nmX2 hown hK hP hD hS 0 rfl rfl 0 (by decide) (hts _ hm1) (fun _ h9 => h9) rfl (by decide +kernel) rfl rfl (Nat.le_of_ble_eq_true rfl) dX2_wheel_2 (fun H locs hP hD hS => ?_)
    replace hP : va_P D vwCl (mw m0 a C 0 (nI n) sp lo ph pr bo mo rf gr hd st ch rs) H := hP
    replace hD : va_D A (mw m0 a C 0 (nI n) sp lo ph pr bo mo rf gr hd st ch rs) := hD
    refine lv_aload_n hx hb dX2_wheel_5 rfl (lv_at hl 0 rfl) ?_
    refine lv_iload_n hx hb dX2_wheel_6 rfl (lv_at hl 1 rfl) ?_
    refine vp_callSi (W.runV (As := [.int (nI (i + 1))]) (rest := []) ⟨hx, hb, hml, hown, hts⟩ (m2_no_in l D m0 a C n 0 sp lo ph pr bo mo rf gr hd st ch rs hn i hi) (cwV 1 hts gX2_wheel_X2_noWheel rfl rfl rfl (by decide +kernel) ⟨Nat.le_of_ble_eq_true rfl, Nat.le_of_ble_eq_true rfl⟩) ⟨xP_blind, va_recv hK hP (ci := 2) (q0 := 0) rfl rfl, xP_at hP hK hN⟩ rfl rfl hl.1 rfl (lv_room (Nat.le_of_ble_eq_true rfl)) dX2_wheel_7 ⟨Nat.le_of_ble_eq_true rfl, Nat.le_of_ble_eq_true rfl⟩) (fun r_1 hr_2 => ?_)
    subst hr_2
    refine lv_if_eq (tgt := 15) hx hb dX2_wheel_10 (by decide) (fun c_3 => ?_) (fun c_3 => absurd (by decide) c_3)
    refine lv_lload_n hx hb dX2_wheel_15 rfl (lv_at hl 2 rfl) ?_
    refine lv_lconst (v := 0) hx hb dX2_wheel_16 (by decide) ?_
    refine W.lcmp hx hb dX2_wheel_17 ?_
    refine lv_if_lt (tgt := 29) hx hb dX2_wheel_18 (by decide) (fun c_4 => ?_) (fun c_4 => ?_)
    · skip
      replace c_4 := (lg_cmp_lt _ _).mp c_4
      refine lv_bipush (v := (-2)) hx hb dX2_wheel_29 (by decide) ?_
      exact W.iret (v := (-2)) hx hb hr (fun t ht hW => ⟨⟨_, (0, sp), rfl, ⟨by simp [fW, gW, wOut_in hn hi, wIx hn hi, c_4], by simp [fW, gW, wOut_in hn hi, wIx hn hi, c_4], by simp [fW, gW, wOut_in hn hi, wIx hn hi, c_4]⟩, xB_end hP hK hN hD ht hW⟩, hS.F ht⟩) hS.2.2 dX2_wheel_31
    · skip
      replace c_4 := mt (lg_cmp_lt _ _).mpr c_4
      refine lv_lload_n hx hb dX2_wheel_21 rfl (lv_at hl 2 rfl) ?_
      refine lv_ldc2 hx hb hown (hts _ hm2) dX2_wheel_22 ?_
      refine W.lcmp hx hb dX2_wheel_25 ?_
      refine lv_if_le (tgt := 32) hx hb dX2_wheel_26 (by decide) (fun c_5 => ?_) (fun c_5 => ?_)
      · skip
        replace c_5 := (lg_cmp_le _ _).mp c_5
        replace c_5 := i64_nlt c_5
        refine lv_aload_n hx hb dX2_wheel_32 rfl (lv_at hl 0 rfl) ?_
        refine va_get (D := D) (ci := 2) (v := .ref (a 1)) (C := RX2) (T := TX2) (N := 14) hx hb hts (by decide +kernel) hown hK hP 0 rfl rfl 2 (by decide) (hts _ hm3) (fun _ h9 => h9) rfl dX2_wheel_33 ?_
        refine lv_iload_n hx hb dX2_wheel_36 rfl (lv_at hl 1 rfl) ?_
        refine lv_lload_n hx hb dX2_wheel_37 rfl (lv_at hl 2 rfl) ?_
        refine va_last (D := D) (f := sp) hx hb hK hP hD hS 1 0 rfl rfl (ix_9 hn hi) dX2_wheel_38 (fun H locs hP hD hS => ?_)
        rw [wIx hn hi] at hP hD
        replace hP : va_P D vwCl (mw m0 a C 0 (nI n) (va_up sp (i + 1) v) lo ph pr bo mo rf gr hd st ch rs) H := hP
        replace hD : va_D A (mw m0 a C 0 (nI n) (va_up sp (i + 1) v) lo ph pr bo mo rf gr hd st ch rs) := hD
        refine lv_iconst (v := 1) hx hb dX2_wheel_39 (by decide) ?_
        exact W.iret (v := 1) hx hb hr (fun t ht hW => ⟨⟨_, (0, va_up sp (i + 1) v), rfl, ⟨by simp [fW, gW, wOut_in hn hi, wIx hn hi, c_4, c_5], by simp [fW, gW, wOut_in hn hi, wIx hn hi, c_4, c_5], by simp [fW, gW, wOut_in hn hi, wIx hn hi, c_4, c_5]⟩, xB_end hP hK hN hD ht hW⟩, hS.F ht⟩) hS.2.2 dX2_wheel_40
      · skip
        replace c_5 := mt (lg_cmp_le _ _).mpr c_5
        replace c_5 := i64_lt c_5
        refine lv_bipush (v := (-2)) hx hb dX2_wheel_29 (by decide) ?_
        exact W.iret (v := (-2)) hx hb hr (fun t ht hW => ⟨⟨_, (0, sp), rfl, ⟨by simp [fW, gW, wOut_in hn hi, wIx hn hi, c_4, c_5], by simp [fW, gW, wOut_in hn hi, wIx hn hi, c_4, c_5], by simp [fW, gW, wOut_in hn hi, wIx hn hi, c_4, c_5]⟩, xB_end hP hK hN hD ht hW⟩, hS.F ht⟩) hS.2.2 dX2_wheel_31
set_option maxHeartbeats 4000000 in
set_option maxRecDepth 100000 in
/-- phase -/
theorem m2_phase (l : Launch) (D : va_G) (m0 : Nat) (a : Nat → Nat) (C : Nat → ClassId) (n : Nat) (th : Int32) (sp : Nat → Int64) (lo ph : Nat → Int32) (pr bo : Nat → Int64) (mo : Nat → UInt64) (rf : Int64) (gr hd st ch rs : Int32) (hn : n ≤ 8) (w : Int32) (sz : Nat) : Met l yX2_phase wsX2_phase ({ frames := 1, cells := 0, slots := 0, locals := 22 }) (va_Pc [.ref m0, .int w] (xW D [(C 1, .long), (C 2, .boolean), (C 3, .int), (C 4, .long), (C 5, .long), (C 6, .double)] (mw m0 a C th (nI n) sp lo ph pr bo mo rf gr hd st ch rs) sz)) (va_Qi (fun (r : Int32) (u : (Int32)) => r = (if wOut n w then -1 else ph w.toNatClampNeg) ∧ u = 0) (fun (u : (Int32)) => xB D [(C 1, .long), (C 2, .boolean), (C 3, .int), (C 4, .long), (C 5, .long), (C 6, .double)] (va_A (mw m0 a C th (nI n) sp lo ph pr bo mo rf gr hd st ch rs) sz) (mw m0 a C u (nI n) sp lo ph pr bo mo rf gr hd st ch rs)) (va_A (mw m0 a C th (nI n) sp lo ph pr bo mo rf gr hd st ch rs) sz)) 0 0 (va_A (mw m0 a C th (nI n) sp lo ph pr bo mo rf gr hd st ch rs) sz) := by
  rcases w_io n w hn with hwo | ⟨i, hi, rfl⟩
  · skip
    refine Met.ofW (cc := cX2_phase) (maxL := 2) (ret := (some .int)) (by decide) rfl ?_
    intro p e s m args below meth c s₁ B hml hv
    obtain ⟨rfl, hsz, ⟨hP, hK, hN⟩, hDt⟩ := hv
    have hx := B.exec
    have hb := B.bytes
    have hr := B.returns
    have hts := atoms_spec (ws := wsX2_phase) B.pre
    have hown : s.vm.findClass RX2 = some m.cls := findClass_of_methodNamed B.named
    have hlocks := B.notSynchronized
    have hm1 : (.fieldLink RX2 40 "GearBrakeModel" "thrown" "I" : Cond) ∈ wsX2_phase := by decide +kernel
    subst hsz
    have hD := hDt.self (sz := s.heap.size)
    generalize hAe : va_A (mw m0 a C th (nI n) sp lo ph pr bo mo rf gr hd st ch rs) s.heap.size = A at hD ⊢
    have hA : ∀ q : Nat, s.heap.size ≤ q → A q := fun q h => by rw [← hAe]; exact Or.inr h
    have hS : va_S A s.heap s.heap [] := va_S.rf
    have hl := lv_entry ([.ref m0, .int w]) (n := 2) (Nat.le_of_ble_eq_true rfl)
    rw [lg_entry_eq]
    generalize (lg_sl ([.ref m0, .int w]) ++ List.replicate (2 - (lg_sl ([.ref m0, .int w])).length) Slot.unset).toArray = ls at hl ⊢
    replace hl : lv_has ls 2 [(0, .ref m0), (1, .int w)] := hl
    refine lv_aload_n hx hb dX2_phase_0 rfl (lv_at hl 0 rfl) ?_
    refine lv_iconst (v := 0) hx hb dX2_phase_1 (by decide) ?_
    refine va_put (D := D) (ci := 2) (v := .int 0) (ty := .int) (C := RX2) (T := TX2) (N := 14) hx hb hts (by decide +kernel) tyX2 tyX2_ok nmX2 hown hK hP hD hS 0 rfl rfl 0 (by decide) (hts _ hm1) (fun _ h9 => h9) rfl (by decide +kernel) rfl rfl (Nat.le_of_ble_eq_true rfl) dX2_phase_2 (fun H locs hP hD hS => ?_)
    replace hP : va_P D vwCl (mw m0 a C 0 (nI n) sp lo ph pr bo mo rf gr hd st ch rs) H := hP
    replace hD : va_D A (mw m0 a C 0 (nI n) sp lo ph pr bo mo rf gr hd st ch rs) := hD
    refine lv_aload_n hx hb dX2_phase_5 rfl (lv_at hl 0 rfl) ?_
    refine lv_iload_n hx hb dX2_phase_6 rfl (lv_at hl 1 rfl) ?_
    refine vp_callSi (W.runV (As := [.int w]) (rest := []) ⟨hx, hb, hml, hown, hts⟩ (m2_no_out l D m0 a C n 0 sp lo ph pr bo mo rf gr hd st ch rs hn w hwo) (cwV 1 hts gX2_phase_X2_noWheel rfl rfl rfl (by decide +kernel) ⟨Nat.le_of_ble_eq_true rfl, Nat.le_of_ble_eq_true rfl⟩) ⟨xP_blind, va_recv hK hP (ci := 2) (q0 := 0) rfl rfl, xP_at hP hK hN⟩ rfl rfl hl.1 rfl (lv_room (Nat.le_of_ble_eq_true rfl)) dX2_phase_7 ⟨Nat.le_of_ble_eq_true rfl, Nat.le_of_ble_eq_true rfl⟩) (fun r_1 hr_2 => ?_)
    subst hr_2
    refine lv_if_eq (tgt := 17) hx hb dX2_phase_10 (by decide) (fun c_3 => absurd c_3 (by decide)) (fun c_3 => ?_)
    refine lv_iconst (v := (-1)) hx hb dX2_phase_13 (by decide) ?_
    refine lv_goto (tgt := 23) hx hb dX2_phase_14 (by decide) ?_
    exact W.iret (v := (-1)) hx hb hr (fun t ht hW => ⟨⟨_, (0), rfl, ⟨by simp [hwo], by simp [hwo]⟩, xB_end hP hK hN hD ht hW⟩, hS.F ht⟩) hS.2.2 dX2_phase_23
  · skip
    refine Met.ofW (cc := cX2_phase) (maxL := 2) (ret := (some .int)) (by decide) rfl ?_
    intro p e s m args below meth c s₁ B hml hv
    obtain ⟨rfl, hsz, ⟨hP, hK, hN⟩, hDt⟩ := hv
    have hx := B.exec
    have hb := B.bytes
    have hr := B.returns
    have hts := atoms_spec (ws := wsX2_phase) B.pre
    have hown : s.vm.findClass RX2 = some m.cls := findClass_of_methodNamed B.named
    have hlocks := B.notSynchronized
    have hm1 : (.fieldLink RX2 40 "GearBrakeModel" "thrown" "I" : Cond) ∈ wsX2_phase := by decide +kernel
    have hm2 : (.fieldLink RX2 17 "GearBrakeModel" "phases" "[I" : Cond) ∈ wsX2_phase := by decide +kernel
    subst hsz
    have hD := hDt.self (sz := s.heap.size)
    generalize hAe : va_A (mw m0 a C th (nI n) sp lo ph pr bo mo rf gr hd st ch rs) s.heap.size = A at hD ⊢
    have hA : ∀ q : Nat, s.heap.size ≤ q → A q := fun q h => by rw [← hAe]; exact Or.inr h
    have hS : va_S A s.heap s.heap [] := va_S.rf
    have hl := lv_entry ([.ref m0, .int (nI (i + 1))]) (n := 2) (Nat.le_of_ble_eq_true rfl)
    rw [lg_entry_eq]
    generalize (lg_sl ([.ref m0, .int (nI (i + 1))]) ++ List.replicate (2 - (lg_sl ([.ref m0, .int (nI (i + 1))])).length) Slot.unset).toArray = ls at hl ⊢
    replace hl : lv_has ls 2 [(0, .ref m0), (1, .int (nI (i + 1)))] := hl
    refine lv_aload_n hx hb dX2_phase_0 rfl (lv_at hl 0 rfl) ?_
    refine lv_iconst (v := 0) hx hb dX2_phase_1 (by decide) ?_
    refine va_put (D := D) (ci := 2) (v := .int 0) (ty := .int) (C := RX2) (T := TX2) (N := 14) hx hb hts (by decide +kernel) tyX2 tyX2_ok nmX2 hown hK hP hD hS 0 rfl rfl 0 (by decide) (hts _ hm1) (fun _ h9 => h9) rfl (by decide +kernel) rfl rfl (Nat.le_of_ble_eq_true rfl) dX2_phase_2 (fun H locs hP hD hS => ?_)
    replace hP : va_P D vwCl (mw m0 a C 0 (nI n) sp lo ph pr bo mo rf gr hd st ch rs) H := hP
    replace hD : va_D A (mw m0 a C 0 (nI n) sp lo ph pr bo mo rf gr hd st ch rs) := hD
    refine lv_aload_n hx hb dX2_phase_5 rfl (lv_at hl 0 rfl) ?_
    refine lv_iload_n hx hb dX2_phase_6 rfl (lv_at hl 1 rfl) ?_
    refine vp_callSi (W.runV (As := [.int (nI (i + 1))]) (rest := []) ⟨hx, hb, hml, hown, hts⟩ (m2_no_in l D m0 a C n 0 sp lo ph pr bo mo rf gr hd st ch rs hn i hi) (cwV 1 hts gX2_phase_X2_noWheel rfl rfl rfl (by decide +kernel) ⟨Nat.le_of_ble_eq_true rfl, Nat.le_of_ble_eq_true rfl⟩) ⟨xP_blind, va_recv hK hP (ci := 2) (q0 := 0) rfl rfl, xP_at hP hK hN⟩ rfl rfl hl.1 rfl (lv_room (Nat.le_of_ble_eq_true rfl)) dX2_phase_7 ⟨Nat.le_of_ble_eq_true rfl, Nat.le_of_ble_eq_true rfl⟩) (fun r_1 hr_2 => ?_)
    subst hr_2
    refine lv_if_eq (tgt := 17) hx hb dX2_phase_10 (by decide) (fun c_3 => ?_) (fun c_3 => absurd (by decide) c_3)
    refine lv_aload_n hx hb dX2_phase_17 rfl (lv_at hl 0 rfl) ?_
    refine va_get (D := D) (ci := 2) (v := .ref (a 3)) (C := RX2) (T := TX2) (N := 14) hx hb hts (by decide +kernel) hown hK hP 0 rfl rfl 4 (by decide) (hts _ hm2) (fun _ h9 => h9) rfl dX2_phase_18 ?_
    refine lv_iload_n hx hb dX2_phase_21 rfl (lv_at hl 1 rfl) ?_
    refine va_iald (D := D) (f := ph) hx hb hK hP 3 2 rfl rfl (ix_9 hn hi) dX2_phase_22 ?_
    refine W.eq (g2 := F0 m 23 ls [.int (ph (i + 1))]) (by rw [wIx hn hi]) ?_
    exact W.iret (v := (ph (i + 1))) hx hb hr (fun t ht hW => ⟨⟨_, (0), rfl, ⟨by simp [wOut_in hn hi, wIx hn hi], by simp [wOut_in hn hi, wIx hn hi]⟩, xB_end hP hK hN hD ht hW⟩, hS.F ht⟩) hS.2.2 dX2_phase_23
set_option maxHeartbeats 4000000 in
set_option maxRecDepth 100000 in
/-- pressure -/
theorem m2_pressure (l : Launch) (D : va_G) (m0 : Nat) (a : Nat → Nat) (C : Nat → ClassId) (n : Nat) (th : Int32) (sp : Nat → Int64) (lo ph : Nat → Int32) (pr bo : Nat → Int64) (mo : Nat → UInt64) (rf : Int64) (gr hd st ch rs : Int32) (hn : n ≤ 8) (w : Int32) (sz : Nat) : Met l yX2_pressure wsX2_pressure ({ frames := 1, cells := 0, slots := 0, locals := 22 }) (va_Pc [.ref m0, .int w] (xW D [(C 1, .long), (C 2, .boolean), (C 3, .int), (C 4, .long), (C 5, .long), (C 6, .double)] (mw m0 a C th (nI n) sp lo ph pr bo mo rf gr hd st ch rs) sz)) (va_Ql (fun (r : Int64) (u : (Int32)) => r = (if wOut n w then -1 else pr w.toNatClampNeg) ∧ u = 0) (fun (u : (Int32)) => xB D [(C 1, .long), (C 2, .boolean), (C 3, .int), (C 4, .long), (C 5, .long), (C 6, .double)] (va_A (mw m0 a C th (nI n) sp lo ph pr bo mo rf gr hd st ch rs) sz) (mw m0 a C u (nI n) sp lo ph pr bo mo rf gr hd st ch rs)) (va_A (mw m0 a C th (nI n) sp lo ph pr bo mo rf gr hd st ch rs) sz)) 0 0 (va_A (mw m0 a C th (nI n) sp lo ph pr bo mo rf gr hd st ch rs) sz) := by
  rcases w_io n w hn with hwo | ⟨i, hi, rfl⟩
  · skip
    refine Met.ofW (cc := cX2_pressure) (maxL := 2) (ret := (some .long)) (by decide) rfl ?_
    intro p e s m args below meth c s₁ B hml hv
    obtain ⟨rfl, hsz, ⟨hP, hK, hN⟩, hDt⟩ := hv
    have hx := B.exec
    have hb := B.bytes
    have hr := B.returns
    have hts := atoms_spec (ws := wsX2_pressure) B.pre
    have hown : s.vm.findClass RX2 = some m.cls := findClass_of_methodNamed B.named
    have hlocks := B.notSynchronized
    have hm1 : (.fieldLink RX2 40 "GearBrakeModel" "thrown" "I" : Cond) ∈ wsX2_pressure := by decide +kernel
    have hm2 : (.constantLong RX2 106 (-1) : Cond) ∈ wsX2_pressure := by decide +kernel
    subst hsz
    have hD := hDt.self (sz := s.heap.size)
    generalize hAe : va_A (mw m0 a C th (nI n) sp lo ph pr bo mo rf gr hd st ch rs) s.heap.size = A at hD ⊢
    have hA : ∀ q : Nat, s.heap.size ≤ q → A q := fun q h => by rw [← hAe]; exact Or.inr h
    have hS : va_S A s.heap s.heap [] := va_S.rf
    have hl := lv_entry ([.ref m0, .int w]) (n := 2) (Nat.le_of_ble_eq_true rfl)
    rw [lg_entry_eq]
    generalize (lg_sl ([.ref m0, .int w]) ++ List.replicate (2 - (lg_sl ([.ref m0, .int w])).length) Slot.unset).toArray = ls at hl ⊢
    replace hl : lv_has ls 2 [(0, .ref m0), (1, .int w)] := hl
    refine lv_aload_n hx hb dX2_pressure_0 rfl (lv_at hl 0 rfl) ?_
    refine lv_iconst (v := 0) hx hb dX2_pressure_1 (by decide) ?_
    refine va_put (D := D) (ci := 2) (v := .int 0) (ty := .int) (C := RX2) (T := TX2) (N := 14) hx hb hts (by decide +kernel) tyX2 tyX2_ok nmX2 hown hK hP hD hS 0 rfl rfl 0 (by decide) (hts _ hm1) (fun _ h9 => h9) rfl (by decide +kernel) rfl rfl (Nat.le_of_ble_eq_true rfl) dX2_pressure_2 (fun H locs hP hD hS => ?_)
    replace hP : va_P D vwCl (mw m0 a C 0 (nI n) sp lo ph pr bo mo rf gr hd st ch rs) H := hP
    replace hD : va_D A (mw m0 a C 0 (nI n) sp lo ph pr bo mo rf gr hd st ch rs) := hD
    refine lv_aload_n hx hb dX2_pressure_5 rfl (lv_at hl 0 rfl) ?_
    refine lv_iload_n hx hb dX2_pressure_6 rfl (lv_at hl 1 rfl) ?_
    refine vp_callSi (W.runV (As := [.int w]) (rest := []) ⟨hx, hb, hml, hown, hts⟩ (m2_no_out l D m0 a C n 0 sp lo ph pr bo mo rf gr hd st ch rs hn w hwo) (cwV 1 hts gX2_pressure_X2_noWheel rfl rfl rfl (by decide +kernel) ⟨Nat.le_of_ble_eq_true rfl, Nat.le_of_ble_eq_true rfl⟩) ⟨xP_blind, va_recv hK hP (ci := 2) (q0 := 0) rfl rfl, xP_at hP hK hN⟩ rfl rfl hl.1 rfl (lv_room (Nat.le_of_ble_eq_true rfl)) dX2_pressure_7 ⟨Nat.le_of_ble_eq_true rfl, Nat.le_of_ble_eq_true rfl⟩) (fun r_1 hr_2 => ?_)
    subst hr_2
    refine lv_if_eq (tgt := 19) hx hb dX2_pressure_10 (by decide) (fun c_3 => absurd c_3 (by decide)) (fun c_3 => ?_)
    refine lv_ldc2 hx hb hown (hts _ hm2) dX2_pressure_13 ?_
    refine lv_goto (tgt := 25) hx hb dX2_pressure_16 (by decide) ?_
    exact W.lret (v := (-1)) hx hb hr (fun t ht hW => ⟨⟨_, (0), rfl, ⟨by simp [hwo], by simp [hwo]⟩, xB_end hP hK hN hD ht hW⟩, hS.F ht⟩) hS.2.2 dX2_pressure_25
  · skip
    refine Met.ofW (cc := cX2_pressure) (maxL := 2) (ret := (some .long)) (by decide) rfl ?_
    intro p e s m args below meth c s₁ B hml hv
    obtain ⟨rfl, hsz, ⟨hP, hK, hN⟩, hDt⟩ := hv
    have hx := B.exec
    have hb := B.bytes
    have hr := B.returns
    have hts := atoms_spec (ws := wsX2_pressure) B.pre
    have hown : s.vm.findClass RX2 = some m.cls := findClass_of_methodNamed B.named
    have hlocks := B.notSynchronized
    have hm1 : (.fieldLink RX2 40 "GearBrakeModel" "thrown" "I" : Cond) ∈ wsX2_pressure := by decide +kernel
    have hm2 : (.fieldLink RX2 21 "GearBrakeModel" "pressures" "[J" : Cond) ∈ wsX2_pressure := by decide +kernel
    subst hsz
    have hD := hDt.self (sz := s.heap.size)
    generalize hAe : va_A (mw m0 a C th (nI n) sp lo ph pr bo mo rf gr hd st ch rs) s.heap.size = A at hD ⊢
    have hA : ∀ q : Nat, s.heap.size ≤ q → A q := fun q h => by rw [← hAe]; exact Or.inr h
    have hS : va_S A s.heap s.heap [] := va_S.rf
    have hl := lv_entry ([.ref m0, .int (nI (i + 1))]) (n := 2) (Nat.le_of_ble_eq_true rfl)
    rw [lg_entry_eq]
    generalize (lg_sl ([.ref m0, .int (nI (i + 1))]) ++ List.replicate (2 - (lg_sl ([.ref m0, .int (nI (i + 1))])).length) Slot.unset).toArray = ls at hl ⊢
    replace hl : lv_has ls 2 [(0, .ref m0), (1, .int (nI (i + 1)))] := hl
    refine lv_aload_n hx hb dX2_pressure_0 rfl (lv_at hl 0 rfl) ?_
    refine lv_iconst (v := 0) hx hb dX2_pressure_1 (by decide) ?_
    refine va_put (D := D) (ci := 2) (v := .int 0) (ty := .int) (C := RX2) (T := TX2) (N := 14) hx hb hts (by decide +kernel) tyX2 tyX2_ok nmX2 hown hK hP hD hS 0 rfl rfl 0 (by decide) (hts _ hm1) (fun _ h9 => h9) rfl (by decide +kernel) rfl rfl (Nat.le_of_ble_eq_true rfl) dX2_pressure_2 (fun H locs hP hD hS => ?_)
    replace hP : va_P D vwCl (mw m0 a C 0 (nI n) sp lo ph pr bo mo rf gr hd st ch rs) H := hP
    replace hD : va_D A (mw m0 a C 0 (nI n) sp lo ph pr bo mo rf gr hd st ch rs) := hD
    refine lv_aload_n hx hb dX2_pressure_5 rfl (lv_at hl 0 rfl) ?_
    refine lv_iload_n hx hb dX2_pressure_6 rfl (lv_at hl 1 rfl) ?_
    refine vp_callSi (W.runV (As := [.int (nI (i + 1))]) (rest := []) ⟨hx, hb, hml, hown, hts⟩ (m2_no_in l D m0 a C n 0 sp lo ph pr bo mo rf gr hd st ch rs hn i hi) (cwV 1 hts gX2_pressure_X2_noWheel rfl rfl rfl (by decide +kernel) ⟨Nat.le_of_ble_eq_true rfl, Nat.le_of_ble_eq_true rfl⟩) ⟨xP_blind, va_recv hK hP (ci := 2) (q0 := 0) rfl rfl, xP_at hP hK hN⟩ rfl rfl hl.1 rfl (lv_room (Nat.le_of_ble_eq_true rfl)) dX2_pressure_7 ⟨Nat.le_of_ble_eq_true rfl, Nat.le_of_ble_eq_true rfl⟩) (fun r_1 hr_2 => ?_)
    subst hr_2
    refine lv_if_eq (tgt := 19) hx hb dX2_pressure_10 (by decide) (fun c_3 => ?_) (fun c_3 => absurd (by decide) c_3)
    refine lv_aload_n hx hb dX2_pressure_19 rfl (lv_at hl 0 rfl) ?_
    refine va_get (D := D) (ci := 2) (v := .ref (a 4)) (C := RX2) (T := TX2) (N := 14) hx hb hts (by decide +kernel) hown hK hP 0 rfl rfl 5 (by decide) (hts _ hm2) (fun _ h9 => h9) rfl dX2_pressure_20 ?_
    refine lv_iload_n hx hb dX2_pressure_23 rfl (lv_at hl 1 rfl) ?_
    refine va_lald (D := D) (f := pr) hx hb hK hP 4 3 rfl rfl (ix_9 hn hi) dX2_pressure_24 ?_
    refine W.eq (g2 := F0 m 25 ls [.long (pr (i + 1))]) (by rw [wIx hn hi]) ?_
    exact W.lret (v := (pr (i + 1))) hx hb hr (fun t ht hW => ⟨⟨_, (0), rfl, ⟨by simp [wOut_in hn hi, wIx hn hi], by simp [wOut_in hn hi, wIx hn hi]⟩, xB_end hP hK hN hD ht hW⟩, hS.F ht⟩) hS.2.2 dX2_pressure_25
set_option maxHeartbeats 4000000 in
set_option maxRecDepth 100000 in
/-- plant -/
theorem m2_plant (l : Launch) (D : va_G) (m0 : Nat) (a : Nat → Nat) (C : Nat → ClassId) (n : Nat) (th : Int32) (sp : Nat → Int64) (lo ph : Nat → Int32) (pr bo : Nat → Int64) (mo : Nat → UInt64) (rf : Int64) (gr hd st ch rs : Int32) (hn : n ≤ 8) (w : Int32) (sz : Nat) : Met l yX2_plant wsX2_plant ({ frames := 1, cells := 0, slots := 0, locals := 22 }) (va_Pc [.ref m0, .int w] (xW D [(C 1, .long), (C 2, .boolean), (C 3, .int), (C 4, .long), (C 5, .long), (C 6, .double)] (mw m0 a C th (nI n) sp lo ph pr bo mo rf gr hd st ch rs) sz)) (va_Qd (fun (r : UInt64) (u : (Int32)) => r = (if wOut n w then FP.dconst0 else mo w.toNatClampNeg) ∧ u = 0) (fun (u : (Int32)) => xB D [(C 1, .long), (C 2, .boolean), (C 3, .int), (C 4, .long), (C 5, .long), (C 6, .double)] (va_A (mw m0 a C th (nI n) sp lo ph pr bo mo rf gr hd st ch rs) sz) (mw m0 a C u (nI n) sp lo ph pr bo mo rf gr hd st ch rs)) (va_A (mw m0 a C th (nI n) sp lo ph pr bo mo rf gr hd st ch rs) sz)) 0 0 (va_A (mw m0 a C th (nI n) sp lo ph pr bo mo rf gr hd st ch rs) sz) := by
  rcases w_io n w hn with hwo | ⟨i, hi, rfl⟩
  · skip
    refine Met.ofW (cc := cX2_plant) (maxL := 2) (ret := (some .double)) (by decide) rfl ?_
    intro p e s m args below meth c s₁ B hml hv
    obtain ⟨rfl, hsz, ⟨hP, hK, hN⟩, hDt⟩ := hv
    have hx := B.exec
    have hb := B.bytes
    have hr := B.returns
    have hts := atoms_spec (ws := wsX2_plant) B.pre
    have hown : s.vm.findClass RX2 = some m.cls := findClass_of_methodNamed B.named
    have hlocks := B.notSynchronized
    have hm1 : (.fieldLink RX2 40 "GearBrakeModel" "thrown" "I" : Cond) ∈ wsX2_plant := by decide +kernel
    subst hsz
    have hD := hDt.self (sz := s.heap.size)
    generalize hAe : va_A (mw m0 a C th (nI n) sp lo ph pr bo mo rf gr hd st ch rs) s.heap.size = A at hD ⊢
    have hA : ∀ q : Nat, s.heap.size ≤ q → A q := fun q h => by rw [← hAe]; exact Or.inr h
    have hS : va_S A s.heap s.heap [] := va_S.rf
    have hl := lv_entry ([.ref m0, .int w]) (n := 2) (Nat.le_of_ble_eq_true rfl)
    rw [lg_entry_eq]
    generalize (lg_sl ([.ref m0, .int w]) ++ List.replicate (2 - (lg_sl ([.ref m0, .int w])).length) Slot.unset).toArray = ls at hl ⊢
    replace hl : lv_has ls 2 [(0, .ref m0), (1, .int w)] := hl
    refine lv_aload_n hx hb dX2_plant_0 rfl (lv_at hl 0 rfl) ?_
    refine lv_iconst (v := 0) hx hb dX2_plant_1 (by decide) ?_
    refine va_put (D := D) (ci := 2) (v := .int 0) (ty := .int) (C := RX2) (T := TX2) (N := 14) hx hb hts (by decide +kernel) tyX2 tyX2_ok nmX2 hown hK hP hD hS 0 rfl rfl 0 (by decide) (hts _ hm1) (fun _ h9 => h9) rfl (by decide +kernel) rfl rfl (Nat.le_of_ble_eq_true rfl) dX2_plant_2 (fun H locs hP hD hS => ?_)
    replace hP : va_P D vwCl (mw m0 a C 0 (nI n) sp lo ph pr bo mo rf gr hd st ch rs) H := hP
    replace hD : va_D A (mw m0 a C 0 (nI n) sp lo ph pr bo mo rf gr hd st ch rs) := hD
    refine lv_aload_n hx hb dX2_plant_5 rfl (lv_at hl 0 rfl) ?_
    refine lv_iload_n hx hb dX2_plant_6 rfl (lv_at hl 1 rfl) ?_
    refine vp_callSi (W.runV (As := [.int w]) (rest := []) ⟨hx, hb, hml, hown, hts⟩ (m2_no_out l D m0 a C n 0 sp lo ph pr bo mo rf gr hd st ch rs hn w hwo) (cwV 1 hts gX2_plant_X2_noWheel rfl rfl rfl (by decide +kernel) ⟨Nat.le_of_ble_eq_true rfl, Nat.le_of_ble_eq_true rfl⟩) ⟨xP_blind, va_recv hK hP (ci := 2) (q0 := 0) rfl rfl, xP_at hP hK hN⟩ rfl rfl hl.1 rfl (lv_room (Nat.le_of_ble_eq_true rfl)) dX2_plant_7 ⟨Nat.le_of_ble_eq_true rfl, Nat.le_of_ble_eq_true rfl⟩) (fun r_1 hr_2 => ?_)
    subst hr_2
    refine lv_if_eq (tgt := 17) hx hb dX2_plant_10 (by decide) (fun c_3 => absurd c_3 (by decide)) (fun c_3 => ?_)
    refine lv_dconst0 hx hb dX2_plant_13 ?_
    refine lv_goto (tgt := 23) hx hb dX2_plant_14 (by decide) ?_
    exact W.dret (v := FP.dconst0) hx hb hr (fun t ht hW => ⟨⟨_, (0), rfl, ⟨by simp [hwo], by simp [hwo]⟩, xB_end hP hK hN hD ht hW⟩, hS.F ht⟩) hS.2.2 dX2_plant_23
  · skip
    refine Met.ofW (cc := cX2_plant) (maxL := 2) (ret := (some .double)) (by decide) rfl ?_
    intro p e s m args below meth c s₁ B hml hv
    obtain ⟨rfl, hsz, ⟨hP, hK, hN⟩, hDt⟩ := hv
    have hx := B.exec
    have hb := B.bytes
    have hr := B.returns
    have hts := atoms_spec (ws := wsX2_plant) B.pre
    have hown : s.vm.findClass RX2 = some m.cls := findClass_of_methodNamed B.named
    have hlocks := B.notSynchronized
    have hm1 : (.fieldLink RX2 40 "GearBrakeModel" "thrown" "I" : Cond) ∈ wsX2_plant := by decide +kernel
    have hm2 : (.fieldLink RX2 27 "GearBrakeModel" "models" "[D" : Cond) ∈ wsX2_plant := by decide +kernel
    subst hsz
    have hD := hDt.self (sz := s.heap.size)
    generalize hAe : va_A (mw m0 a C th (nI n) sp lo ph pr bo mo rf gr hd st ch rs) s.heap.size = A at hD ⊢
    have hA : ∀ q : Nat, s.heap.size ≤ q → A q := fun q h => by rw [← hAe]; exact Or.inr h
    have hS : va_S A s.heap s.heap [] := va_S.rf
    have hl := lv_entry ([.ref m0, .int (nI (i + 1))]) (n := 2) (Nat.le_of_ble_eq_true rfl)
    rw [lg_entry_eq]
    generalize (lg_sl ([.ref m0, .int (nI (i + 1))]) ++ List.replicate (2 - (lg_sl ([.ref m0, .int (nI (i + 1))])).length) Slot.unset).toArray = ls at hl ⊢
    replace hl : lv_has ls 2 [(0, .ref m0), (1, .int (nI (i + 1)))] := hl
    refine lv_aload_n hx hb dX2_plant_0 rfl (lv_at hl 0 rfl) ?_
    refine lv_iconst (v := 0) hx hb dX2_plant_1 (by decide) ?_
    refine va_put (D := D) (ci := 2) (v := .int 0) (ty := .int) (C := RX2) (T := TX2) (N := 14) hx hb hts (by decide +kernel) tyX2 tyX2_ok nmX2 hown hK hP hD hS 0 rfl rfl 0 (by decide) (hts _ hm1) (fun _ h9 => h9) rfl (by decide +kernel) rfl rfl (Nat.le_of_ble_eq_true rfl) dX2_plant_2 (fun H locs hP hD hS => ?_)
    replace hP : va_P D vwCl (mw m0 a C 0 (nI n) sp lo ph pr bo mo rf gr hd st ch rs) H := hP
    replace hD : va_D A (mw m0 a C 0 (nI n) sp lo ph pr bo mo rf gr hd st ch rs) := hD
    refine lv_aload_n hx hb dX2_plant_5 rfl (lv_at hl 0 rfl) ?_
    refine lv_iload_n hx hb dX2_plant_6 rfl (lv_at hl 1 rfl) ?_
    refine vp_callSi (W.runV (As := [.int (nI (i + 1))]) (rest := []) ⟨hx, hb, hml, hown, hts⟩ (m2_no_in l D m0 a C n 0 sp lo ph pr bo mo rf gr hd st ch rs hn i hi) (cwV 1 hts gX2_plant_X2_noWheel rfl rfl rfl (by decide +kernel) ⟨Nat.le_of_ble_eq_true rfl, Nat.le_of_ble_eq_true rfl⟩) ⟨xP_blind, va_recv hK hP (ci := 2) (q0 := 0) rfl rfl, xP_at hP hK hN⟩ rfl rfl hl.1 rfl (lv_room (Nat.le_of_ble_eq_true rfl)) dX2_plant_7 ⟨Nat.le_of_ble_eq_true rfl, Nat.le_of_ble_eq_true rfl⟩) (fun r_1 hr_2 => ?_)
    subst hr_2
    refine lv_if_eq (tgt := 17) hx hb dX2_plant_10 (by decide) (fun c_3 => ?_) (fun c_3 => absurd (by decide) c_3)
    refine lv_aload_n hx hb dX2_plant_17 rfl (lv_at hl 0 rfl) ?_
    refine va_get (D := D) (ci := 2) (v := .ref (a 6)) (C := RX2) (T := TX2) (N := 14) hx hb hts (by decide +kernel) hown hK hP 0 rfl rfl 7 (by decide) (hts _ hm2) (fun _ h9 => h9) rfl dX2_plant_18 ?_
    refine lv_iload_n hx hb dX2_plant_21 rfl (lv_at hl 1 rfl) ?_
    refine va_dald (D := D) (f := mo) hx hb hK hP 6 5 rfl rfl (ix_9 hn hi) dX2_plant_22 ?_
    refine W.eq (g2 := F0 m 23 ls [.double (mo (i + 1))]) (by rw [wIx hn hi]) ?_
    exact W.dret (v := (mo (i + 1))) hx hb hr (fun t ht hW => ⟨⟨_, (0), rfl, ⟨by simp [wOut_in hn hi, wIx hn hi], by simp [wOut_in hn hi, wIx hn hi]⟩, xB_end hP hK hN hD ht hW⟩, hS.F ht⟩) hS.2.2 dX2_plant_23
set_option maxHeartbeats 4000000 in
set_option maxRecDepth 100000 in
/-- bound -/
theorem m2_bound (l : Launch) (D : va_G) (m0 : Nat) (a : Nat → Nat) (C : Nat → ClassId) (n : Nat) (th : Int32) (sp : Nat → Int64) (lo ph : Nat → Int32) (pr bo : Nat → Int64) (mo : Nat → UInt64) (rf : Int64) (gr hd st ch rs : Int32) (hn : n ≤ 8) (w : Int32) (v : Int64) (sz : Nat) : Met l yX2_bound wsX2_bound ({ frames := 1, cells := 0, slots := 0, locals := 22 }) (va_Pc [.ref m0, .int w, .long v] (xW D [(C 1, .long), (C 2, .boolean), (C 3, .int), (C 4, .long), (C 5, .long), (C 6, .double)] (mw m0 a C th (nI n) sp lo ph pr bo mo rf gr hd st ch rs) sz)) (va_Qi (fun (r : Int32) (u : (Int32) × (Nat → Int64) × (Nat → Int64)) => r = fW n w v 200 ∧ u.1 = 0 ∧ u.2.1 = gW n w v 200 bo v ∧ u.2.2 = gW n w v 200 pr (mMin (pr w.toNatClampNeg) v)) (fun (u : (Int32) × (Nat → Int64) × (Nat → Int64)) => xB D [(C 1, .long), (C 2, .boolean), (C 3, .int), (C 4, .long), (C 5, .long), (C 6, .double)] (va_A (mw m0 a C th (nI n) sp lo ph pr bo mo rf gr hd st ch rs) sz) (mw m0 a C u.1 (nI n) sp lo ph u.2.2 u.2.1 mo rf gr hd st ch rs)) (va_A (mw m0 a C th (nI n) sp lo ph pr bo mo rf gr hd st ch rs) sz)) 0 0 (va_A (mw m0 a C th (nI n) sp lo ph pr bo mo rf gr hd st ch rs) sz) := by
  rcases w_io n w hn with hwo | ⟨i, hi, rfl⟩
  · skip
    refine Met.ofW (cc := cX2_bound) (maxL := 4) (ret := (some .int)) (by decide) rfl ?_
    intro p e s m args below meth c s₁ B hml hv
    obtain ⟨rfl, hsz, ⟨hP, hK, hN⟩, hDt⟩ := hv
    have hx := B.exec
    have hb := B.bytes
    have hr := B.returns
    have hts := atoms_spec (ws := wsX2_bound) B.pre
    have hown : s.vm.findClass RX2 = some m.cls := findClass_of_methodNamed B.named
    have hlocks := B.notSynchronized
    have hm1 : (.fieldLink RX2 40 "GearBrakeModel" "thrown" "I" : Cond) ∈ wsX2_bound := by decide +kernel
    subst hsz
    have hD := hDt.self (sz := s.heap.size)
    generalize hAe : va_A (mw m0 a C th (nI n) sp lo ph pr bo mo rf gr hd st ch rs) s.heap.size = A at hD ⊢
    have hA : ∀ q : Nat, s.heap.size ≤ q → A q := fun q h => by rw [← hAe]; exact Or.inr h
    have hS : va_S A s.heap s.heap [] := va_S.rf
    have hl := lv_entry ([.ref m0, .int w, .long v]) (n := 4) (Nat.le_of_ble_eq_true rfl)
    rw [lg_entry_eq]
    generalize (lg_sl ([.ref m0, .int w, .long v]) ++ List.replicate (4 - (lg_sl ([.ref m0, .int w, .long v])).length) Slot.unset).toArray = ls at hl ⊢
    replace hl : lv_has ls 4 [(0, .ref m0), (1, .int w), (2, .long v)] := hl
    refine lv_aload_n hx hb dX2_bound_0 rfl (lv_at hl 0 rfl) ?_
    refine lv_iconst (v := 0) hx hb dX2_bound_1 (by decide) ?_
    refine va_put (D := D) (ci := 2) (v := .int 0) (ty := .int) (C := RX2) (T := TX2) (N := 14) hx hb hts (by decide +kernel) tyX2 tyX2_ok nmX2 hown hK hP hD hS 0 rfl rfl 0 (by decide) (hts _ hm1) (fun _ h9 => h9) rfl (by decide +kernel) rfl rfl (Nat.le_of_ble_eq_true rfl) dX2_bound_2 (fun H locs hP hD hS => ?_)
    replace hP : va_P D vwCl (mw m0 a C 0 (nI n) sp lo ph pr bo mo rf gr hd st ch rs) H := hP
    replace hD : va_D A (mw m0 a C 0 (nI n) sp lo ph pr bo mo rf gr hd st ch rs) := hD
    refine lv_aload_n hx hb dX2_bound_5 rfl (lv_at hl 0 rfl) ?_
    refine lv_iload_n hx hb dX2_bound_6 rfl (lv_at hl 1 rfl) ?_
    refine vp_callSi (W.runV (As := [.int w]) (rest := []) ⟨hx, hb, hml, hown, hts⟩ (m2_no_out l D m0 a C n 0 sp lo ph pr bo mo rf gr hd st ch rs hn w hwo) (cwV 1 hts gX2_bound_X2_noWheel rfl rfl rfl (by decide +kernel) ⟨Nat.le_of_ble_eq_true rfl, Nat.le_of_ble_eq_true rfl⟩) ⟨xP_blind, va_recv hK hP (ci := 2) (q0 := 0) rfl rfl, xP_at hP hK hN⟩ rfl rfl hl.1 rfl (lv_room (Nat.le_of_ble_eq_true rfl)) dX2_bound_7 ⟨Nat.le_of_ble_eq_true rfl, Nat.le_of_ble_eq_true rfl⟩) (fun r_1 hr_2 => ?_)
    subst hr_2
    refine lv_if_eq (tgt := 15) hx hb dX2_bound_10 (by decide) (fun c_3 => absurd c_3 (by decide)) (fun c_3 => ?_)
    refine lv_iconst (v := (-1)) hx hb dX2_bound_13 (by decide) ?_
    exact W.iret (v := (-1)) hx hb hr (fun t ht hW => ⟨⟨_, (0, bo, pr), rfl, ⟨by simp [fW, gW, mMin, hwo], by simp [fW, gW, mMin, hwo], by simp [fW, gW, mMin, hwo], by simp [fW, gW, mMin, hwo]⟩, xB_end hP hK hN hD ht hW⟩, hS.F ht⟩) hS.2.2 dX2_bound_14
  · skip
    refine Met.ofW (cc := cX2_bound) (maxL := 4) (ret := (some .int)) (by decide) rfl ?_
    intro p e s m args below meth c s₁ B hml hv
    obtain ⟨rfl, hsz, ⟨hP, hK, hN⟩, hDt⟩ := hv
    have hx := B.exec
    have hb := B.bytes
    have hr := B.returns
    have hts := atoms_spec (ws := wsX2_bound) B.pre
    have hown : s.vm.findClass RX2 = some m.cls := findClass_of_methodNamed B.named
    have hlocks := B.notSynchronized
    have hm1 : (.fieldLink RX2 40 "GearBrakeModel" "thrown" "I" : Cond) ∈ wsX2_bound := by decide +kernel
    have hm2 : (.constantLong RX2 110 (200) : Cond) ∈ wsX2_bound := by decide +kernel
    have hm3 : (.fieldLink RX2 24 "GearBrakeModel" "bounds" "[J" : Cond) ∈ wsX2_bound := by decide +kernel
    have hm4 : (.fieldLink RX2 21 "GearBrakeModel" "pressures" "[J" : Cond) ∈ wsX2_bound := by decide +kernel
    subst hsz
    have hD := hDt.self (sz := s.heap.size)
    generalize hAe : va_A (mw m0 a C th (nI n) sp lo ph pr bo mo rf gr hd st ch rs) s.heap.size = A at hD ⊢
    have hA : ∀ q : Nat, s.heap.size ≤ q → A q := fun q h => by rw [← hAe]; exact Or.inr h
    have hS : va_S A s.heap s.heap [] := va_S.rf
    have hl := lv_entry ([.ref m0, .int (nI (i + 1)), .long v]) (n := 4) (Nat.le_of_ble_eq_true rfl)
    rw [lg_entry_eq]
    generalize (lg_sl ([.ref m0, .int (nI (i + 1)), .long v]) ++ List.replicate (4 - (lg_sl ([.ref m0, .int (nI (i + 1)), .long v])).length) Slot.unset).toArray = ls at hl ⊢
    replace hl : lv_has ls 4 [(0, .ref m0), (1, .int (nI (i + 1))), (2, .long v)] := hl
    refine lv_aload_n hx hb dX2_bound_0 rfl (lv_at hl 0 rfl) ?_
    refine lv_iconst (v := 0) hx hb dX2_bound_1 (by decide) ?_
    refine va_put (D := D) (ci := 2) (v := .int 0) (ty := .int) (C := RX2) (T := TX2) (N := 14) hx hb hts (by decide +kernel) tyX2 tyX2_ok nmX2 hown hK hP hD hS 0 rfl rfl 0 (by decide) (hts _ hm1) (fun _ h9 => h9) rfl (by decide +kernel) rfl rfl (Nat.le_of_ble_eq_true rfl) dX2_bound_2 (fun H locs hP hD hS => ?_)
    replace hP : va_P D vwCl (mw m0 a C 0 (nI n) sp lo ph pr bo mo rf gr hd st ch rs) H := hP
    replace hD : va_D A (mw m0 a C 0 (nI n) sp lo ph pr bo mo rf gr hd st ch rs) := hD
    refine lv_aload_n hx hb dX2_bound_5 rfl (lv_at hl 0 rfl) ?_
    refine lv_iload_n hx hb dX2_bound_6 rfl (lv_at hl 1 rfl) ?_
    refine vp_callSi (W.runV (As := [.int (nI (i + 1))]) (rest := []) ⟨hx, hb, hml, hown, hts⟩ (m2_no_in l D m0 a C n 0 sp lo ph pr bo mo rf gr hd st ch rs hn i hi) (cwV 1 hts gX2_bound_X2_noWheel rfl rfl rfl (by decide +kernel) ⟨Nat.le_of_ble_eq_true rfl, Nat.le_of_ble_eq_true rfl⟩) ⟨xP_blind, va_recv hK hP (ci := 2) (q0 := 0) rfl rfl, xP_at hP hK hN⟩ rfl rfl hl.1 rfl (lv_room (Nat.le_of_ble_eq_true rfl)) dX2_bound_7 ⟨Nat.le_of_ble_eq_true rfl, Nat.le_of_ble_eq_true rfl⟩) (fun r_1 hr_2 => ?_)
    subst hr_2
    refine lv_if_eq (tgt := 15) hx hb dX2_bound_10 (by decide) (fun c_3 => ?_) (fun c_3 => absurd (by decide) c_3)
    refine lv_lload_n hx hb dX2_bound_15 rfl (lv_at hl 2 rfl) ?_
    refine lv_lconst (v := 0) hx hb dX2_bound_16 (by decide) ?_
    refine W.lcmp hx hb dX2_bound_17 ?_
    refine lv_if_lt (tgt := 29) hx hb dX2_bound_18 (by decide) (fun c_4 => ?_) (fun c_4 => ?_)
    · skip
      replace c_4 := (lg_cmp_lt _ _).mp c_4
      refine lv_bipush (v := (-2)) hx hb dX2_bound_29 (by decide) ?_
      exact W.iret (v := (-2)) hx hb hr (fun t ht hW => ⟨⟨_, (0, bo, pr), rfl, ⟨by simp [fW, gW, mMin, wOut_in hn hi, wIx hn hi, c_4], by simp [fW, gW, mMin, wOut_in hn hi, wIx hn hi, c_4], by simp [fW, gW, mMin, wOut_in hn hi, wIx hn hi, c_4], by simp [fW, gW, mMin, wOut_in hn hi, wIx hn hi, c_4]⟩, xB_end hP hK hN hD ht hW⟩, hS.F ht⟩) hS.2.2 dX2_bound_31
    · skip
      replace c_4 := mt (lg_cmp_lt _ _).mpr c_4
      refine lv_lload_n hx hb dX2_bound_21 rfl (lv_at hl 2 rfl) ?_
      refine lv_ldc2 hx hb hown (hts _ hm2) dX2_bound_22 ?_
      refine W.lcmp hx hb dX2_bound_25 ?_
      refine lv_if_le (tgt := 32) hx hb dX2_bound_26 (by decide) (fun c_5 => ?_) (fun c_5 => ?_)
      · skip
        replace c_5 := (lg_cmp_le _ _).mp c_5
        replace c_5 := i64_nlt c_5
        refine lv_aload_n hx hb dX2_bound_32 rfl (lv_at hl 0 rfl) ?_
        refine va_get (D := D) (ci := 2) (v := .ref (a 5)) (C := RX2) (T := TX2) (N := 14) hx hb hts (by decide +kernel) hown hK hP 0 rfl rfl 6 (by decide) (hts _ hm3) (fun _ h9 => h9) rfl dX2_bound_33 ?_
        refine lv_iload_n hx hb dX2_bound_36 rfl (lv_at hl 1 rfl) ?_
        refine lv_lload_n hx hb dX2_bound_37 rfl (lv_at hl 2 rfl) ?_
        refine va_last (D := D) (f := bo) hx hb hK hP hD hS 5 4 rfl rfl (ix_9 hn hi) dX2_bound_38 (fun H locs hP hD hS => ?_)
        rw [wIx hn hi] at hP hD
        replace hP : va_P D vwCl (mw m0 a C 0 (nI n) sp lo ph pr (va_up bo (i + 1) v) mo rf gr hd st ch rs) H := hP
        replace hD : va_D A (mw m0 a C 0 (nI n) sp lo ph pr (va_up bo (i + 1) v) mo rf gr hd st ch rs) := hD
        refine lv_aload_n hx hb dX2_bound_39 rfl (lv_at hl 0 rfl) ?_
        refine va_get (D := D) (ci := 2) (v := .ref (a 4)) (C := RX2) (T := TX2) (N := 14) hx hb hts (by decide +kernel) hown hK hP 0 rfl rfl 5 (by decide) (hts _ hm4) (fun _ h9 => h9) rfl dX2_bound_40 ?_
        refine lv_iload_n hx hb dX2_bound_43 rfl (lv_at hl 1 rfl) ?_
        refine lv_aload_n hx hb dX2_bound_44 rfl (lv_at hl 0 rfl) ?_
        refine va_get (D := D) (ci := 2) (v := .ref (a 4)) (C := RX2) (T := TX2) (N := 14) hx hb hts (by decide +kernel) hown hK hP 0 rfl rfl 5 (by decide) (hts _ hm4) (fun _ h9 => h9) rfl dX2_bound_45 ?_
        refine lv_iload_n hx hb dX2_bound_48 rfl (lv_at hl 1 rfl) ?_
        refine va_lald (D := D) (f := pr) hx hb hK hP 4 3 rfl rfl (ix_9 hn hi) dX2_bound_49 ?_
        refine W.eq (g2 := F0 m 50 ls [.long (pr (i + 1)), .int (nI (i + 1)), .ref (a 4)]) (by rw [wIx hn hi]) ?_
        refine lv_lload_n hx hb dX2_bound_50 rfl (lv_at hl 2 rfl) ?_
        refine W.lcmp hx hb dX2_bound_51 ?_
        refine lv_if_le (tgt := 59) hx hb dX2_bound_52 (by decide) (fun c_6 => ?_) (fun c_6 => ?_)
        · skip
          replace c_6 := (lg_cmp_le _ _).mp c_6
          refine lv_aload_n hx hb dX2_bound_59 rfl (lv_at hl 0 rfl) ?_
          refine va_get (D := D) (ci := 2) (v := .ref (a 4)) (C := RX2) (T := TX2) (N := 14) hx hb hts (by decide +kernel) hown hK hP 0 rfl rfl 5 (by decide) (hts _ hm4) (fun _ h9 => h9) rfl dX2_bound_60 ?_
          refine lv_iload_n hx hb dX2_bound_63 rfl (lv_at hl 1 rfl) ?_
          refine va_lald (D := D) (f := pr) hx hb hK hP 4 3 rfl rfl (ix_9 hn hi) dX2_bound_64 ?_
          refine W.eq (g2 := F0 m 65 ls [.long (pr (i + 1)), .int (nI (i + 1)), .ref (a 4)]) (by rw [wIx hn hi]) ?_
          refine va_last (D := D) (f := pr) hx hb hK hP hD hS 4 3 rfl rfl (ix_9 hn hi) dX2_bound_65 (fun H locs hP hD hS => ?_)
          rw [wIx hn hi] at hP hD
          replace hP : va_P D vwCl (mw m0 a C 0 (nI n) sp lo ph (va_up pr (i + 1) (pr (i + 1))) (va_up bo (i + 1) v) mo rf gr hd st ch rs) H := hP
          replace hD : va_D A (mw m0 a C 0 (nI n) sp lo ph (va_up pr (i + 1) (pr (i + 1))) (va_up bo (i + 1) v) mo rf gr hd st ch rs) := hD
          refine lv_iconst (v := 1) hx hb dX2_bound_66 (by decide) ?_
          exact W.iret (v := 1) hx hb hr (fun t ht hW => ⟨⟨_, (0, va_up bo (i + 1) v, va_up pr (i + 1) (pr (i + 1))), rfl, ⟨by simp [fW, gW, mMin, wOut_in hn hi, wIx hn hi, c_4, c_5, c_6], by simp [fW, gW, mMin, wOut_in hn hi, wIx hn hi, c_4, c_5, c_6], by simp [fW, gW, mMin, wOut_in hn hi, wIx hn hi, c_4, c_5, c_6], by simp [fW, gW, mMin, wOut_in hn hi, wIx hn hi, c_4, c_5, c_6]⟩, xB_end hP hK hN hD ht hW⟩, hS.F ht⟩) hS.2.2 dX2_bound_67
        · skip
          replace c_6 := mt (lg_cmp_le _ _).mpr c_6
          refine lv_lload_n hx hb dX2_bound_55 rfl (lv_at hl 2 rfl) ?_
          refine lv_goto (tgt := 65) hx hb dX2_bound_56 (by decide) ?_
          refine va_last (D := D) (f := pr) hx hb hK hP hD hS 4 3 rfl rfl (ix_9 hn hi) dX2_bound_65 (fun H locs hP hD hS => ?_)
          rw [wIx hn hi] at hP hD
          replace hP : va_P D vwCl (mw m0 a C 0 (nI n) sp lo ph (va_up pr (i + 1) v) (va_up bo (i + 1) v) mo rf gr hd st ch rs) H := hP
          replace hD : va_D A (mw m0 a C 0 (nI n) sp lo ph (va_up pr (i + 1) v) (va_up bo (i + 1) v) mo rf gr hd st ch rs) := hD
          refine lv_iconst (v := 1) hx hb dX2_bound_66 (by decide) ?_
          exact W.iret (v := 1) hx hb hr (fun t ht hW => ⟨⟨_, (0, va_up bo (i + 1) v, va_up pr (i + 1) v), rfl, ⟨by simp [fW, gW, mMin, wOut_in hn hi, wIx hn hi, c_4, c_5, c_6], by simp [fW, gW, mMin, wOut_in hn hi, wIx hn hi, c_4, c_5, c_6], by simp [fW, gW, mMin, wOut_in hn hi, wIx hn hi, c_4, c_5, c_6], by simp [fW, gW, mMin, wOut_in hn hi, wIx hn hi, c_4, c_5, c_6]⟩, xB_end hP hK hN hD ht hW⟩, hS.F ht⟩) hS.2.2 dX2_bound_67
      · skip
        replace c_5 := mt (lg_cmp_le _ _).mpr c_5
        replace c_5 := i64_lt c_5
        refine lv_bipush (v := (-2)) hx hb dX2_bound_29 (by decide) ?_
        exact W.iret (v := (-2)) hx hb hr (fun t ht hW => ⟨⟨_, (0, bo, pr), rfl, ⟨by simp [fW, gW, mMin, wOut_in hn hi, wIx hn hi, c_4, c_5], by simp [fW, gW, mMin, wOut_in hn hi, wIx hn hi, c_4, c_5], by simp [fW, gW, mMin, wOut_in hn hi, wIx hn hi, c_4, c_5], by simp [fW, gW, mMin, wOut_in hn hi, wIx hn hi, c_4, c_5]⟩, xB_end hP hK hN hD ht hW⟩, hS.F ht⟩) hS.2.2 dX2_bound_31
set_option maxHeartbeats 4000000 in
set_option maxRecDepth 100000 in
/-- lost -/
theorem m2_lost (l : Launch) (D : va_G) (m0 : Nat) (a : Nat → Nat) (C : Nat → ClassId) (n : Nat) (th : Int32) (sp : Nat → Int64) (lo ph : Nat → Int32) (pr bo : Nat → Int64) (mo : Nat → UInt64) (rf : Int64) (gr hd st ch rs : Int32) (hn : n ≤ 8) (w : Int32) (on : Int32) (hon : on = 0 ∨ on = 1) (sz : Nat) : Met l yX2_lost wsX2_lost ({ frames := 1, cells := 0, slots := 0, locals := 22 }) (va_Pc [.ref m0, .int w, .int on] (xW D [(C 1, .long), (C 2, .boolean), (C 3, .int), (C 4, .long), (C 5, .long), (C 6, .double)] (mw m0 a C th (nI n) sp lo ph pr bo mo rf gr hd st ch rs) sz)) (va_Qi (fun (r : Int32) (u : (Int32) × (Nat → Int32)) => r = (if wOut n w then -1 else cnt (va_up lo w.toNatClampNeg on) n) ∧ u.1 = 0 ∧ u.2 = if wOut n w then lo else va_up lo w.toNatClampNeg on) (fun (u : (Int32) × (Nat → Int32)) => xB D [(C 1, .long), (C 2, .boolean), (C 3, .int), (C 4, .long), (C 5, .long), (C 6, .double)] (va_A (mw m0 a C th (nI n) sp lo ph pr bo mo rf gr hd st ch rs) sz) (mw m0 a C u.1 (nI n) sp u.2 ph pr bo mo rf gr hd st ch rs)) (va_A (mw m0 a C th (nI n) sp lo ph pr bo mo rf gr hd st ch rs) sz)) 0 0 (va_A (mw m0 a C th (nI n) sp lo ph pr bo mo rf gr hd st ch rs) sz) := by
  rcases w_io n w hn with hwo | ⟨i, hi, rfl⟩
  · skip
    refine Met.ofW (cc := cX2_lost) (maxL := 3) (ret := (some .int)) (by decide) rfl ?_
    intro p e s m args below meth c s₁ B hml hv
    obtain ⟨rfl, hsz, ⟨hP, hK, hN⟩, hDt⟩ := hv
    have hx := B.exec
    have hb := B.bytes
    have hr := B.returns
    have hts := atoms_spec (ws := wsX2_lost) B.pre
    have hown : s.vm.findClass RX2 = some m.cls := findClass_of_methodNamed B.named
    have hlocks := B.notSynchronized
    have hm1 : (.fieldLink RX2 40 "GearBrakeModel" "thrown" "I" : Cond) ∈ wsX2_lost := by decide +kernel
    subst hsz
    have hD := hDt.self (sz := s.heap.size)
    generalize hAe : va_A (mw m0 a C th (nI n) sp lo ph pr bo mo rf gr hd st ch rs) s.heap.size = A at hD ⊢
    have hA : ∀ q : Nat, s.heap.size ≤ q → A q := fun q h => by rw [← hAe]; exact Or.inr h
    have hS : va_S A s.heap s.heap [] := va_S.rf
    have hl := lv_entry ([.ref m0, .int w, .int on]) (n := 3) (Nat.le_of_ble_eq_true rfl)
    rw [lg_entry_eq]
    generalize (lg_sl ([.ref m0, .int w, .int on]) ++ List.replicate (3 - (lg_sl ([.ref m0, .int w, .int on])).length) Slot.unset).toArray = ls at hl ⊢
    replace hl : lv_has ls 3 [(0, .ref m0), (1, .int w), (2, .int on)] := hl
    refine lv_aload_n hx hb dX2_lost_0 rfl (lv_at hl 0 rfl) ?_
    refine lv_iconst (v := 0) hx hb dX2_lost_1 (by decide) ?_
    refine va_put (D := D) (ci := 2) (v := .int 0) (ty := .int) (C := RX2) (T := TX2) (N := 14) hx hb hts (by decide +kernel) tyX2 tyX2_ok nmX2 hown hK hP hD hS 0 rfl rfl 0 (by decide) (hts _ hm1) (fun _ h9 => h9) rfl (by decide +kernel) rfl rfl (Nat.le_of_ble_eq_true rfl) dX2_lost_2 (fun H locs hP hD hS => ?_)
    replace hP : va_P D vwCl (mw m0 a C 0 (nI n) sp lo ph pr bo mo rf gr hd st ch rs) H := hP
    replace hD : va_D A (mw m0 a C 0 (nI n) sp lo ph pr bo mo rf gr hd st ch rs) := hD
    refine lv_aload_n hx hb dX2_lost_5 rfl (lv_at hl 0 rfl) ?_
    refine lv_iload_n hx hb dX2_lost_6 rfl (lv_at hl 1 rfl) ?_
    refine vp_callSi (W.runV (As := [.int w]) (rest := []) ⟨hx, hb, hml, hown, hts⟩ (m2_no_out l D m0 a C n 0 sp lo ph pr bo mo rf gr hd st ch rs hn w hwo) (cwV 1 hts gX2_lost_X2_noWheel rfl rfl rfl (by decide +kernel) ⟨Nat.le_of_ble_eq_true rfl, Nat.le_of_ble_eq_true rfl⟩) ⟨xP_blind, va_recv hK hP (ci := 2) (q0 := 0) rfl rfl, xP_at hP hK hN⟩ rfl rfl hl.1 rfl (lv_room (Nat.le_of_ble_eq_true rfl)) dX2_lost_7 ⟨Nat.le_of_ble_eq_true rfl, Nat.le_of_ble_eq_true rfl⟩) (fun r_1 hr_2 => ?_)
    subst hr_2
    refine lv_if_eq (tgt := 15) hx hb dX2_lost_10 (by decide) (fun c_3 => absurd c_3 (by decide)) (fun c_3 => ?_)
    refine lv_iconst (v := (-1)) hx hb dX2_lost_13 (by decide) ?_
    exact W.iret (v := (-1)) hx hb hr (fun t ht hW => ⟨⟨_, (0, lo), rfl, ⟨by simp [hwo], by simp [hwo], by simp [hwo]⟩, xB_end hP hK hN hD ht hW⟩, hS.F ht⟩) hS.2.2 dX2_lost_14
  · skip
    refine Met.ofW (cc := cX2_lost) (maxL := 3) (ret := (some .int)) (by decide) rfl ?_
    intro p e s m args below meth c s₁ B hml hv
    obtain ⟨rfl, hsz, ⟨hP, hK, hN⟩, hDt⟩ := hv
    have hx := B.exec
    have hb := B.bytes
    have hr := B.returns
    have hts := atoms_spec (ws := wsX2_lost) B.pre
    have hown : s.vm.findClass RX2 = some m.cls := findClass_of_methodNamed B.named
    have hlocks := B.notSynchronized
    have hm1 : (.fieldLink RX2 40 "GearBrakeModel" "thrown" "I" : Cond) ∈ wsX2_lost := by decide +kernel
    have hm2 : (.fieldLink RX2 13 "GearBrakeModel" "losts" "[Z" : Cond) ∈ wsX2_lost := by decide +kernel
    subst hsz
    have hD := hDt.self (sz := s.heap.size)
    generalize hAe : va_A (mw m0 a C th (nI n) sp lo ph pr bo mo rf gr hd st ch rs) s.heap.size = A at hD ⊢
    have hA : ∀ q : Nat, s.heap.size ≤ q → A q := fun q h => by rw [← hAe]; exact Or.inr h
    have hS : va_S A s.heap s.heap [] := va_S.rf
    have hl := lv_entry ([.ref m0, .int (nI (i + 1)), .int on]) (n := 3) (Nat.le_of_ble_eq_true rfl)
    rw [lg_entry_eq]
    generalize (lg_sl ([.ref m0, .int (nI (i + 1)), .int on]) ++ List.replicate (3 - (lg_sl ([.ref m0, .int (nI (i + 1)), .int on])).length) Slot.unset).toArray = ls at hl ⊢
    replace hl : lv_has ls 3 [(0, .ref m0), (1, .int (nI (i + 1))), (2, .int on)] := hl
    refine lv_aload_n hx hb dX2_lost_0 rfl (lv_at hl 0 rfl) ?_
    refine lv_iconst (v := 0) hx hb dX2_lost_1 (by decide) ?_
    refine va_put (D := D) (ci := 2) (v := .int 0) (ty := .int) (C := RX2) (T := TX2) (N := 14) hx hb hts (by decide +kernel) tyX2 tyX2_ok nmX2 hown hK hP hD hS 0 rfl rfl 0 (by decide) (hts _ hm1) (fun _ h9 => h9) rfl (by decide +kernel) rfl rfl (Nat.le_of_ble_eq_true rfl) dX2_lost_2 (fun H locs hP hD hS => ?_)
    replace hP : va_P D vwCl (mw m0 a C 0 (nI n) sp lo ph pr bo mo rf gr hd st ch rs) H := hP
    replace hD : va_D A (mw m0 a C 0 (nI n) sp lo ph pr bo mo rf gr hd st ch rs) := hD
    refine lv_aload_n hx hb dX2_lost_5 rfl (lv_at hl 0 rfl) ?_
    refine lv_iload_n hx hb dX2_lost_6 rfl (lv_at hl 1 rfl) ?_
    refine vp_callSi (W.runV (As := [.int (nI (i + 1))]) (rest := []) ⟨hx, hb, hml, hown, hts⟩ (m2_no_in l D m0 a C n 0 sp lo ph pr bo mo rf gr hd st ch rs hn i hi) (cwV 1 hts gX2_lost_X2_noWheel rfl rfl rfl (by decide +kernel) ⟨Nat.le_of_ble_eq_true rfl, Nat.le_of_ble_eq_true rfl⟩) ⟨xP_blind, va_recv hK hP (ci := 2) (q0 := 0) rfl rfl, xP_at hP hK hN⟩ rfl rfl hl.1 rfl (lv_room (Nat.le_of_ble_eq_true rfl)) dX2_lost_7 ⟨Nat.le_of_ble_eq_true rfl, Nat.le_of_ble_eq_true rfl⟩) (fun r_1 hr_2 => ?_)
    subst hr_2
    refine lv_if_eq (tgt := 15) hx hb dX2_lost_10 (by decide) (fun c_3 => ?_) (fun c_3 => absurd (by decide) c_3)
    refine lv_aload_n hx hb dX2_lost_15 rfl (lv_at hl 0 rfl) ?_
    refine va_get (D := D) (ci := 2) (v := .ref (a 2)) (C := RX2) (T := TX2) (N := 14) hx hb hts (by decide +kernel) hown hK hP 0 rfl rfl 3 (by decide) (hts _ hm2) (fun _ h9 => h9) rfl dX2_lost_16 ?_
    refine lv_iload_n hx hb dX2_lost_19 rfl (lv_at hl 1 rfl) ?_
    refine lv_iload_n hx hb dX2_lost_20 rfl (lv_at hl 2 rfl) ?_
    refine va_zast (D := D) (f := lo) hx hb hK hP hD hS 2 1 rfl rfl (ix_9 hn hi) dX2_lost_21 (fun H locs hP hD hS => ?_)
    rw [show vp_nar .boolean on = on from bool_vp hon] at hP hD
    rw [wIx hn hi] at hP hD
    replace hP : va_P D vwCl (mw m0 a C 0 (nI n) sp (va_up lo (i + 1) on) ph pr bo mo rf gr hd st ch rs) H := hP
    replace hD : va_D A (mw m0 a C 0 (nI n) sp (va_up lo (i + 1) on) ph pr bo mo rf gr hd st ch rs) := hD
    refine lv_aload_n hx hb dX2_lost_22 rfl (lv_at hl 0 rfl) ?_
    refine vp_callSi (W.runV (As := []) (rest := []) ⟨hx, hb, hml, hown, hts⟩ (m2_lostOnes l D m0 a C n 0 sp (va_up lo (i + 1) on) ph pr bo mo rf gr hd st ch rs hn) (cwV 0 hts gX2_lost_X2_lostOnes rfl rfl rfl (by decide +kernel) ⟨Nat.le_of_ble_eq_true rfl, Nat.le_of_ble_eq_true rfl⟩) ⟨xP_blind, va_recv hK hP (ci := 2) (q0 := 0) rfl rfl, xP_at hP hK hN⟩ rfl rfl hl.1 rfl (lv_room (Nat.le_of_ble_eq_true rfl)) dX2_lost_23 ⟨Nat.le_of_ble_eq_true rfl, Nat.le_of_ble_eq_true rfl⟩) (fun r_4 hr_5 => ?_)
    subst hr_5
    exact W.iret (v := (cnt (va_up lo (i + 1) on) n)) hx hb hr (fun t ht hW => ⟨⟨_, (0, va_up lo (i + 1) on), rfl, ⟨by simp [wOut_in hn hi, wIx hn hi], by simp [wOut_in hn hi, wIx hn hi], by simp [wOut_in hn hi, wIx hn hi]⟩, xB_end hP hK hN hD ht hW⟩, hS.F ht⟩) hS.2.2 dX2_lost_26
set_option maxHeartbeats 4000000 in
set_option maxRecDepth 100000 in
/-- gear -/
theorem m2_gear (l : Launch) (D : va_G) (m0 : Nat) (a : Nat → Nat) (C : Nat → ClassId) (n : Nat) (th : Int32) (sp : Nat → Int64) (lo ph : Nat → Int32) (pr bo : Nat → Int64) (mo : Nat → UInt64) (rf : Int64) (gr hd st ch rs : Int32) (hn : n ≤ 8) (sz : Nat) : Met l yX2_gear wsX2_gear ({ frames := 1, cells := 0, slots := 0, locals := 22 }) (va_Pc [.ref m0] (xW D [(C 1, .long), (C 2, .boolean), (C 3, .int), (C 4, .long), (C 5, .long), (C 6, .double)] (mw m0 a C th (nI n) sp lo ph pr bo mo rf gr hd st ch rs) sz)) (va_Qi (fun (r : Int32) (u : (Int32)) => r = gr ∧ u = 0) (fun (u : (Int32)) => xB D [(C 1, .long), (C 2, .boolean), (C 3, .int), (C 4, .long), (C 5, .long), (C 6, .double)] (va_A (mw m0 a C th (nI n) sp lo ph pr bo mo rf gr hd st ch rs) sz) (mw m0 a C u (nI n) sp lo ph pr bo mo rf gr hd st ch rs)) (va_A (mw m0 a C th (nI n) sp lo ph pr bo mo rf gr hd st ch rs) sz)) 0 0 (va_A (mw m0 a C th (nI n) sp lo ph pr bo mo rf gr hd st ch rs) sz) := by
  refine Met.ofW (cc := cX2_gear) (maxL := 1) (ret := (some .int)) (by decide) rfl ?_
  intro p e s m args below meth c s₁ B hml hv
  obtain ⟨rfl, hsz, ⟨hP, hK, hN⟩, hDt⟩ := hv
  have hx := B.exec
  have hb := B.bytes
  have hr := B.returns
  have hts := atoms_spec (ws := wsX2_gear) B.pre
  have hown : s.vm.findClass RX2 = some m.cls := findClass_of_methodNamed B.named
  have hlocks := B.notSynchronized
  have hm1 : (.fieldLink RX2 40 "GearBrakeModel" "thrown" "I" : Cond) ∈ wsX2_gear := by decide +kernel
  have hm2 : (.fieldLink RX2 31 "GearBrakeModel" "gear" "I" : Cond) ∈ wsX2_gear := by decide +kernel
  subst hsz
  have hD := hDt.self (sz := s.heap.size)
  generalize hAe : va_A (mw m0 a C th (nI n) sp lo ph pr bo mo rf gr hd st ch rs) s.heap.size = A at hD ⊢
  have hA : ∀ q : Nat, s.heap.size ≤ q → A q := fun q h => by rw [← hAe]; exact Or.inr h
  have hS : va_S A s.heap s.heap [] := va_S.rf
  have hl := lv_entry ([.ref m0]) (n := 1) (Nat.le_of_ble_eq_true rfl)
  rw [lg_entry_eq]
  generalize (lg_sl ([.ref m0]) ++ List.replicate (1 - (lg_sl ([.ref m0])).length) Slot.unset).toArray = ls at hl ⊢
  replace hl : lv_has ls 1 [(0, .ref m0)] := hl
  refine lv_aload_n hx hb dX2_gear_0 rfl (lv_at hl 0 rfl) ?_
  refine lv_iconst (v := 0) hx hb dX2_gear_1 (by decide) ?_
  refine va_put (D := D) (ci := 2) (v := .int 0) (ty := .int) (C := RX2) (T := TX2) (N := 14) hx hb hts (by decide +kernel) tyX2 tyX2_ok nmX2 hown hK hP hD hS 0 rfl rfl 0 (by decide) (hts _ hm1) (fun _ h9 => h9) rfl (by decide +kernel) rfl rfl (Nat.le_of_ble_eq_true rfl) dX2_gear_2 (fun H locs hP hD hS => ?_)
  replace hP : va_P D vwCl (mw m0 a C 0 (nI n) sp lo ph pr bo mo rf gr hd st ch rs) H := hP
  replace hD : va_D A (mw m0 a C 0 (nI n) sp lo ph pr bo mo rf gr hd st ch rs) := hD
  refine lv_aload_n hx hb dX2_gear_5 rfl (lv_at hl 0 rfl) ?_
  refine va_get (D := D) (ci := 2) (v := .int gr) (C := RX2) (T := TX2) (N := 14) hx hb hts (by decide +kernel) hown hK hP 0 rfl rfl 9 (by decide) (hts _ hm2) (fun _ h9 => h9) rfl dX2_gear_6 ?_
  exact W.iret (v := gr) hx hb hr (fun t ht hW => ⟨⟨_, (0), rfl, ⟨by simp [], by simp []⟩, xB_end hP hK hN hD ht hW⟩, hS.F ht⟩) hS.2.2 dX2_gear_9
set_option maxHeartbeats 4000000 in
set_option maxRecDepth 100000 in
/-- reference -/
theorem m2_reference (l : Launch) (D : va_G) (m0 : Nat) (a : Nat → Nat) (C : Nat → ClassId) (n : Nat) (th : Int32) (sp : Nat → Int64) (lo ph : Nat → Int32) (pr bo : Nat → Int64) (mo : Nat → UInt64) (rf : Int64) (gr hd st ch rs : Int32) (hn : n ≤ 8) (sz : Nat) : Met l yX2_reference wsX2_reference ({ frames := 1, cells := 0, slots := 0, locals := 22 }) (va_Pc [.ref m0] (xW D [(C 1, .long), (C 2, .boolean), (C 3, .int), (C 4, .long), (C 5, .long), (C 6, .double)] (mw m0 a C th (nI n) sp lo ph pr bo mo rf gr hd st ch rs) sz)) (va_Ql (fun (r : Int64) (u : (Int32)) => r = rf ∧ u = 0) (fun (u : (Int32)) => xB D [(C 1, .long), (C 2, .boolean), (C 3, .int), (C 4, .long), (C 5, .long), (C 6, .double)] (va_A (mw m0 a C th (nI n) sp lo ph pr bo mo rf gr hd st ch rs) sz) (mw m0 a C u (nI n) sp lo ph pr bo mo rf gr hd st ch rs)) (va_A (mw m0 a C th (nI n) sp lo ph pr bo mo rf gr hd st ch rs) sz)) 0 0 (va_A (mw m0 a C th (nI n) sp lo ph pr bo mo rf gr hd st ch rs) sz) := by
  refine Met.ofW (cc := cX2_reference) (maxL := 1) (ret := (some .long)) (by decide) rfl ?_
  intro p e s m args below meth c s₁ B hml hv
  obtain ⟨rfl, hsz, ⟨hP, hK, hN⟩, hDt⟩ := hv
  have hx := B.exec
  have hb := B.bytes
  have hr := B.returns
  have hts := atoms_spec (ws := wsX2_reference) B.pre
  have hown : s.vm.findClass RX2 = some m.cls := findClass_of_methodNamed B.named
  have hlocks := B.notSynchronized
  have hm1 : (.fieldLink RX2 40 "GearBrakeModel" "thrown" "I" : Cond) ∈ wsX2_reference := by decide +kernel
  have hm2 : (.fieldLink RX2 53 "GearBrakeModel" "reference" "J" : Cond) ∈ wsX2_reference := by decide +kernel
  subst hsz
  have hD := hDt.self (sz := s.heap.size)
  generalize hAe : va_A (mw m0 a C th (nI n) sp lo ph pr bo mo rf gr hd st ch rs) s.heap.size = A at hD ⊢
  have hA : ∀ q : Nat, s.heap.size ≤ q → A q := fun q h => by rw [← hAe]; exact Or.inr h
  have hS : va_S A s.heap s.heap [] := va_S.rf
  have hl := lv_entry ([.ref m0]) (n := 1) (Nat.le_of_ble_eq_true rfl)
  rw [lg_entry_eq]
  generalize (lg_sl ([.ref m0]) ++ List.replicate (1 - (lg_sl ([.ref m0])).length) Slot.unset).toArray = ls at hl ⊢
  replace hl : lv_has ls 1 [(0, .ref m0)] := hl
  refine lv_aload_n hx hb dX2_reference_0 rfl (lv_at hl 0 rfl) ?_
  refine lv_iconst (v := 0) hx hb dX2_reference_1 (by decide) ?_
  refine va_put (D := D) (ci := 2) (v := .int 0) (ty := .int) (C := RX2) (T := TX2) (N := 14) hx hb hts (by decide +kernel) tyX2 tyX2_ok nmX2 hown hK hP hD hS 0 rfl rfl 0 (by decide) (hts _ hm1) (fun _ h9 => h9) rfl (by decide +kernel) rfl rfl (Nat.le_of_ble_eq_true rfl) dX2_reference_2 (fun H locs hP hD hS => ?_)
  replace hP : va_P D vwCl (mw m0 a C 0 (nI n) sp lo ph pr bo mo rf gr hd st ch rs) H := hP
  replace hD : va_D A (mw m0 a C 0 (nI n) sp lo ph pr bo mo rf gr hd st ch rs) := hD
  refine lv_aload_n hx hb dX2_reference_5 rfl (lv_at hl 0 rfl) ?_
  refine va_get (D := D) (ci := 2) (v := .long rf) (C := RX2) (T := TX2) (N := 14) hx hb hts (by decide +kernel) hown hK hP 0 rfl rfl 8 (by decide) (hts _ hm2) (fun _ h9 => h9) rfl dX2_reference_6 ?_
  exact W.lret (v := rf) hx hb hr (fun t ht hW => ⟨⟨_, (0), rfl, ⟨by simp [], by simp []⟩, xB_end hP hK hN hD ht hW⟩, hS.F ht⟩) hS.2.2 dX2_reference_9
set_option maxHeartbeats 4000000 in
set_option maxRecDepth 100000 in
/-- mode -/
theorem m2_mode (l : Launch) (D : va_G) (m0 : Nat) (a : Nat → Nat) (C : Nat → ClassId) (n : Nat) (th : Int32) (sp : Nat → Int64) (lo ph : Nat → Int32) (pr bo : Nat → Int64) (mo : Nat → UInt64) (rf : Int64) (gr hd st ch rs : Int32) (hn : n ≤ 8) (sz : Nat) : Met l yX2_mode wsX2_mode ({ frames := 1, cells := 0, slots := 0, locals := 22 }) (va_Pc [.ref m0] (xW D [(C 1, .long), (C 2, .boolean), (C 3, .int), (C 4, .long), (C 5, .long), (C 6, .double)] (mw m0 a C th (nI n) sp lo ph pr bo mo rf gr hd st ch rs) sz)) (va_Qi (fun (r : Int32) (u : (Int32)) => r = (if hd = 0 then (if cnt lo n ≤ 0 then 0 else 1) else 2) ∧ u = 0) (fun (u : (Int32)) => xB D [(C 1, .long), (C 2, .boolean), (C 3, .int), (C 4, .long), (C 5, .long), (C 6, .double)] (va_A (mw m0 a C th (nI n) sp lo ph pr bo mo rf gr hd st ch rs) sz) (mw m0 a C u (nI n) sp lo ph pr bo mo rf gr hd st ch rs)) (va_A (mw m0 a C th (nI n) sp lo ph pr bo mo rf gr hd st ch rs) sz)) 0 0 (va_A (mw m0 a C th (nI n) sp lo ph pr bo mo rf gr hd st ch rs) sz) := by
  refine Met.ofW (cc := cX2_mode) (maxL := 1) (ret := (some .int)) (by decide) rfl ?_
  intro p e s m args below meth c s₁ B hml hv
  obtain ⟨rfl, hsz, ⟨hP, hK, hN⟩, hDt⟩ := hv
  have hx := B.exec
  have hb := B.bytes
  have hr := B.returns
  have hts := atoms_spec (ws := wsX2_mode) B.pre
  have hown : s.vm.findClass RX2 = some m.cls := findClass_of_methodNamed B.named
  have hlocks := B.notSynchronized
  have hm1 : (.fieldLink RX2 40 "GearBrakeModel" "thrown" "I" : Cond) ∈ wsX2_mode := by decide +kernel
  have hm2 : (.fieldLink RX2 67 "GearBrakeModel" "holds" "Z" : Cond) ∈ wsX2_mode := by decide +kernel
  subst hsz
  have hD := hDt.self (sz := s.heap.size)
  generalize hAe : va_A (mw m0 a C th (nI n) sp lo ph pr bo mo rf gr hd st ch rs) s.heap.size = A at hD ⊢
  have hA : ∀ q : Nat, s.heap.size ≤ q → A q := fun q h => by rw [← hAe]; exact Or.inr h
  have hS : va_S A s.heap s.heap [] := va_S.rf
  have hl := lv_entry ([.ref m0]) (n := 1) (Nat.le_of_ble_eq_true rfl)
  rw [lg_entry_eq]
  generalize (lg_sl ([.ref m0]) ++ List.replicate (1 - (lg_sl ([.ref m0])).length) Slot.unset).toArray = ls at hl ⊢
  replace hl : lv_has ls 1 [(0, .ref m0)] := hl
  refine lv_aload_n hx hb dX2_mode_0 rfl (lv_at hl 0 rfl) ?_
  refine lv_iconst (v := 0) hx hb dX2_mode_1 (by decide) ?_
  refine va_put (D := D) (ci := 2) (v := .int 0) (ty := .int) (C := RX2) (T := TX2) (N := 14) hx hb hts (by decide +kernel) tyX2 tyX2_ok nmX2 hown hK hP hD hS 0 rfl rfl 0 (by decide) (hts _ hm1) (fun _ h9 => h9) rfl (by decide +kernel) rfl rfl (Nat.le_of_ble_eq_true rfl) dX2_mode_2 (fun H locs hP hD hS => ?_)
  replace hP : va_P D vwCl (mw m0 a C 0 (nI n) sp lo ph pr bo mo rf gr hd st ch rs) H := hP
  replace hD : va_D A (mw m0 a C 0 (nI n) sp lo ph pr bo mo rf gr hd st ch rs) := hD
  refine lv_aload_n hx hb dX2_mode_5 rfl (lv_at hl 0 rfl) ?_
  refine va_get (D := D) (ci := 2) (v := .int hd) (C := RX2) (T := TX2) (N := 14) hx hb hts (by decide +kernel) hown hK hP 0 rfl rfl 10 (by decide) (hts _ hm2) (fun _ h9 => h9) rfl dX2_mode_6 ?_
  refine lv_if_eq (tgt := 16) hx hb dX2_mode_9 (by decide) (fun c_1 => ?_) (fun c_1 => ?_)
  · skip
    refine lv_aload_n hx hb dX2_mode_16 rfl (lv_at hl 0 rfl) ?_
    refine vp_callSi (W.runV (As := []) (rest := []) ⟨hx, hb, hml, hown, hts⟩ (m2_lostOnes l D m0 a C n 0 sp lo ph pr bo mo rf gr hd st ch rs hn) (cwV 0 hts gX2_mode_X2_lostOnes rfl rfl rfl (by decide +kernel) ⟨Nat.le_of_ble_eq_true rfl, Nat.le_of_ble_eq_true rfl⟩) ⟨xP_blind, va_recv hK hP (ci := 2) (q0 := 0) rfl rfl, xP_at hP hK hN⟩ rfl rfl hl.1 rfl (lv_room (Nat.le_of_ble_eq_true rfl)) dX2_mode_17 ⟨Nat.le_of_ble_eq_true rfl, Nat.le_of_ble_eq_true rfl⟩) (fun r_2 hr_3 => ?_)
    subst hr_3
    refine lv_if_le (tgt := 27) hx hb dX2_mode_20 (by decide) (fun c_4 => ?_) (fun c_4 => ?_)
    · skip
      refine lv_iconst (v := 0) hx hb dX2_mode_27 (by decide) ?_
      exact W.iret (v := 0) hx hb hr (fun t ht hW => ⟨⟨_, (0), rfl, ⟨by simp [c_1, c_4], by simp [c_1, c_4]⟩, xB_end hP hK hN hD ht hW⟩, hS.F ht⟩) hS.2.2 dX2_mode_28
    · skip
      refine lv_iconst (v := 1) hx hb dX2_mode_23 (by decide) ?_
      refine lv_goto (tgt := 28) hx hb dX2_mode_24 (by decide) ?_
      exact W.iret (v := 1) hx hb hr (fun t ht hW => ⟨⟨_, (0), rfl, ⟨by simp [c_1, c_4], by simp [c_1, c_4]⟩, xB_end hP hK hN hD ht hW⟩, hS.F ht⟩) hS.2.2 dX2_mode_28
  · skip
    refine lv_iconst (v := 2) hx hb dX2_mode_12 (by decide) ?_
    refine lv_goto (tgt := 28) hx hb dX2_mode_13 (by decide) ?_
    exact W.iret (v := 2) hx hb hr (fun t ht hW => ⟨⟨_, (0), rfl, ⟨by simp [c_1], by simp [c_1]⟩, xB_end hP hK hN hD ht hW⟩, hS.F ht⟩) hS.2.2 dX2_mode_28
set_option maxHeartbeats 4000000 in
set_option maxRecDepth 100000 in
/-- hold -/
theorem m2_hold (l : Launch) (D : va_G) (m0 : Nat) (a : Nat → Nat) (C : Nat → ClassId) (n : Nat) (th : Int32) (sp : Nat → Int64) (lo ph : Nat → Int32) (pr bo : Nat → Int64) (mo : Nat → UInt64) (rf : Int64) (gr hd st ch rs : Int32) (hn : n ≤ 8) (on : Int32) (sz : Nat) : Met l yX2_hold wsX2_hold ({ frames := 1, cells := 0, slots := 0, locals := 22 }) (va_Pc [.ref m0, .int on] (xW D [(C 1, .long), (C 2, .boolean), (C 3, .int), (C 4, .long), (C 5, .long), (C 6, .double)] (mw m0 a C th (nI n) sp lo ph pr bo mo rf gr hd st ch rs) sz)) (va_Qi (fun (r : Int32) (u : (Int32) × (Int32)) => r = sHold on hd rf ∧ u.1 = 0 ∧ u.2 = sHold on hd rf) (fun (u : (Int32) × (Int32)) => xB D [(C 1, .long), (C 2, .boolean), (C 3, .int), (C 4, .long), (C 5, .long), (C 6, .double)] (va_A (mw m0 a C th (nI n) sp lo ph pr bo mo rf gr hd st ch rs) sz) (mw m0 a C u.1 (nI n) sp lo ph pr bo mo rf gr u.2 st ch rs)) (va_A (mw m0 a C th (nI n) sp lo ph pr bo mo rf gr hd st ch rs) sz)) 0 0 (va_A (mw m0 a C th (nI n) sp lo ph pr bo mo rf gr hd st ch rs) sz) := by
  refine Met.ofW (cc := cX2_hold) (maxL := 2) (ret := (some .int)) (by decide) rfl ?_
  intro p e s m args below meth c s₁ B hml hv
  obtain ⟨rfl, hsz, ⟨hP, hK, hN⟩, hDt⟩ := hv
  have hx := B.exec
  have hb := B.bytes
  have hr := B.returns
  have hts := atoms_spec (ws := wsX2_hold) B.pre
  have hown : s.vm.findClass RX2 = some m.cls := findClass_of_methodNamed B.named
  have hlocks := B.notSynchronized
  have hm1 : (.fieldLink RX2 40 "GearBrakeModel" "thrown" "I" : Cond) ∈ wsX2_hold := by decide +kernel
  have hm2 : (.fieldLink RX2 67 "GearBrakeModel" "holds" "Z" : Cond) ∈ wsX2_hold := by decide +kernel
  have hm3 : (.fieldLink RX2 53 "GearBrakeModel" "reference" "J" : Cond) ∈ wsX2_hold := by decide +kernel
  subst hsz
  have hD := hDt.self (sz := s.heap.size)
  generalize hAe : va_A (mw m0 a C th (nI n) sp lo ph pr bo mo rf gr hd st ch rs) s.heap.size = A at hD ⊢
  have hA : ∀ q : Nat, s.heap.size ≤ q → A q := fun q h => by rw [← hAe]; exact Or.inr h
  have hS : va_S A s.heap s.heap [] := va_S.rf
  have hl := lv_entry ([.ref m0, .int on]) (n := 2) (Nat.le_of_ble_eq_true rfl)
  rw [lg_entry_eq]
  generalize (lg_sl ([.ref m0, .int on]) ++ List.replicate (2 - (lg_sl ([.ref m0, .int on])).length) Slot.unset).toArray = ls at hl ⊢
  replace hl : lv_has ls 2 [(0, .ref m0), (1, .int on)] := hl
  refine lv_aload_n hx hb dX2_hold_0 rfl (lv_at hl 0 rfl) ?_
  refine lv_iconst (v := 0) hx hb dX2_hold_1 (by decide) ?_
  refine va_put (D := D) (ci := 2) (v := .int 0) (ty := .int) (C := RX2) (T := TX2) (N := 14) hx hb hts (by decide +kernel) tyX2 tyX2_ok nmX2 hown hK hP hD hS 0 rfl rfl 0 (by decide) (hts _ hm1) (fun _ h9 => h9) rfl (by decide +kernel) rfl rfl (Nat.le_of_ble_eq_true rfl) dX2_hold_2 (fun H locs hP hD hS => ?_)
  replace hP : va_P D vwCl (mw m0 a C 0 (nI n) sp lo ph pr bo mo rf gr hd st ch rs) H := hP
  replace hD : va_D A (mw m0 a C 0 (nI n) sp lo ph pr bo mo rf gr hd st ch rs) := hD
  refine lv_aload_n hx hb dX2_hold_5 rfl (lv_at hl 0 rfl) ?_
  refine lv_iload_n hx hb dX2_hold_6 rfl (lv_at hl 1 rfl) ?_
  refine lv_if_eq (tgt := 30) hx hb dX2_hold_7 (by decide) (fun c_1 => ?_) (fun c_1 => ?_)
  · skip
    refine lv_iconst (v := 0) hx hb dX2_hold_30 (by decide) ?_
    refine va_put (D := D) (ci := 2) (v := .int 0) (ty := .boolean) (C := RX2) (T := TX2) (N := 14) hx hb hts (by decide +kernel) tyX2 tyX2_ok nmX2 hown hK hP hD hS 0 rfl rfl 10 (by decide) (hts _ hm2) (fun _ h9 => h9) rfl (by decide +kernel) rfl rfl (Nat.le_of_ble_eq_true rfl) dX2_hold_31 (fun H locs hP hD hS => ?_)
    replace hP : va_P D vwCl (mw m0 a C 0 (nI n) sp lo ph pr bo mo rf gr 0 st ch rs) H := hP
    replace hD : va_D A (mw m0 a C 0 (nI n) sp lo ph pr bo mo rf gr 0 st ch rs) := hD
    refine lv_aload_n hx hb dX2_hold_34 rfl (lv_at hl 0 rfl) ?_
    refine va_get (D := D) (ci := 2) (v := .int 0) (C := RX2) (T := TX2) (N := 14) hx hb hts (by decide +kernel) hown hK hP 0 rfl rfl 10 (by decide) (hts _ hm2) (fun _ h9 => h9) rfl dX2_hold_35 ?_
    refine lv_if_eq (tgt := 45) hx hb dX2_hold_38 (by decide) (fun c_2 => ?_) (fun c_2 => absurd (by decide) c_2)
    refine lv_iconst (v := 0) hx hb dX2_hold_45 (by decide) ?_
    exact W.iret (v := 0) hx hb hr (fun t ht hW => ⟨⟨_, (0, 0), rfl, ⟨by simp [sHold, c_1], by simp [sHold, c_1], by simp [sHold, c_1]⟩, xB_end hP hK hN hD ht hW⟩, hS.F ht⟩) hS.2.2 dX2_hold_46
  · skip
    refine lv_aload_n hx hb dX2_hold_10 rfl (lv_at hl 0 rfl) ?_
    refine va_get (D := D) (ci := 2) (v := .int hd) (C := RX2) (T := TX2) (N := 14) hx hb hts (by decide +kernel) hown hK hP 0 rfl rfl 10 (by decide) (hts _ hm2) (fun _ h9 => h9) rfl dX2_hold_11 ?_
    refine lv_if_ne (tgt := 26) hx hb dX2_hold_14 (by decide) (fun c_3 => ?_) (fun c_3 => ?_)
    · skip
      refine lv_iconst (v := 1) hx hb dX2_hold_26 (by decide) ?_
      refine lv_goto (tgt := 31) hx hb dX2_hold_27 (by decide) ?_
      refine va_put (D := D) (ci := 2) (v := .int 1) (ty := .boolean) (C := RX2) (T := TX2) (N := 14) hx hb hts (by decide +kernel) tyX2 tyX2_ok nmX2 hown hK hP hD hS 0 rfl rfl 10 (by decide) (hts _ hm2) (fun _ h9 => h9) rfl (by decide +kernel) rfl rfl (Nat.le_of_ble_eq_true rfl) dX2_hold_31 (fun H locs hP hD hS => ?_)
      replace hP : va_P D vwCl (mw m0 a C 0 (nI n) sp lo ph pr bo mo rf gr 1 st ch rs) H := hP
      replace hD : va_D A (mw m0 a C 0 (nI n) sp lo ph pr bo mo rf gr 1 st ch rs) := hD
      refine lv_aload_n hx hb dX2_hold_34 rfl (lv_at hl 0 rfl) ?_
      refine va_get (D := D) (ci := 2) (v := .int 1) (C := RX2) (T := TX2) (N := 14) hx hb hts (by decide +kernel) hown hK hP 0 rfl rfl 10 (by decide) (hts _ hm2) (fun _ h9 => h9) rfl dX2_hold_35 ?_
      refine lv_if_eq (tgt := 45) hx hb dX2_hold_38 (by decide) (fun c_4 => absurd c_4 (by decide)) (fun c_4 => ?_)
      refine lv_iconst (v := 1) hx hb dX2_hold_41 (by decide) ?_
      refine lv_goto (tgt := 46) hx hb dX2_hold_42 (by decide) ?_
      exact W.iret (v := 1) hx hb hr (fun t ht hW => ⟨⟨_, (0, 1), rfl, ⟨by simp [sHold, c_1, c_3], by simp [sHold, c_1, c_3], by simp [sHold, c_1, c_3]⟩, xB_end hP hK hN hD ht hW⟩, hS.F ht⟩) hS.2.2 dX2_hold_46
    · skip
      refine lv_aload_n hx hb dX2_hold_17 rfl (lv_at hl 0 rfl) ?_
      refine va_get (D := D) (ci := 2) (v := .long rf) (C := RX2) (T := TX2) (N := 14) hx hb hts (by decide +kernel) hown hK hP 0 rfl rfl 8 (by decide) (hts _ hm3) (fun _ h9 => h9) rfl dX2_hold_18 ?_
      refine lv_lconst (v := 0) hx hb dX2_hold_21 (by decide) ?_
      refine W.lcmp hx hb dX2_hold_22 ?_
      refine lv_if_ne (tgt := 30) hx hb dX2_hold_23 (by decide) (fun c_5 => ?_) (fun c_5 => ?_)
      · skip
        replace c_5 := mt (lg_cmp_eq _ _).mpr c_5
        refine lv_iconst (v := 0) hx hb dX2_hold_30 (by decide) ?_
        refine va_put (D := D) (ci := 2) (v := .int 0) (ty := .boolean) (C := RX2) (T := TX2) (N := 14) hx hb hts (by decide +kernel) tyX2 tyX2_ok nmX2 hown hK hP hD hS 0 rfl rfl 10 (by decide) (hts _ hm2) (fun _ h9 => h9) rfl (by decide +kernel) rfl rfl (Nat.le_of_ble_eq_true rfl) dX2_hold_31 (fun H locs hP hD hS => ?_)
        replace hP : va_P D vwCl (mw m0 a C 0 (nI n) sp lo ph pr bo mo rf gr 0 st ch rs) H := hP
        replace hD : va_D A (mw m0 a C 0 (nI n) sp lo ph pr bo mo rf gr 0 st ch rs) := hD
        refine lv_aload_n hx hb dX2_hold_34 rfl (lv_at hl 0 rfl) ?_
        refine va_get (D := D) (ci := 2) (v := .int 0) (C := RX2) (T := TX2) (N := 14) hx hb hts (by decide +kernel) hown hK hP 0 rfl rfl 10 (by decide) (hts _ hm2) (fun _ h9 => h9) rfl dX2_hold_35 ?_
        refine lv_if_eq (tgt := 45) hx hb dX2_hold_38 (by decide) (fun c_6 => ?_) (fun c_6 => absurd (by decide) c_6)
        refine lv_iconst (v := 0) hx hb dX2_hold_45 (by decide) ?_
        exact W.iret (v := 0) hx hb hr (fun t ht hW => ⟨⟨_, (0, 0), rfl, ⟨by simp [sHold, c_1, c_3, c_5], by simp [sHold, c_1, c_3, c_5], by simp [sHold, c_1, c_3, c_5]⟩, xB_end hP hK hN hD ht hW⟩, hS.F ht⟩) hS.2.2 dX2_hold_46
      · skip
        replace c_5 := (lg_cmp_eq _ _).mp c_5
        refine lv_iconst (v := 1) hx hb dX2_hold_26 (by decide) ?_
        refine lv_goto (tgt := 31) hx hb dX2_hold_27 (by decide) ?_
        refine va_put (D := D) (ci := 2) (v := .int 1) (ty := .boolean) (C := RX2) (T := TX2) (N := 14) hx hb hts (by decide +kernel) tyX2 tyX2_ok nmX2 hown hK hP hD hS 0 rfl rfl 10 (by decide) (hts _ hm2) (fun _ h9 => h9) rfl (by decide +kernel) rfl rfl (Nat.le_of_ble_eq_true rfl) dX2_hold_31 (fun H locs hP hD hS => ?_)
        replace hP : va_P D vwCl (mw m0 a C 0 (nI n) sp lo ph pr bo mo rf gr 1 st ch rs) H := hP
        replace hD : va_D A (mw m0 a C 0 (nI n) sp lo ph pr bo mo rf gr 1 st ch rs) := hD
        refine lv_aload_n hx hb dX2_hold_34 rfl (lv_at hl 0 rfl) ?_
        refine va_get (D := D) (ci := 2) (v := .int 1) (C := RX2) (T := TX2) (N := 14) hx hb hts (by decide +kernel) hown hK hP 0 rfl rfl 10 (by decide) (hts _ hm2) (fun _ h9 => h9) rfl dX2_hold_35 ?_
        refine lv_if_eq (tgt := 45) hx hb dX2_hold_38 (by decide) (fun c_7 => absurd c_7 (by decide)) (fun c_7 => ?_)
        refine lv_iconst (v := 1) hx hb dX2_hold_41 (by decide) ?_
        refine lv_goto (tgt := 46) hx hb dX2_hold_42 (by decide) ?_
        exact W.iret (v := 1) hx hb hr (fun t ht hW => ⟨⟨_, (0, 1), rfl, ⟨by simp [sHold, c_1, c_3, c_5], by simp [sHold, c_1, c_3, c_5], by simp [sHold, c_1, c_3, c_5]⟩, xB_end hP hK hN hD ht hW⟩, hS.F ht⟩) hS.2.2 dX2_hold_46
set_option maxHeartbeats 4000000 in
set_option maxRecDepth 100000 in
/-- wish -/
theorem m2_wish (l : Launch) (D : va_G) (m0 : Nat) (a : Nat → Nat) (C : Nat → ClassId) (n : Nat) (th : Int32) (sp : Nat → Int64) (lo ph : Nat → Int32) (pr bo : Nat → Int64) (mo : Nat → UInt64) (rf : Int64) (gr hd st ch rs : Int32) (hn : n ≤ 8) (gw : Int32) (sz : Nat) : Met l yX2_wish wsX2_wish ({ frames := 1, cells := 0, slots := 0, locals := 22 }) (va_Pc [.ref m0, .int gw] (xW D [(C 1, .long), (C 2, .boolean), (C 3, .int), (C 4, .long), (C 5, .long), (C 6, .double)] (mw m0 a C th (nI n) sp lo ph pr bo mo rf gr hd st ch rs) sz)) (va_Qi (fun (r : Int32) (u : (Int32) × (Int32) × (Int32) × (Int32)) => r = sWish gw rf ∧ u.1 = 0 ∧ u.2.1 = (if sWish gw rf = 1 then gw else gr) ∧ u.2.2.1 = (if sWish gw rf = 1 then st else ch) ∧ u.2.2.2 = (if sWish gw rf = 1 then 10 else rs)) (fun (u : (Int32) × (Int32) × (Int32) × (Int32)) => xB D [(C 1, .long), (C 2, .boolean), (C 3, .int), (C 4, .long), (C 5, .long), (C 6, .double)] (va_A (mw m0 a C th (nI n) sp lo ph pr bo mo rf gr hd st ch rs) sz) (mw m0 a C u.1 (nI n) sp lo ph pr bo mo rf u.2.1 hd st u.2.2.1 u.2.2.2)) (va_A (mw m0 a C th (nI n) sp lo ph pr bo mo rf gr hd st ch rs) sz)) 0 0 (va_A (mw m0 a C th (nI n) sp lo ph pr bo mo rf gr hd st ch rs) sz) := by
  refine Met.ofW (cc := cX2_wish) (maxL := 2) (ret := (some .int)) (by decide) rfl ?_
  intro p e s m args below meth c s₁ B hml hv
  obtain ⟨rfl, hsz, ⟨hP, hK, hN⟩, hDt⟩ := hv
  have hx := B.exec
  have hb := B.bytes
  have hr := B.returns
  have hts := atoms_spec (ws := wsX2_wish) B.pre
  have hown : s.vm.findClass RX2 = some m.cls := findClass_of_methodNamed B.named
  have hlocks := B.notSynchronized
  have hm1 : (.fieldLink RX2 40 "GearBrakeModel" "thrown" "I" : Cond) ∈ wsX2_wish := by decide +kernel
  have hm2 : (.fieldLink RX2 53 "GearBrakeModel" "reference" "J" : Cond) ∈ wsX2_wish := by decide +kernel
  have hm3 : (.constantLong RX2 94 (20) : Cond) ∈ wsX2_wish := by decide +kernel
  have hm4 : (.constantLong RX2 63 (10) : Cond) ∈ wsX2_wish := by decide +kernel
  have hm5 : (.constantLong RX2 71 (30) : Cond) ∈ wsX2_wish := by decide +kernel
  subst hsz
  have hD := hDt.self (sz := s.heap.size)
  generalize hAe : va_A (mw m0 a C th (nI n) sp lo ph pr bo mo rf gr hd st ch rs) s.heap.size = A at hD ⊢
  have hA : ∀ q : Nat, s.heap.size ≤ q → A q := fun q h => by rw [← hAe]; exact Or.inr h
  have hS : va_S A s.heap s.heap [] := va_S.rf
  have hl := lv_entry ([.ref m0, .int gw]) (n := 2) (Nat.le_of_ble_eq_true rfl)
  rw [lg_entry_eq]
  generalize (lg_sl ([.ref m0, .int gw]) ++ List.replicate (2 - (lg_sl ([.ref m0, .int gw])).length) Slot.unset).toArray = ls at hl ⊢
  replace hl : lv_has ls 2 [(0, .ref m0), (1, .int gw)] := hl
  refine lv_aload_n hx hb dX2_wish_0 rfl (lv_at hl 0 rfl) ?_
  refine lv_iconst (v := 0) hx hb dX2_wish_1 (by decide) ?_
  refine va_put (D := D) (ci := 2) (v := .int 0) (ty := .int) (C := RX2) (T := TX2) (N := 14) hx hb hts (by decide +kernel) tyX2 tyX2_ok nmX2 hown hK hP hD hS 0 rfl rfl 0 (by decide) (hts _ hm1) (fun _ h9 => h9) rfl (by decide +kernel) rfl rfl (Nat.le_of_ble_eq_true rfl) dX2_wish_2 (fun H locs hP hD hS => ?_)
  replace hP : va_P D vwCl (mw m0 a C 0 (nI n) sp lo ph pr bo mo rf gr hd st ch rs) H := hP
  replace hD : va_D A (mw m0 a C 0 (nI n) sp lo ph pr bo mo rf gr hd st ch rs) := hD
  refine lv_iload_n hx hb dX2_wish_5 rfl (lv_at hl 1 rfl) ?_
  refine lv_iconst (v := 1) hx hb dX2_wish_6 (by decide) ?_
  refine lv_icmp_lt (tgt := 16) hx hb dX2_wish_7 (by decide) (fun c_1 => ?_) (fun c_1 => ?_)
  · skip
    refine lv_bipush (v := (-2)) hx hb dX2_wish_16 (by decide) ?_
    exact W.iret (v := (-2)) hx hb hr (fun t ht hW => ⟨⟨_, (0, gr, ch, rs), rfl, ⟨by simp [sWish, c_1], by simp [sWish, c_1], by simp [sWish, c_1], by simp [sWish, c_1], by simp [sWish, c_1]⟩, xB_end hP hK hN hD ht hW⟩, hS.F ht⟩) hS.2.2 dX2_wish_18
  · skip
    refine lv_iload_n hx hb dX2_wish_10 rfl (lv_at hl 1 rfl) ?_
    refine lv_bipush (v := 6) hx hb dX2_wish_11 (by decide) ?_
    refine lv_icmp_le (tgt := 19) hx hb dX2_wish_13 (by decide) (fun c_2 => ?_) (fun c_2 => ?_)
    · skip
      replace c_2 := i32_nlt c_2
      refine lv_aload_n hx hb dX2_wish_19 rfl (lv_at hl 0 rfl) ?_
      refine va_get (D := D) (ci := 2) (v := .long rf) (C := RX2) (T := TX2) (N := 14) hx hb hts (by decide +kernel) hown hK hP 0 rfl rfl 8 (by decide) (hts _ hm2) (fun _ h9 => h9) rfl dX2_wish_20 ?_
      refine lv_ldc2 hx hb hown (hts _ hm3) dX2_wish_23 ?_
      refine lv_iload_n hx hb dX2_wish_26 rfl (lv_at hl 1 rfl) ?_
      refine lv_iconst (v := 1) hx hb dX2_wish_27 (by decide) ?_
      refine lv_isub hx hb dX2_wish_28 ?_
      refine lv_i2l hx hb dX2_wish_29 rfl ?_
      refine lv_lmul hx hb dX2_wish_30 ?_
      refine lv_ldc2 hx hb hown (hts _ hm4) dX2_wish_31 ?_
      refine lv_lsub hx hb dX2_wish_34 ?_
      refine W.lcmp hx hb dX2_wish_35 ?_
      refine lv_if_lt (tgt := 57) hx hb dX2_wish_36 (by decide) (fun c_3 => ?_) (fun c_3 => ?_)
      · skip
        replace c_3 := (lg_cmp_lt _ _).mp c_3
        refine lv_iconst (v := 0) hx hb dX2_wish_57 (by decide) ?_
        exact W.iret (v := 0) hx hb hr (fun t ht hW => ⟨⟨_, (0, gr, ch, rs), rfl, ⟨by simp [sWish, c_1, c_2, c_3], by simp [sWish, c_1, c_2, c_3], by simp [sWish, c_1, c_2, c_3], by simp [sWish, c_1, c_2, c_3], by simp [sWish, c_1, c_2, c_3]⟩, xB_end hP hK hN hD ht hW⟩, hS.F ht⟩) hS.2.2 dX2_wish_58
      · skip
        replace c_3 := mt (lg_cmp_lt _ _).mpr c_3
        refine lv_aload_n hx hb dX2_wish_39 rfl (lv_at hl 0 rfl) ?_
        refine va_get (D := D) (ci := 2) (v := .long rf) (C := RX2) (T := TX2) (N := 14) hx hb hts (by decide +kernel) hown hK hP 0 rfl rfl 8 (by decide) (hts _ hm2) (fun _ h9 => h9) rfl dX2_wish_40 ?_
        refine lv_ldc2 hx hb hown (hts _ hm3) dX2_wish_43 ?_
        refine lv_iload_n hx hb dX2_wish_46 rfl (lv_at hl 1 rfl) ?_
        refine lv_i2l hx hb dX2_wish_47 rfl ?_
        refine lv_lmul hx hb dX2_wish_48 ?_
        refine lv_ldc2 hx hb hown (hts _ hm5) dX2_wish_49 ?_
        refine lv_ladd hx hb dX2_wish_52 ?_
        refine W.lcmp hx hb dX2_wish_53 ?_
        refine lv_if_le (tgt := 59) hx hb dX2_wish_54 (by decide) (fun c_4 => ?_) (fun c_4 => ?_)
        · skip
          replace c_4 := (lg_cmp_le _ _).mp c_4
          replace c_4 := i64_nlt c_4
          refine lv_aload_n hx hb dX2_wish_59 rfl (lv_at hl 0 rfl) ?_
          refine lv_iload_n hx hb dX2_wish_60 rfl (lv_at hl 1 rfl) ?_
          refine lv_bipush (v := 10) hx hb dX2_wish_61 (by decide) ?_
          have hF := xF hD hS hA
          refine va_callv (va_runV (As := [.int gw, .int 10]) (rest := []) ⟨hx, hb, hml, hown, hts⟩ (m2_turn l D m0 a C n 0 sp lo ph pr bo mo rf gr hd st ch rs hn gw 10 _) (cwV 2 hts gX2_wish_X2_turn rfl rfl rfl (by decide +kernel) ⟨Nat.le_of_ble_eq_true rfl, Nat.le_of_ble_eq_true rfl⟩) ⟨xW_blind, va_recv hK hP (ci := 2) (q0 := 0) rfl rfl, xW_at hP hK hN hD⟩ rfl rfl hl.1 rfl (lv_room (Nat.le_of_ble_eq_true rfl)) dX2_wish_63 ⟨Nat.le_of_ble_eq_true rfl, Nat.le_of_ble_eq_true rfl⟩) hS (fun q _ h => hF q h) hF (fun u t H locs ht hvm hpo hB hz1 hk1 hS => ?_)
          obtain ⟨hP, hD⟩ := xB_use hB ht hF
          obtain ⟨u1, u2, u3⟩ := u
          dsimp only at hpo hP hD
          rw [hpo.1, hpo.2.1, hpo.2.2] at hP hD
          clear hB hk1 hz1 ht hvm
          replace hP : va_P D vwCl (mw m0 a C 0 (nI n) sp lo ph pr bo mo rf gw hd st st 10) H := hP
          replace hD : va_D A (mw m0 a C 0 (nI n) sp lo ph pr bo mo rf gw hd st st 10) := hD
          refine lv_iconst (v := 1) hx hb dX2_wish_66 (by decide) ?_
          exact W.iret (v := 1) hx hb hr (fun t ht hW => ⟨⟨_, (0, gw, st, 10), rfl, ⟨by simp [sWish, c_1, c_2, c_3, c_4], by simp [sWish, c_1, c_2, c_3, c_4], by simp [sWish, c_1, c_2, c_3, c_4], by simp [sWish, c_1, c_2, c_3, c_4], by simp [sWish, c_1, c_2, c_3, c_4]⟩, xB_end hP hK hN hD ht hW⟩, hS.F ht⟩) hS.2.2 dX2_wish_67
        · skip
          replace c_4 := mt (lg_cmp_le _ _).mpr c_4
          replace c_4 := i64_lt c_4
          refine lv_iconst (v := 0) hx hb dX2_wish_57 (by decide) ?_
          exact W.iret (v := 0) hx hb hr (fun t ht hW => ⟨⟨_, (0, gr, ch, rs), rfl, ⟨by simp [sWish, c_1, c_2, c_3, c_4], by simp [sWish, c_1, c_2, c_3, c_4], by simp [sWish, c_1, c_2, c_3, c_4], by simp [sWish, c_1, c_2, c_3, c_4], by simp [sWish, c_1, c_2, c_3, c_4]⟩, xB_end hP hK hN hD ht hW⟩, hS.F ht⟩) hS.2.2 dX2_wish_58
    · skip
      replace c_2 := i32_lt c_2
      refine lv_bipush (v := (-2)) hx hb dX2_wish_16 (by decide) ?_
      exact W.iret (v := (-2)) hx hb hr (fun t ht hW => ⟨⟨_, (0, gr, ch, rs), rfl, ⟨by simp [sWish, c_1, c_2], by simp [sWish, c_1, c_2], by simp [sWish, c_1, c_2], by simp [sWish, c_1, c_2], by simp [sWish, c_1, c_2]⟩, xB_end hP hK hN hD ht hW⟩, hS.F ht⟩) hS.2.2 dX2_wish_18
set_option maxHeartbeats 4000000 in
set_option maxRecDepth 100000 in
/-- yaw -/
theorem m2_yaw (l : Launch) (D : va_G) (m0 : Nat) (a : Nat → Nat) (C : Nat → ClassId) (n : Nat) (th : Int32) (sp : Nat → Int64) (lo ph : Nat → Int32) (pr bo : Nat → Int64) (mo : Nat → UInt64) (rf : Int64) (gr hd st ch rs : Int32) (hn : n ≤ 8) (a1 b1 : Int64) (sz : Nat) : Met l yX2_yaw wsX2_yaw ({ frames := 1, cells := 0, slots := 0, locals := 22 }) (va_Pc [.ref m0, .long a1, .long b1] (xW D [(C 1, .long), (C 2, .boolean), (C 3, .int), (C 4, .long), (C 5, .long), (C 6, .double)] (mw m0 a C th (nI n) sp lo ph pr bo mo rf gr hd st ch rs) sz)) (va_Qi (fun (r : Int32) (u : (Int32) × (Nat → Int64)) => r = sYaw a1 b1 (mApart a1 b1) (cnt lo n) ∧ u.1 = 0 ∧ u.2 = gYaw mMin a1 b1 (mApart a1 b1) (cnt lo n) pr bo) (fun (u : (Int32) × (Nat → Int64)) => xB D [(C 1, .long), (C 2, .boolean), (C 3, .int), (C 4, .long), (C 5, .long), (C 6, .double)] (va_A (mw m0 a C th (nI n) sp lo ph pr bo mo rf gr hd st ch rs) sz) (mw m0 a C u.1 (nI n) sp lo ph u.2 bo mo rf gr hd st ch rs)) (va_A (mw m0 a C th (nI n) sp lo ph pr bo mo rf gr hd st ch rs) sz)) 0 0 (va_A (mw m0 a C th (nI n) sp lo ph pr bo mo rf gr hd st ch rs) sz) := by
  refine Met.ofW (cc := cX2_yaw) (maxL := 8) (ret := (some .int)) (by decide) rfl ?_
  intro p e s m args below meth c s₁ B hml hv
  obtain ⟨rfl, hsz, ⟨hP, hK, hN⟩, hDt⟩ := hv
  have hx := B.exec
  have hb := B.bytes
  have hr := B.returns
  have hts := atoms_spec (ws := wsX2_yaw) B.pre
  have hown : s.vm.findClass RX2 = some m.cls := findClass_of_methodNamed B.named
  have hlocks := B.notSynchronized
  have hm1 : (.fieldLink RX2 40 "GearBrakeModel" "thrown" "I" : Cond) ∈ wsX2_yaw := by decide +kernel
  have hm2 : (.constantLong RX2 108 (-1000) : Cond) ∈ wsX2_yaw := by decide +kernel
  have hm3 : (.constantLong RX2 47 (1000) : Cond) ∈ wsX2_yaw := by decide +kernel
  have hm4 : (.constantLong RX2 94 (20) : Cond) ∈ wsX2_yaw := by decide +kernel
  have hm5 : (.fieldLink RX2 21 "GearBrakeModel" "pressures" "[J" : Cond) ∈ wsX2_yaw := by decide +kernel
  have hm6 : (.fieldLink RX2 24 "GearBrakeModel" "bounds" "[J" : Cond) ∈ wsX2_yaw := by decide +kernel
  subst hsz
  have hD := hDt.self (sz := s.heap.size)
  generalize hAe : va_A (mw m0 a C th (nI n) sp lo ph pr bo mo rf gr hd st ch rs) s.heap.size = A at hD ⊢
  have hA : ∀ q : Nat, s.heap.size ≤ q → A q := fun q h => by rw [← hAe]; exact Or.inr h
  have hS : va_S A s.heap s.heap [] := va_S.rf
  have hl := lv_entry ([.ref m0, .long a1, .long b1]) (n := 8) (Nat.le_of_ble_eq_true rfl)
  rw [lg_entry_eq]
  generalize (lg_sl ([.ref m0, .long a1, .long b1]) ++ List.replicate (8 - (lg_sl ([.ref m0, .long a1, .long b1])).length) Slot.unset).toArray = ls at hl ⊢
  replace hl : lv_has ls 8 [(0, .ref m0), (1, .long a1), (3, .long b1)] := hl
  refine lv_aload_n hx hb dX2_yaw_0 rfl (lv_at hl 0 rfl) ?_
  refine lv_iconst (v := 0) hx hb dX2_yaw_1 (by decide) ?_
  refine va_put (D := D) (ci := 2) (v := .int 0) (ty := .int) (C := RX2) (T := TX2) (N := 14) hx hb hts (by decide +kernel) tyX2 tyX2_ok nmX2 hown hK hP hD hS 0 rfl rfl 0 (by decide) (hts _ hm1) (fun _ h9 => h9) rfl (by decide +kernel) rfl rfl (Nat.le_of_ble_eq_true rfl) dX2_yaw_2 (fun H locs hP hD hS => ?_)
  replace hP : va_P D vwCl (mw m0 a C 0 (nI n) sp lo ph pr bo mo rf gr hd st ch rs) H := hP
  replace hD : va_D A (mw m0 a C 0 (nI n) sp lo ph pr bo mo rf gr hd st ch rs) := hD
  refine lv_lload_n hx hb dX2_yaw_5 rfl (lv_at hl 1 rfl) ?_
  refine lv_ldc2 hx hb hown (hts _ hm2) dX2_yaw_6 ?_
  refine W.lcmp hx hb dX2_yaw_9 ?_
  refine lv_if_lt (tgt := 37) hx hb dX2_yaw_10 (by decide) (fun c_1 => ?_) (fun c_1 => ?_)
  · skip
    replace c_1 := (lg_cmp_lt _ _).mp c_1
    refine lv_bipush (v := (-2)) hx hb dX2_yaw_37 (by decide) ?_
    exact W.iret (v := (-2)) hx hb hr (fun t ht hW => ⟨⟨_, (0, pr), rfl, ⟨by simp [sYaw, gYaw, mApart, fBadY, mMin, c_1], by simp [sYaw, gYaw, mApart, fBadY, mMin, c_1], by simp [sYaw, gYaw, mApart, fBadY, mMin, c_1]⟩, xB_end hP hK hN hD ht hW⟩, hS.F ht⟩) hS.2.2 dX2_yaw_39
  · skip
    replace c_1 := mt (lg_cmp_lt _ _).mpr c_1
    refine lv_lload_n hx hb dX2_yaw_13 rfl (lv_at hl 1 rfl) ?_
    refine lv_ldc2 hx hb hown (hts _ hm3) dX2_yaw_14 ?_
    refine W.lcmp hx hb dX2_yaw_17 ?_
    refine lv_if_gt (tgt := 37) hx hb dX2_yaw_18 (by decide) (fun c_2 => ?_) (fun c_2 => ?_)
    · skip
      replace c_2 := (lg_cmp_gt _ _).mp c_2
      refine lv_bipush (v := (-2)) hx hb dX2_yaw_37 (by decide) ?_
      exact W.iret (v := (-2)) hx hb hr (fun t ht hW => ⟨⟨_, (0, pr), rfl, ⟨by simp [sYaw, gYaw, mApart, fBadY, mMin, c_1, c_2], by simp [sYaw, gYaw, mApart, fBadY, mMin, c_1, c_2], by simp [sYaw, gYaw, mApart, fBadY, mMin, c_1, c_2]⟩, xB_end hP hK hN hD ht hW⟩, hS.F ht⟩) hS.2.2 dX2_yaw_39
    · skip
      replace c_2 := mt (lg_cmp_gt _ _).mpr c_2
      refine lv_lload_n hx hb dX2_yaw_21 rfl (lv_at hl 2 rfl) ?_
      refine lv_ldc2 hx hb hown (hts _ hm2) dX2_yaw_22 ?_
      refine W.lcmp hx hb dX2_yaw_25 ?_
      refine lv_if_lt (tgt := 37) hx hb dX2_yaw_26 (by decide) (fun c_3 => ?_) (fun c_3 => ?_)
      · skip
        replace c_3 := (lg_cmp_lt _ _).mp c_3
        refine lv_bipush (v := (-2)) hx hb dX2_yaw_37 (by decide) ?_
        exact W.iret (v := (-2)) hx hb hr (fun t ht hW => ⟨⟨_, (0, pr), rfl, ⟨by simp [sYaw, gYaw, mApart, fBadY, mMin, c_1, c_2, c_3], by simp [sYaw, gYaw, mApart, fBadY, mMin, c_1, c_2, c_3], by simp [sYaw, gYaw, mApart, fBadY, mMin, c_1, c_2, c_3]⟩, xB_end hP hK hN hD ht hW⟩, hS.F ht⟩) hS.2.2 dX2_yaw_39
      · skip
        replace c_3 := mt (lg_cmp_lt _ _).mpr c_3
        refine lv_lload_n hx hb dX2_yaw_29 rfl (lv_at hl 2 rfl) ?_
        refine lv_ldc2 hx hb hown (hts _ hm3) dX2_yaw_30 ?_
        refine W.lcmp hx hb dX2_yaw_33 ?_
        refine lv_if_le (tgt := 40) hx hb dX2_yaw_34 (by decide) (fun c_4 => ?_) (fun c_4 => ?_)
        · skip
          replace c_4 := (lg_cmp_le _ _).mp c_4
          replace c_4 := i64_nlt c_4
          refine lv_lload_n hx hb dX2_yaw_40 rfl (lv_at hl 1 rfl) ?_
          refine lv_lload_n hx hb dX2_yaw_41 rfl (lv_at hl 2 rfl) ?_
          refine W.lcmp hx hb dX2_yaw_42 ?_
          refine lv_if_le (tgt := 52) hx hb dX2_yaw_43 (by decide) (fun c_5 => ?_) (fun c_5 => ?_)
          · skip
            replace c_5 := (lg_cmp_le _ _).mp c_5
            refine lv_lload_n hx hb dX2_yaw_52 rfl (lv_at hl 2 rfl) ?_
            refine lv_lload_n hx hb dX2_yaw_53 rfl (lv_at hl 1 rfl) ?_
            refine lv_lsub hx hb dX2_yaw_54 ?_
            refine lv_lstore (lv' := [(5, .long (b1 - a1)), (0, .ref m0), (1, .long a1), (3, .long b1)]) hx hb dX2_yaw_55 hl (by decide) rfl (fun ls hl => ?_)
            refine lv_lload hx hb dX2_yaw_57 (lv_at hl 0 rfl) ?_
            refine lv_ldc2 hx hb hown (hts _ hm4) dX2_yaw_59 ?_
            refine W.lcmp hx hb dX2_yaw_62 ?_
            refine lv_if_le (tgt := 73) hx hb dX2_yaw_63 (by decide) (fun c_6 => ?_) (fun c_6 => ?_)
            · skip
              replace c_6 := (lg_cmp_le _ _).mp c_6
              refine lv_iconst (v := 0) hx hb dX2_yaw_73 (by decide) ?_
              exact W.iret (v := 0) hx hb hr (fun t ht hW => ⟨⟨_, (0, pr), rfl, ⟨by simp [sYaw, gYaw, mApart, fBadY, mMin, c_1, c_2, c_3, c_4, c_5, c_6], by simp [sYaw, gYaw, mApart, fBadY, mMin, c_1, c_2, c_3, c_4, c_5, c_6], by simp [sYaw, gYaw, mApart, fBadY, mMin, c_1, c_2, c_3, c_4, c_5, c_6]⟩, xB_end hP hK hN hD ht hW⟩, hS.F ht⟩) hS.2.2 dX2_yaw_74
            · skip
              replace c_6 := mt (lg_cmp_le _ _).mpr c_6
              refine lv_aload_n hx hb dX2_yaw_66 rfl (lv_at hl 1 rfl) ?_
              refine vp_callSi (W.runV (As := []) (rest := []) ⟨hx, hb, hml, hown, hts⟩ (m2_lostOnes l D m0 a C n 0 sp lo ph pr bo mo rf gr hd st ch rs hn) (cwV 0 hts gX2_yaw_X2_lostOnes rfl rfl rfl (by decide +kernel) ⟨Nat.le_of_ble_eq_true rfl, Nat.le_of_ble_eq_true rfl⟩) ⟨xP_blind, va_recv hK hP (ci := 2) (q0 := 0) rfl rfl, xP_at hP hK hN⟩ rfl rfl hl.1 rfl (lv_room (Nat.le_of_ble_eq_true rfl)) dX2_yaw_67 ⟨Nat.le_of_ble_eq_true rfl, Nat.le_of_ble_eq_true rfl⟩) (fun r_7 hr_8 => ?_)
              subst hr_8
              refine lv_if_le (tgt := 75) hx hb dX2_yaw_70 (by decide) (fun c_9 => ?_) (fun c_9 => ?_)
              · skip
                refine lv_lload_n hx hb dX2_yaw_75 rfl (lv_at hl 2 rfl) ?_
                refine lv_lload_n hx hb dX2_yaw_76 rfl (lv_at hl 3 rfl) ?_
                refine W.lcmp hx hb dX2_yaw_77 ?_
                refine lv_if_le (tgt := 85) hx hb dX2_yaw_78 (by decide) (fun c_10 => ?_) (fun c_10 => absurd ((lg_cmp_le _ _).mpr c_5) c_10)
                refine lv_iconst (v := 1) hx hb dX2_yaw_85 (by decide) ?_
                refine lv_istore (lv' := [(7, .int 1), (5, .long (b1 - a1)), (0, .ref m0), (1, .long a1), (3, .long b1)]) hx hb dX2_yaw_86 hl (by decide) rfl (fun ls hl => ?_)
                refine lv_aload_n hx hb dX2_yaw_88 rfl (lv_at hl 2 rfl) ?_
                refine va_get (D := D) (ci := 2) (v := .ref (a 4)) (C := RX2) (T := TX2) (N := 14) hx hb hts (by decide +kernel) hown hK hP 0 rfl rfl 5 (by decide) (hts _ hm5) (fun _ h9 => h9) rfl dX2_yaw_89 ?_
                refine lv_iload hx hb dX2_yaw_92 (lv_at hl 0 rfl) ?_
                refine lv_aload_n hx hb dX2_yaw_94 rfl (lv_at hl 2 rfl) ?_
                refine va_get (D := D) (ci := 2) (v := .ref (a 4)) (C := RX2) (T := TX2) (N := 14) hx hb hts (by decide +kernel) hown hK hP 0 rfl rfl 5 (by decide) (hts _ hm5) (fun _ h9 => h9) rfl dX2_yaw_95 ?_
                refine lv_iload hx hb dX2_yaw_98 (lv_at hl 0 rfl) ?_
                refine va_lald (D := D) (f := pr) hx hb hK hP 4 3 rfl rfl vp_1 dX2_yaw_100 ?_
                refine W.eq (g2 := F0 m 101 ls [.long (pr 1), .int 1, .ref (a 4)]) (by rw [show (1 : Int32).toNatClampNeg = 1 from rfl]) ?_
                refine lv_ldc2 hx hb hown (hts _ hm4) dX2_yaw_101 ?_
                refine lv_ladd hx hb dX2_yaw_104 ?_
                refine lv_aload_n hx hb dX2_yaw_105 rfl (lv_at hl 2 rfl) ?_
                refine va_get (D := D) (ci := 2) (v := .ref (a 5)) (C := RX2) (T := TX2) (N := 14) hx hb hts (by decide +kernel) hown hK hP 0 rfl rfl 6 (by decide) (hts _ hm6) (fun _ h9 => h9) rfl dX2_yaw_106 ?_
                refine lv_iload hx hb dX2_yaw_109 (lv_at hl 0 rfl) ?_
                refine va_lald (D := D) (f := bo) hx hb hK hP 5 4 rfl rfl vp_1 dX2_yaw_111 ?_
                refine W.eq (g2 := F0 m 112 ls [.long (bo 1), .long ((pr 1) + 20), .int 1, .ref (a 4)]) (by rw [show (1 : Int32).toNatClampNeg = 1 from rfl]) ?_
                refine W.lcmp hx hb dX2_yaw_112 ?_
                refine lv_if_le (tgt := 126) hx hb dX2_yaw_113 (by decide) (fun c_11 => ?_) (fun c_11 => ?_)
                · skip
                  replace c_11 := (lg_cmp_le _ _).mp c_11
                  refine lv_aload_n hx hb dX2_yaw_126 rfl (lv_at hl 2 rfl) ?_
                  refine va_get (D := D) (ci := 2) (v := .ref (a 4)) (C := RX2) (T := TX2) (N := 14) hx hb hts (by decide +kernel) hown hK hP 0 rfl rfl 5 (by decide) (hts _ hm5) (fun _ h9 => h9) rfl dX2_yaw_127 ?_
                  refine lv_iload hx hb dX2_yaw_130 (lv_at hl 0 rfl) ?_
                  refine va_lald (D := D) (f := pr) hx hb hK hP 4 3 rfl rfl vp_1 dX2_yaw_132 ?_
                  refine W.eq (g2 := F0 m 133 ls [.long (pr 1), .int 1, .ref (a 4)]) (by rw [show (1 : Int32).toNatClampNeg = 1 from rfl]) ?_
                  refine lv_ldc2 hx hb hown (hts _ hm4) dX2_yaw_133 ?_
                  refine lv_ladd hx hb dX2_yaw_136 ?_
                  refine va_last (D := D) (f := pr) hx hb hK hP hD hS 4 3 rfl rfl vp_1 dX2_yaw_137 (fun H locs hP hD hS => ?_)
                  rw [show (1 : Int32).toNatClampNeg = 1 from rfl] at hP hD
                  replace hP : va_P D vwCl (mw m0 a C 0 (nI n) sp lo ph (va_up pr 1 ((pr 1) + 20)) bo mo rf gr hd st ch rs) H := hP
                  replace hD : va_D A (mw m0 a C 0 (nI n) sp lo ph (va_up pr 1 ((pr 1) + 20)) bo mo rf gr hd st ch rs) := hD
                  refine lv_iload hx hb dX2_yaw_138 (lv_at hl 0 rfl) ?_
                  exact W.iret (v := 1) hx hb hr (fun t ht hW => ⟨⟨_, (0, va_up pr 1 ((pr 1) + 20)), rfl, ⟨by simp [sYaw, gYaw, mApart, fBadY, mMin, c_1, c_2, c_3, c_4, c_5, c_6, c_9, c_11], by simp [sYaw, gYaw, mApart, fBadY, mMin, c_1, c_2, c_3, c_4, c_5, c_6, c_9, c_11], by simp [sYaw, gYaw, mApart, fBadY, mMin, c_1, c_2, c_3, c_4, c_5, c_6, c_9, c_11]⟩, xB_end hP hK hN hD ht hW⟩, hS.F ht⟩) hS.2.2 dX2_yaw_140
                · skip
                  replace c_11 := mt (lg_cmp_le _ _).mpr c_11
                  refine lv_aload_n hx hb dX2_yaw_116 rfl (lv_at hl 2 rfl) ?_
                  refine va_get (D := D) (ci := 2) (v := .ref (a 5)) (C := RX2) (T := TX2) (N := 14) hx hb hts (by decide +kernel) hown hK hP 0 rfl rfl 6 (by decide) (hts _ hm6) (fun _ h9 => h9) rfl dX2_yaw_117 ?_
                  refine lv_iload hx hb dX2_yaw_120 (lv_at hl 0 rfl) ?_
                  refine va_lald (D := D) (f := bo) hx hb hK hP 5 4 rfl rfl vp_1 dX2_yaw_122 ?_
                  refine W.eq (g2 := F0 m 123 ls [.long (bo 1), .int 1, .ref (a 4)]) (by rw [show (1 : Int32).toNatClampNeg = 1 from rfl]) ?_
                  refine lv_goto (tgt := 137) hx hb dX2_yaw_123 (by decide) ?_
                  refine va_last (D := D) (f := pr) hx hb hK hP hD hS 4 3 rfl rfl vp_1 dX2_yaw_137 (fun H locs hP hD hS => ?_)
                  rw [show (1 : Int32).toNatClampNeg = 1 from rfl] at hP hD
                  replace hP : va_P D vwCl (mw m0 a C 0 (nI n) sp lo ph (va_up pr 1 (bo 1)) bo mo rf gr hd st ch rs) H := hP
                  replace hD : va_D A (mw m0 a C 0 (nI n) sp lo ph (va_up pr 1 (bo 1)) bo mo rf gr hd st ch rs) := hD
                  refine lv_iload hx hb dX2_yaw_138 (lv_at hl 0 rfl) ?_
                  exact W.iret (v := 1) hx hb hr (fun t ht hW => ⟨⟨_, (0, va_up pr 1 (bo 1)), rfl, ⟨by simp [sYaw, gYaw, mApart, fBadY, mMin, c_1, c_2, c_3, c_4, c_5, c_6, c_9, c_11], by simp [sYaw, gYaw, mApart, fBadY, mMin, c_1, c_2, c_3, c_4, c_5, c_6, c_9, c_11], by simp [sYaw, gYaw, mApart, fBadY, mMin, c_1, c_2, c_3, c_4, c_5, c_6, c_9, c_11]⟩, xB_end hP hK hN hD ht hW⟩, hS.F ht⟩) hS.2.2 dX2_yaw_140
              · skip
                refine lv_iconst (v := 0) hx hb dX2_yaw_73 (by decide) ?_
                exact W.iret (v := 0) hx hb hr (fun t ht hW => ⟨⟨_, (0, pr), rfl, ⟨by simp [sYaw, gYaw, mApart, fBadY, mMin, c_1, c_2, c_3, c_4, c_5, c_6, c_9], by simp [sYaw, gYaw, mApart, fBadY, mMin, c_1, c_2, c_3, c_4, c_5, c_6, c_9], by simp [sYaw, gYaw, mApart, fBadY, mMin, c_1, c_2, c_3, c_4, c_5, c_6, c_9]⟩, xB_end hP hK hN hD ht hW⟩, hS.F ht⟩) hS.2.2 dX2_yaw_74
          · skip
            replace c_5 := mt (lg_cmp_le _ _).mpr c_5
            refine lv_lload_n hx hb dX2_yaw_46 rfl (lv_at hl 1 rfl) ?_
            refine lv_lload_n hx hb dX2_yaw_47 rfl (lv_at hl 2 rfl) ?_
            refine lv_lsub hx hb dX2_yaw_48 ?_
            refine lv_goto (tgt := 55) hx hb dX2_yaw_49 (by decide) ?_
            refine lv_lstore (lv' := [(5, .long (a1 - b1)), (0, .ref m0), (1, .long a1), (3, .long b1)]) hx hb dX2_yaw_55 hl (by decide) rfl (fun ls hl => ?_)
            refine lv_lload hx hb dX2_yaw_57 (lv_at hl 0 rfl) ?_
            refine lv_ldc2 hx hb hown (hts _ hm4) dX2_yaw_59 ?_
            refine W.lcmp hx hb dX2_yaw_62 ?_
            refine lv_if_le (tgt := 73) hx hb dX2_yaw_63 (by decide) (fun c_12 => ?_) (fun c_12 => ?_)
            · skip
              replace c_12 := (lg_cmp_le _ _).mp c_12
              refine lv_iconst (v := 0) hx hb dX2_yaw_73 (by decide) ?_
              exact W.iret (v := 0) hx hb hr (fun t ht hW => ⟨⟨_, (0, pr), rfl, ⟨by simp [sYaw, gYaw, mApart, fBadY, mMin, c_1, c_2, c_3, c_4, c_5, c_12], by simp [sYaw, gYaw, mApart, fBadY, mMin, c_1, c_2, c_3, c_4, c_5, c_12], by simp [sYaw, gYaw, mApart, fBadY, mMin, c_1, c_2, c_3, c_4, c_5, c_12]⟩, xB_end hP hK hN hD ht hW⟩, hS.F ht⟩) hS.2.2 dX2_yaw_74
            · skip
              replace c_12 := mt (lg_cmp_le _ _).mpr c_12
              refine lv_aload_n hx hb dX2_yaw_66 rfl (lv_at hl 1 rfl) ?_
              refine vp_callSi (W.runV (As := []) (rest := []) ⟨hx, hb, hml, hown, hts⟩ (m2_lostOnes l D m0 a C n 0 sp lo ph pr bo mo rf gr hd st ch rs hn) (cwV 0 hts gX2_yaw_X2_lostOnes rfl rfl rfl (by decide +kernel) ⟨Nat.le_of_ble_eq_true rfl, Nat.le_of_ble_eq_true rfl⟩) ⟨xP_blind, va_recv hK hP (ci := 2) (q0 := 0) rfl rfl, xP_at hP hK hN⟩ rfl rfl hl.1 rfl (lv_room (Nat.le_of_ble_eq_true rfl)) dX2_yaw_67 ⟨Nat.le_of_ble_eq_true rfl, Nat.le_of_ble_eq_true rfl⟩) (fun r_13 hr_14 => ?_)
              subst hr_14
              refine lv_if_le (tgt := 75) hx hb dX2_yaw_70 (by decide) (fun c_15 => ?_) (fun c_15 => ?_)
              · skip
                refine lv_lload_n hx hb dX2_yaw_75 rfl (lv_at hl 2 rfl) ?_
                refine lv_lload_n hx hb dX2_yaw_76 rfl (lv_at hl 3 rfl) ?_
                refine W.lcmp hx hb dX2_yaw_77 ?_
                refine lv_if_le (tgt := 85) hx hb dX2_yaw_78 (by decide) (fun c_16 => absurd ((lg_cmp_le _ _).mp c_16) c_5) (fun c_16 => ?_)
                refine lv_iconst (v := 2) hx hb dX2_yaw_81 (by decide) ?_
                refine lv_goto (tgt := 86) hx hb dX2_yaw_82 (by decide) ?_
                refine lv_istore (lv' := [(7, .int 2), (5, .long (a1 - b1)), (0, .ref m0), (1, .long a1), (3, .long b1)]) hx hb dX2_yaw_86 hl (by decide) rfl (fun ls hl => ?_)
                refine lv_aload_n hx hb dX2_yaw_88 rfl (lv_at hl 2 rfl) ?_
                refine va_get (D := D) (ci := 2) (v := .ref (a 4)) (C := RX2) (T := TX2) (N := 14) hx hb hts (by decide +kernel) hown hK hP 0 rfl rfl 5 (by decide) (hts _ hm5) (fun _ h9 => h9) rfl dX2_yaw_89 ?_
                refine lv_iload hx hb dX2_yaw_92 (lv_at hl 0 rfl) ?_
                refine lv_aload_n hx hb dX2_yaw_94 rfl (lv_at hl 2 rfl) ?_
                refine va_get (D := D) (ci := 2) (v := .ref (a 4)) (C := RX2) (T := TX2) (N := 14) hx hb hts (by decide +kernel) hown hK hP 0 rfl rfl 5 (by decide) (hts _ hm5) (fun _ h9 => h9) rfl dX2_yaw_95 ?_
                refine lv_iload hx hb dX2_yaw_98 (lv_at hl 0 rfl) ?_
                refine va_lald (D := D) (f := pr) hx hb hK hP 4 3 rfl rfl vp_2 dX2_yaw_100 ?_
                refine W.eq (g2 := F0 m 101 ls [.long (pr 2), .int 2, .ref (a 4)]) (by rw [show (2 : Int32).toNatClampNeg = 2 from rfl]) ?_
                refine lv_ldc2 hx hb hown (hts _ hm4) dX2_yaw_101 ?_
                refine lv_ladd hx hb dX2_yaw_104 ?_
                refine lv_aload_n hx hb dX2_yaw_105 rfl (lv_at hl 2 rfl) ?_
                refine va_get (D := D) (ci := 2) (v := .ref (a 5)) (C := RX2) (T := TX2) (N := 14) hx hb hts (by decide +kernel) hown hK hP 0 rfl rfl 6 (by decide) (hts _ hm6) (fun _ h9 => h9) rfl dX2_yaw_106 ?_
                refine lv_iload hx hb dX2_yaw_109 (lv_at hl 0 rfl) ?_
                refine va_lald (D := D) (f := bo) hx hb hK hP 5 4 rfl rfl vp_2 dX2_yaw_111 ?_
                refine W.eq (g2 := F0 m 112 ls [.long (bo 2), .long ((pr 2) + 20), .int 2, .ref (a 4)]) (by rw [show (2 : Int32).toNatClampNeg = 2 from rfl]) ?_
                refine W.lcmp hx hb dX2_yaw_112 ?_
                refine lv_if_le (tgt := 126) hx hb dX2_yaw_113 (by decide) (fun c_17 => ?_) (fun c_17 => ?_)
                · skip
                  replace c_17 := (lg_cmp_le _ _).mp c_17
                  refine lv_aload_n hx hb dX2_yaw_126 rfl (lv_at hl 2 rfl) ?_
                  refine va_get (D := D) (ci := 2) (v := .ref (a 4)) (C := RX2) (T := TX2) (N := 14) hx hb hts (by decide +kernel) hown hK hP 0 rfl rfl 5 (by decide) (hts _ hm5) (fun _ h9 => h9) rfl dX2_yaw_127 ?_
                  refine lv_iload hx hb dX2_yaw_130 (lv_at hl 0 rfl) ?_
                  refine va_lald (D := D) (f := pr) hx hb hK hP 4 3 rfl rfl vp_2 dX2_yaw_132 ?_
                  refine W.eq (g2 := F0 m 133 ls [.long (pr 2), .int 2, .ref (a 4)]) (by rw [show (2 : Int32).toNatClampNeg = 2 from rfl]) ?_
                  refine lv_ldc2 hx hb hown (hts _ hm4) dX2_yaw_133 ?_
                  refine lv_ladd hx hb dX2_yaw_136 ?_
                  refine va_last (D := D) (f := pr) hx hb hK hP hD hS 4 3 rfl rfl vp_2 dX2_yaw_137 (fun H locs hP hD hS => ?_)
                  rw [show (2 : Int32).toNatClampNeg = 2 from rfl] at hP hD
                  replace hP : va_P D vwCl (mw m0 a C 0 (nI n) sp lo ph (va_up pr 2 ((pr 2) + 20)) bo mo rf gr hd st ch rs) H := hP
                  replace hD : va_D A (mw m0 a C 0 (nI n) sp lo ph (va_up pr 2 ((pr 2) + 20)) bo mo rf gr hd st ch rs) := hD
                  refine lv_iload hx hb dX2_yaw_138 (lv_at hl 0 rfl) ?_
                  exact W.iret (v := 2) hx hb hr (fun t ht hW => ⟨⟨_, (0, va_up pr 2 ((pr 2) + 20)), rfl, ⟨by simp [sYaw, gYaw, mApart, fBadY, mMin, c_1, c_2, c_3, c_4, c_5, c_12, c_15, c_17], by simp [sYaw, gYaw, mApart, fBadY, mMin, c_1, c_2, c_3, c_4, c_5, c_12, c_15, c_17], by simp [sYaw, gYaw, mApart, fBadY, mMin, c_1, c_2, c_3, c_4, c_5, c_12, c_15, c_17]⟩, xB_end hP hK hN hD ht hW⟩, hS.F ht⟩) hS.2.2 dX2_yaw_140
                · skip
                  replace c_17 := mt (lg_cmp_le _ _).mpr c_17
                  refine lv_aload_n hx hb dX2_yaw_116 rfl (lv_at hl 2 rfl) ?_
                  refine va_get (D := D) (ci := 2) (v := .ref (a 5)) (C := RX2) (T := TX2) (N := 14) hx hb hts (by decide +kernel) hown hK hP 0 rfl rfl 6 (by decide) (hts _ hm6) (fun _ h9 => h9) rfl dX2_yaw_117 ?_
                  refine lv_iload hx hb dX2_yaw_120 (lv_at hl 0 rfl) ?_
                  refine va_lald (D := D) (f := bo) hx hb hK hP 5 4 rfl rfl vp_2 dX2_yaw_122 ?_
                  refine W.eq (g2 := F0 m 123 ls [.long (bo 2), .int 2, .ref (a 4)]) (by rw [show (2 : Int32).toNatClampNeg = 2 from rfl]) ?_
                  refine lv_goto (tgt := 137) hx hb dX2_yaw_123 (by decide) ?_
                  refine va_last (D := D) (f := pr) hx hb hK hP hD hS 4 3 rfl rfl vp_2 dX2_yaw_137 (fun H locs hP hD hS => ?_)
                  rw [show (2 : Int32).toNatClampNeg = 2 from rfl] at hP hD
                  replace hP : va_P D vwCl (mw m0 a C 0 (nI n) sp lo ph (va_up pr 2 (bo 2)) bo mo rf gr hd st ch rs) H := hP
                  replace hD : va_D A (mw m0 a C 0 (nI n) sp lo ph (va_up pr 2 (bo 2)) bo mo rf gr hd st ch rs) := hD
                  refine lv_iload hx hb dX2_yaw_138 (lv_at hl 0 rfl) ?_
                  exact W.iret (v := 2) hx hb hr (fun t ht hW => ⟨⟨_, (0, va_up pr 2 (bo 2)), rfl, ⟨by simp [sYaw, gYaw, mApart, fBadY, mMin, c_1, c_2, c_3, c_4, c_5, c_12, c_15, c_17], by simp [sYaw, gYaw, mApart, fBadY, mMin, c_1, c_2, c_3, c_4, c_5, c_12, c_15, c_17], by simp [sYaw, gYaw, mApart, fBadY, mMin, c_1, c_2, c_3, c_4, c_5, c_12, c_15, c_17]⟩, xB_end hP hK hN hD ht hW⟩, hS.F ht⟩) hS.2.2 dX2_yaw_140
              · skip
                refine lv_iconst (v := 0) hx hb dX2_yaw_73 (by decide) ?_
                exact W.iret (v := 0) hx hb hr (fun t ht hW => ⟨⟨_, (0, pr), rfl, ⟨by simp [sYaw, gYaw, mApart, fBadY, mMin, c_1, c_2, c_3, c_4, c_5, c_12, c_15], by simp [sYaw, gYaw, mApart, fBadY, mMin, c_1, c_2, c_3, c_4, c_5, c_12, c_15], by simp [sYaw, gYaw, mApart, fBadY, mMin, c_1, c_2, c_3, c_4, c_5, c_12, c_15]⟩, xB_end hP hK hN hD ht hW⟩, hS.F ht⟩) hS.2.2 dX2_yaw_74
        · skip
          replace c_4 := mt (lg_cmp_le _ _).mpr c_4
          replace c_4 := i64_lt c_4
          refine lv_bipush (v := (-2)) hx hb dX2_yaw_37 (by decide) ?_
          exact W.iret (v := (-2)) hx hb hr (fun t ht hW => ⟨⟨_, (0, pr), rfl, ⟨by simp [sYaw, gYaw, mApart, fBadY, mMin, c_1, c_2, c_3, c_4], by simp [sYaw, gYaw, mApart, fBadY, mMin, c_1, c_2, c_3, c_4], by simp [sYaw, gYaw, mApart, fBadY, mMin, c_1, c_2, c_3, c_4]⟩, xB_end hP hK hN hD ht hW⟩, hS.F ht⟩) hS.2.2 dX2_yaw_39
end
section
/-! ===== the reference: a step ===== -/
set_option maxHeartbeats 4000000 in
set_option maxRecDepth 100000 in
/-- step -/
theorem m2_step (l : Launch) (D : va_G) (m0 : Nat) (a : Nat → Nat) (C : Nat → ClassId) (n : Nat) (th : Int32) (sp : Nat → Int64) (lo ph : Nat → Int32) (pr bo : Nat → Int64) (mo : Nat → UInt64) (rf : Int64) (gr hd st ch rs : Int32) (hn : n ≤ 8) (ped sl : Int64) (sz : Nat) : MetD lw_cs l yX2_step wsX2_step ({ frames := 2, cells := 0, slots := 0, locals := 60 }) (va_Pc [.ref m0, .long ped, .long sl] (xW D [(C 1, .long), (C 2, .boolean), (C 3, .int), (C 4, .long), (C 5, .long), (C 6, .double)] (mw m0 a C th (nI n) sp lo ph pr bo mo rf gr hd st ch rs) sz)) (va_Qi (fun (r : Int32) (u : (Int32) × (Nat → Int32) × (Nat → Int64) × (Nat → UInt64) × (Int64) × (Int32) × (Int32) × (Int32) × (Int32) × (Int32)) => (fBad ped sl → r = -2 ∧ u = (0, ph, pr, mo, rf, gr, hd, st, ch, rs)) ∧ (¬ fBad ped sl → ∃ mo2, u = (0, jPh lo ph (mRef n ped rf lo sp) ped sp pr n, jPr mPr lo ph (mRef n ped rf lo sp) ped sp pr bo hd n, mo2, mRef n ped rf lo sp, (if st + 1 - ch < rs then gr else sGr (sCode gr (mRef n ped rf lo sp) (mMx sl)) gr), (if hd = 0 then 0 else if mRef n ped rf lo sp ≤ 20 then 1 else 0), st + 1, (if st + 1 - ch < rs then ch else sNx (sCode gr (mRef n ped rf lo sp) (mMx sl)) ch (st + 1)), if st + 1 - ch < rs then rs else sNx (sCode gr (mRef n ped rf lo sp) (mMx sl)) rs 3) ∧ r = (if st + 1 - ch < rs then gr else sGr (sCode gr (mRef n ped rf lo sp) (mMx sl)) gr) ∧ ∀ k, 1 ≤ k → k ≤ n → stepM (mo k) (sp k) (jPr mPr lo ph (mRef n ped rf lo sp) ped sp pr bo hd n k) (mo2 k))) (fun (u : (Int32) × (Nat → Int32) × (Nat → Int64) × (Nat → UInt64) × (Int64) × (Int32) × (Int32) × (Int32) × (Int32) × (Int32)) => xB D [(C 1, .long), (C 2, .boolean), (C 3, .int), (C 4, .long), (C 5, .long), (C 6, .double)] (va_A (mw m0 a C th (nI n) sp lo ph pr bo mo rf gr hd st ch rs) sz) (mw m0 a C u.1 (nI n) sp lo u.2.1 u.2.2.1 bo u.2.2.2.1 u.2.2.2.2.1 u.2.2.2.2.2.1 u.2.2.2.2.2.2.1 u.2.2.2.2.2.2.2.1 u.2.2.2.2.2.2.2.2.1 u.2.2.2.2.2.2.2.2.2)) (va_A (mw m0 a C th (nI n) sp lo ph pr bo mo rf gr hd st ch rs) sz)) 0 0 (va_A (mw m0 a C th (nI n) sp lo ph pr bo mo rf gr hd st ch rs) sz) := by
  refine MetD.ofW (cc := cX2_step) (maxL := 8) (ret := (some .int)) (by decide) rfl ?_
  intro p e s m args below meth c s₁ B hml hv hd0
  obtain ⟨rfl, hsz, ⟨hP, hK, hN⟩, hDt⟩ := hv
  have hx := B.exec
  have hb := B.bytes
  have hr := B.returns
  have hts := atoms_spec (ws := wsX2_step) B.pre
  have hown : s.vm.findClass RX2 = some m.cls := findClass_of_methodNamed B.named
  have hlocks := B.notSynchronized
  have hm1 : (.fieldLink RX2 40 "GearBrakeModel" "thrown" "I" : Cond) ∈ wsX2_step := by decide +kernel
  have hm2 : (.constantLong RX2 38 (100) : Cond) ∈ wsX2_step := by decide +kernel
  have hm3 : (.constantLong RX2 73 (-30) : Cond) ∈ wsX2_step := by decide +kernel
  have hm4 : (.constantLong RX2 71 (30) : Cond) ∈ wsX2_step := by decide +kernel
  have hm5 : (.fieldLink RX2 75 "GearBrakeModel" "steps" "I" : Cond) ∈ wsX2_step := by decide +kernel
  have hm6 : (.fieldLink RX2 35 "GearBrakeModel" "wheels" "I" : Cond) ∈ wsX2_step := by decide +kernel
  have hm7 : (.fieldLink RX2 67 "GearBrakeModel" "holds" "Z" : Cond) ∈ wsX2_step := by decide +kernel
  have hm8 : (.fieldLink RX2 96 "GearBrakeModel" "changed" "I" : Cond) ∈ wsX2_step := by decide +kernel
  have hm9 : (.fieldLink RX2 99 "GearBrakeModel" "rest" "I" : Cond) ∈ wsX2_step := by decide +kernel
  have hm10 : (.fieldLink RX2 31 "GearBrakeModel" "gear" "I" : Cond) ∈ wsX2_step := by decide +kernel
  have hm11 : (.fieldLink RX2 53 "GearBrakeModel" "reference" "J" : Cond) ∈ wsX2_step := by decide +kernel
  have hm12 : (.constantLong RX2 94 (20) : Cond) ∈ wsX2_step := by decide +kernel
  have hm13 : (.constantLong RX2 63 (10) : Cond) ∈ wsX2_step := by decide +kernel
  have hm14 : (.fieldLink RX2 17 "GearBrakeModel" "phases" "[I" : Cond) ∈ wsX2_step := by decide +kernel
  have hm15 : (.fieldLink RX2 21 "GearBrakeModel" "pressures" "[J" : Cond) ∈ wsX2_step := by decide +kernel
  have hm16 : (.fieldLink RX2 27 "GearBrakeModel" "models" "[D" : Cond) ∈ wsX2_step := by decide +kernel
  have hm17 : (.constantDouble RX2 90 (4593671619917905920) : Cond) ∈ wsX2_step := by decide +kernel
  have hm18 : (.fieldLink RX2 7 "GearBrakeModel" "speeds" "[J" : Cond) ∈ wsX2_step := by decide +kernel
  have hm19 : (.constantDouble RX2 92 (4589168020290535424) : Cond) ∈ wsX2_step := by decide +kernel
  subst hsz
  have hD := hDt.self (sz := s.heap.size)
  generalize hAe : va_A (mw m0 a C th (nI n) sp lo ph pr bo mo rf gr hd st ch rs) s.heap.size = A at hD ⊢
  have hA : ∀ q : Nat, s.heap.size ≤ q → A q := fun q h => by rw [← hAe]; exact Or.inr h
  have hS : va_S A s.heap s.heap [] := va_S.rf
  have hts0 := hts
  have hN0 := hN
  have hK0 := hK
  obtain ⟨dd, hde, hdd⟩ : ∃ dd, dd = s.drawn ∧ s.drawn.sameBut dd lw_cs := ⟨_, rfl, hd0⟩
  rw [← hde]
  clear hde
  have hts := dr_words hts0 dd
  have hN := cN_draw (d := dd) hN0
  have hK : va_K D vwCl [(C 1, .long), (C 2, .boolean), (C 3, .int), (C 4, .long), (C 5, .long), (C 6, .double)] (s.setDrawn dd) := hK0
  have hl := lv_entry ([.ref m0, .long ped, .long sl]) (n := 8) (Nat.le_of_ble_eq_true rfl)
  rw [lg_entry_eq]
  generalize (lg_sl ([.ref m0, .long ped, .long sl]) ++ List.replicate (8 - (lg_sl ([.ref m0, .long ped, .long sl])).length) Slot.unset).toArray = ls at hl ⊢
  replace hl : lv_has ls 8 [(0, .ref m0), (1, .long ped), (3, .long sl)] := hl
  refine lv_aload_n hx hb dX2_step_0 rfl (lv_at hl 0 rfl) ?_
  refine lv_iconst (v := 0) hx hb dX2_step_1 (by decide) ?_
  refine va_put (D := D) (ci := 2) (v := .int 0) (ty := .int) (C := RX2) (T := TX2) (N := 14) hx hb hts (by decide +kernel) tyX2 tyX2_ok nmX2 hown hK hP hD hS 0 rfl rfl 0 (by decide) (hts _ hm1) (fun _ h9 => h9) rfl (by decide +kernel) rfl rfl (Nat.le_of_ble_eq_true rfl) dX2_step_2 (fun H locs hP hD hS => ?_)
  replace hP : va_P D vwCl (mw m0 a C 0 (nI n) sp lo ph pr bo mo rf gr hd st ch rs) H := hP
  replace hD : va_D A (mw m0 a C 0 (nI n) sp lo ph pr bo mo rf gr hd st ch rs) := hD
  refine lv_lload_n hx hb dX2_step_5 rfl (lv_at hl 1 rfl) ?_
  refine lv_lconst (v := 0) hx hb dX2_step_6 (by decide) ?_
  refine W.lcmp hx hb dX2_step_7 ?_
  refine lv_if_lt (tgt := 35) hx hb dX2_step_8 (by decide) (fun c_1 => ?_) (fun c_1 => ?_)
  · skip
    replace c_1 := (lg_cmp_lt _ _).mp c_1
    refine lv_bipush (v := (-2)) hx hb dX2_step_35 (by decide) ?_
    refine W.endD hdd ?_
    exact W.iret (v := (-2)) hx hb hr (fun t ht hW => ⟨⟨_, (0, ph, pr, mo, rf, gr, hd, st, ch, rs), rfl, ⟨fun _ => ⟨rfl, rfl⟩, fun h => absurd (by simp [fBad, c_1]) h⟩, xB_end hP hK hN hD ht hW⟩, hS.F ht⟩) hS.2.2 dX2_step_37
  · skip
    replace c_1 := mt (lg_cmp_lt _ _).mpr c_1
    refine lv_lload_n hx hb dX2_step_11 rfl (lv_at hl 1 rfl) ?_
    refine lv_ldc2 hx hb hown (hts _ hm2) dX2_step_12 ?_
    refine W.lcmp hx hb dX2_step_15 ?_
    refine lv_if_gt (tgt := 35) hx hb dX2_step_16 (by decide) (fun c_2 => ?_) (fun c_2 => ?_)
    · skip
      replace c_2 := (lg_cmp_gt _ _).mp c_2
      refine lv_bipush (v := (-2)) hx hb dX2_step_35 (by decide) ?_
      refine W.endD hdd ?_
      exact W.iret (v := (-2)) hx hb hr (fun t ht hW => ⟨⟨_, (0, ph, pr, mo, rf, gr, hd, st, ch, rs), rfl, ⟨fun _ => ⟨rfl, rfl⟩, fun h => absurd (by simp [fBad, c_1, c_2]) h⟩, xB_end hP hK hN hD ht hW⟩, hS.F ht⟩) hS.2.2 dX2_step_37
    · skip
      replace c_2 := mt (lg_cmp_gt _ _).mpr c_2
      refine lv_lload_n hx hb dX2_step_19 rfl (lv_at hl 2 rfl) ?_
      refine lv_ldc2 hx hb hown (hts _ hm3) dX2_step_20 ?_
      refine W.lcmp hx hb dX2_step_23 ?_
      refine lv_if_lt (tgt := 35) hx hb dX2_step_24 (by decide) (fun c_3 => ?_) (fun c_3 => ?_)
      · skip
        replace c_3 := (lg_cmp_lt _ _).mp c_3
        refine lv_bipush (v := (-2)) hx hb dX2_step_35 (by decide) ?_
        refine W.endD hdd ?_
        exact W.iret (v := (-2)) hx hb hr (fun t ht hW => ⟨⟨_, (0, ph, pr, mo, rf, gr, hd, st, ch, rs), rfl, ⟨fun _ => ⟨rfl, rfl⟩, fun h => absurd (by simp [fBad, c_1, c_2, c_3]) h⟩, xB_end hP hK hN hD ht hW⟩, hS.F ht⟩) hS.2.2 dX2_step_37
      · skip
        replace c_3 := mt (lg_cmp_lt _ _).mpr c_3
        refine lv_lload_n hx hb dX2_step_27 rfl (lv_at hl 2 rfl) ?_
        refine lv_ldc2 hx hb hown (hts _ hm4) dX2_step_28 ?_
        refine W.lcmp hx hb dX2_step_31 ?_
        refine lv_if_le (tgt := 38) hx hb dX2_step_32 (by decide) (fun c_4 => ?_) (fun c_4 => ?_)
        · skip
          replace c_4 := (lg_cmp_le _ _).mp c_4
          replace c_4 := i64_nlt c_4
          refine lv_aload_n hx hb dX2_step_38 rfl (lv_at hl 0 rfl) ?_
          refine lv_dup hx hb dX2_step_39 rfl ?_
          refine va_get (D := D) (ci := 2) (v := .int st) (C := RX2) (T := TX2) (N := 14) hx hb hts (by decide +kernel) hown hK hP 0 rfl rfl 11 (by decide) (hts _ hm5) (fun _ h9 => h9) rfl dX2_step_40 ?_
          refine lv_iconst (v := 1) hx hb dX2_step_43 (by decide) ?_
          refine lv_iadd hx hb dX2_step_44 ?_
          refine va_put (D := D) (ci := 2) (v := .int (st + 1)) (ty := .int) (C := RX2) (T := TX2) (N := 14) hx hb hts (by decide +kernel) tyX2 tyX2_ok nmX2 hown hK hP hD hS 0 rfl rfl 11 (by decide) (hts _ hm5) (fun _ h9 => h9) rfl (by decide +kernel) rfl rfl (Nat.le_of_ble_eq_true rfl) dX2_step_45 (fun H locs hP hD hS => ?_)
          replace hP : va_P D vwCl (mw m0 a C 0 (nI n) sp lo ph pr bo mo rf gr hd (st + 1) ch rs) H := hP
          replace hD : va_D A (mw m0 a C 0 (nI n) sp lo ph pr bo mo rf gr hd (st + 1) ch rs) := hD
          refine lv_aload_n hx hb dX2_step_48 rfl (lv_at hl 0 rfl) ?_
          refine lv_lload_n hx hb dX2_step_49 rfl (lv_at hl 1 rfl) ?_
          have hF := xF hD hS hA
          refine va_callv (va_runV (As := [.long ped]) (rest := []) ⟨hx, hb, hml, hown, hts⟩ (m2_refer l D m0 a C n 0 sp lo ph pr bo mo rf gr hd (st + 1) ch rs hn ped _) (cwV 1 hts gX2_step_X2_refer rfl rfl rfl (by decide +kernel) ⟨Nat.le_of_ble_eq_true rfl, Nat.le_of_ble_eq_true rfl⟩) ⟨xW_blind, va_recv hK hP (ci := 2) (q0 := 0) rfl rfl, xW_at hP hK hN hD⟩ rfl rfl hl.1 rfl (lv_room (Nat.le_of_ble_eq_true rfl)) dX2_step_50 ⟨Nat.le_of_ble_eq_true rfl, Nat.le_of_ble_eq_true rfl⟩) hS (fun q _ h => hF q h) hF (fun u t H locs ht hvm hpo hB hz1 hk1 hS => ?_)
          obtain ⟨hP, hD⟩ := xB_use hB ht hF
          rw [hpo] at hP hD
          clear hB hk1 hz1 ht hvm
          replace hP : va_P D vwCl (mw m0 a C 0 (nI n) sp lo ph pr bo mo (mRef n ped rf lo sp) gr hd (st + 1) ch rs) H := hP
          replace hD : va_D A (mw m0 a C 0 (nI n) sp lo ph pr bo mo (mRef n ped rf lo sp) gr hd (st + 1) ch rs) := hD
          refine lv_iconst (v := 1) hx hb dX2_step_53 (by decide) ?_
          refine lv_istore (lv' := [(5, .int 1), (0, .ref m0), (1, .long ped), (3, .long sl)]) hx hb dX2_step_54 hl (by decide) rfl (fun ls hl => ?_)
          obtain ⟨j, mo2, hI⟩ : ∃ (j : Nat) (mo2 : Nat → UInt64), j ≤ n ∧ lv_has ls 8 [(5, .int (nI (j + 1))), (0, .ref m0), (1, .long ped), (3, .long sl)] ∧ va_P D vwCl (mw m0 a C 0 (nI n) sp lo (jPh lo ph (mRef n ped rf lo sp) ped sp pr j) (jPr mPr lo ph (mRef n ped rf lo sp) ped sp pr bo hd j) bo mo2 (mRef n ped rf lo sp) gr hd (st + 1) ch rs) H ∧ va_D A (mw m0 a C 0 (nI n) sp lo (jPh lo ph (mRef n ped rf lo sp) ped sp pr j) (jPr mPr lo ph (mRef n ped rf lo sp) ped sp pr bo hd j) bo mo2 (mRef n ped rf lo sp) gr hd (st + 1) ch rs) ∧ va_S A s.heap H locs ∧ s.drawn.sameBut dd lw_cs ∧ jM j mo sp (fun k => mPr (sPh (lo k) (mRef n ped rf lo sp) ped (sp k) (ph k) (pr k)) ped (pr k) hd (bo k)) mo2 := ⟨0, mo, Nat.zero_le _, by exact lv_sub hl [0, 1, 2, 3] rfl, by rw [jPh_0, jPr_0]; exact hP, by rw [jPh_0, jPr_0]; exact hD, hS, hdd, jM_0 _ _ _⟩
          obtain ⟨d, hjd⟩ : ∃ d, j + d = n := ⟨n - j, by omega⟩
          clear hl hts hN hK hP hD hS hdd
          induction d generalizing H locs ls dd j mo2 with
          | zero =>
            obtain ⟨hjn, hl, hP, hD, hS, hdd, hM⟩ := hI
            have hjn : j = n := by omega
            have hts := dr_words hts0 dd
            have hN := cN_draw (d := dd) hN0
            have hK : va_K D vwCl [(C 1, .long), (C 2, .boolean), (C 3, .int), (C 4, .long), (C 5, .long), (C 6, .double)] (s.setDrawn dd) := hK0
            rw [hjn] at hl hP hD
            rw [hjn] at hM
            refine lv_iload hx hb dX2_step_56 (lv_at hl 0 rfl) ?_
            refine lv_aload_n hx hb dX2_step_58 rfl (lv_at hl 1 rfl) ?_
            refine va_get (D := D) (ci := 2) (v := .int (nI n)) (C := RX2) (T := TX2) (N := 14) hx hb hts (by decide +kernel) hown hK hP 0 rfl rfl 1 (by decide) (hts _ hm6) (fun _ h9 => h9) rfl dX2_step_59 ?_
            refine lv_icmp_gt (tgt := 165) hx hb dX2_step_62 (by decide) (fun c_5 => ?_) (fun c_5 => absurd (nI_lt (Nat.lt_succ_self n) (by omega)) c_5)
            refine lv_aload_n hx hb dX2_step_165 rfl (lv_at hl 1 rfl) ?_
            refine lv_aload_n hx hb dX2_step_166 rfl (lv_at hl 1 rfl) ?_
            refine va_get (D := D) (ci := 2) (v := .int hd) (C := RX2) (T := TX2) (N := 14) hx hb hts (by decide +kernel) hown hK hP 0 rfl rfl 10 (by decide) (hts _ hm7) (fun _ h9 => h9) rfl dX2_step_167 ?_
            refine lv_if_eq (tgt := 188) hx hb dX2_step_170 (by decide) (fun c_6 => ?_) (fun c_6 => ?_)
            · skip
              refine lv_iconst (v := 0) hx hb dX2_step_188 (by decide) ?_
              refine va_put (D := D) (ci := 2) (v := .int 0) (ty := .boolean) (C := RX2) (T := TX2) (N := 14) hx hb hts (by decide +kernel) tyX2 tyX2_ok nmX2 hown hK hP hD hS 0 rfl rfl 10 (by decide) (hts _ hm7) (fun _ h9 => h9) rfl (by decide +kernel) rfl rfl (Nat.le_of_ble_eq_true rfl) dX2_step_189 (fun H locs hP hD hS => ?_)
              replace hP : va_P D vwCl (mw m0 a C 0 (nI n) sp lo (jPh lo ph (mRef n ped rf lo sp) ped sp pr n) (jPr mPr lo ph (mRef n ped rf lo sp) ped sp pr bo hd n) bo mo2 (mRef n ped rf lo sp) gr 0 (st + 1) ch rs) H := hP
              replace hD : va_D A (mw m0 a C 0 (nI n) sp lo (jPh lo ph (mRef n ped rf lo sp) ped sp pr n) (jPr mPr lo ph (mRef n ped rf lo sp) ped sp pr bo hd n) bo mo2 (mRef n ped rf lo sp) gr 0 (st + 1) ch rs) := hD
              refine lv_aload_n hx hb dX2_step_192 rfl (lv_at hl 1 rfl) ?_
              refine va_get (D := D) (ci := 2) (v := .int (st + 1)) (C := RX2) (T := TX2) (N := 14) hx hb hts (by decide +kernel) hown hK hP 0 rfl rfl 11 (by decide) (hts _ hm5) (fun _ h9 => h9) rfl dX2_step_193 ?_
              refine lv_aload_n hx hb dX2_step_196 rfl (lv_at hl 1 rfl) ?_
              refine va_get (D := D) (ci := 2) (v := .int ch) (C := RX2) (T := TX2) (N := 14) hx hb hts (by decide +kernel) hown hK hP 0 rfl rfl 12 (by decide) (hts _ hm8) (fun _ h9 => h9) rfl dX2_step_197 ?_
              refine lv_isub hx hb dX2_step_200 ?_
              refine lv_aload_n hx hb dX2_step_201 rfl (lv_at hl 1 rfl) ?_
              refine va_get (D := D) (ci := 2) (v := .int rs) (C := RX2) (T := TX2) (N := 14) hx hb hts (by decide +kernel) hown hK hP 0 rfl rfl 13 (by decide) (hts _ hm9) (fun _ h9 => h9) rfl dX2_step_202 ?_
              refine lv_icmp_lt (tgt := 302) hx hb dX2_step_205 (by decide) (fun c_7 => ?_) (fun c_7 => ?_)
              · skip
                refine lv_aload_n hx hb dX2_step_302 rfl (lv_at hl 1 rfl) ?_
                refine va_get (D := D) (ci := 2) (v := .int gr) (C := RX2) (T := TX2) (N := 14) hx hb hts (by decide +kernel) hown hK hP 0 rfl rfl 9 (by decide) (hts _ hm10) (fun _ h9 => h9) rfl dX2_step_303 ?_
                refine W.endD hdd ?_
                exact W.iret (v := gr) hx hb hr (fun t ht hW => ⟨⟨_, (0, jPh lo ph (mRef n ped rf lo sp) ped sp pr n, jPr mPr lo ph (mRef n ped rf lo sp) ped sp pr bo hd n, mo2, mRef n ped rf lo sp, gr, 0, st + 1, ch, rs), rfl, ⟨fun h => absurd h (by simp [fBad, c_1, c_2, c_3, c_4, c_6, c_7]), fun _ => ⟨mo2, by simp [sCode, sGr, sNx, c_1, c_2, c_3, c_4, c_6, c_7], by simp [sCode, sGr, c_1, c_2, c_3, c_4, c_6, c_7], fun k h1 h2 => by rw [jPr_in _ _ _ _ _ _ _ _ _ h1 h2]; exact hM.1 k h1 h2⟩⟩, xB_end hP hK hN hD ht hW⟩, hS.F ht⟩) hS.2.2 dX2_step_306
              · skip
                refine lv_aload_n hx hb dX2_step_208 rfl (lv_at hl 1 rfl) ?_
                refine va_get (D := D) (ci := 2) (v := .int gr) (C := RX2) (T := TX2) (N := 14) hx hb hts (by decide +kernel) hown hK hP 0 rfl rfl 9 (by decide) (hts _ hm10) (fun _ h9 => h9) rfl dX2_step_209 ?_
                refine lv_bipush (v := 6) hx hb dX2_step_212 (by decide) ?_
                refine lv_icmp_ge (tgt := 264) hx hb dX2_step_214 (by decide) (fun c_8 => ?_) (fun c_8 => ?_)
                · skip
                  refine lv_aload_n hx hb dX2_step_264 rfl (lv_at hl 1 rfl) ?_
                  refine va_get (D := D) (ci := 2) (v := .int gr) (C := RX2) (T := TX2) (N := 14) hx hb hts (by decide +kernel) hown hK hP 0 rfl rfl 9 (by decide) (hts _ hm10) (fun _ h9 => h9) rfl dX2_step_265 ?_
                  refine lv_iconst (v := 1) hx hb dX2_step_268 (by decide) ?_
                  refine lv_icmp_le (tgt := 302) hx hb dX2_step_269 (by decide) (fun c_9 => ?_) (fun c_9 => ?_)
                  · skip
                    refine lv_aload_n hx hb dX2_step_302 rfl (lv_at hl 1 rfl) ?_
                    refine va_get (D := D) (ci := 2) (v := .int gr) (C := RX2) (T := TX2) (N := 14) hx hb hts (by decide +kernel) hown hK hP 0 rfl rfl 9 (by decide) (hts _ hm10) (fun _ h9 => h9) rfl dX2_step_303 ?_
                    refine W.endD hdd ?_
                    exact W.iret (v := gr) hx hb hr (fun t ht hW => ⟨⟨_, (0, jPh lo ph (mRef n ped rf lo sp) ped sp pr n, jPr mPr lo ph (mRef n ped rf lo sp) ped sp pr bo hd n, mo2, mRef n ped rf lo sp, gr, 0, st + 1, ch, rs), rfl, ⟨fun h => absurd h (by simp [fBad, c_1, c_2, c_3, c_4, c_6, c_7, c_8, c_9]), fun _ => ⟨mo2, by simp [sCode, sGr, sNx, c_1, c_2, c_3, c_4, c_6, c_7, c_8, c_9], by simp [sCode, sGr, c_1, c_2, c_3, c_4, c_6, c_7, c_8, c_9], fun k h1 h2 => by rw [jPr_in _ _ _ _ _ _ _ _ _ h1 h2]; exact hM.1 k h1 h2⟩⟩, xB_end hP hK hN hD ht hW⟩, hS.F ht⟩) hS.2.2 dX2_step_306
                  · skip
                    refine lv_aload_n hx hb dX2_step_272 rfl (lv_at hl 1 rfl) ?_
                    refine va_get (D := D) (ci := 2) (v := .long (mRef n ped rf lo sp)) (C := RX2) (T := TX2) (N := 14) hx hb hts (by decide +kernel) hown hK hP 0 rfl rfl 8 (by decide) (hts _ hm11) (fun _ h9 => h9) rfl dX2_step_273 ?_
                    refine lv_ldc2 hx hb hown (hts _ hm12) dX2_step_276 ?_
                    refine lv_aload_n hx hb dX2_step_279 rfl (lv_at hl 1 rfl) ?_
                    refine va_get (D := D) (ci := 2) (v := .int gr) (C := RX2) (T := TX2) (N := 14) hx hb hts (by decide +kernel) hown hK hP 0 rfl rfl 9 (by decide) (hts _ hm10) (fun _ h9 => h9) rfl dX2_step_280 ?_
                    refine lv_iconst (v := 1) hx hb dX2_step_283 (by decide) ?_
                    refine lv_isub hx hb dX2_step_284 ?_
                    refine lv_i2l hx hb dX2_step_285 rfl ?_
                    refine lv_lmul hx hb dX2_step_286 ?_
                    refine W.lcmp hx hb dX2_step_287 ?_
                    refine lv_if_ge (tgt := 302) hx hb dX2_step_288 (by decide) (fun c_10 => ?_) (fun c_10 => ?_)
                    · skip
                      replace c_10 := (lg_cmp_ge _ _).mp c_10
                      refine lv_aload_n hx hb dX2_step_302 rfl (lv_at hl 1 rfl) ?_
                      refine va_get (D := D) (ci := 2) (v := .int gr) (C := RX2) (T := TX2) (N := 14) hx hb hts (by decide +kernel) hown hK hP 0 rfl rfl 9 (by decide) (hts _ hm10) (fun _ h9 => h9) rfl dX2_step_303 ?_
                      refine W.endD hdd ?_
                      exact W.iret (v := gr) hx hb hr (fun t ht hW => ⟨⟨_, (0, jPh lo ph (mRef n ped rf lo sp) ped sp pr n, jPr mPr lo ph (mRef n ped rf lo sp) ped sp pr bo hd n, mo2, mRef n ped rf lo sp, gr, 0, st + 1, ch, rs), rfl, ⟨fun h => absurd h (by simp [fBad, c_1, c_2, c_3, c_4, c_6, c_7, c_8, c_9, c_10]), fun _ => ⟨mo2, by simp [sCode, sGr, sNx, c_1, c_2, c_3, c_4, c_6, c_7, c_8, c_9, c_10], by simp [sCode, sGr, c_1, c_2, c_3, c_4, c_6, c_7, c_8, c_9, c_10], fun k h1 h2 => by rw [jPr_in _ _ _ _ _ _ _ _ _ h1 h2]; exact hM.1 k h1 h2⟩⟩, xB_end hP hK hN hD ht hW⟩, hS.F ht⟩) hS.2.2 dX2_step_306
                    · skip
                      replace c_10 := mt (lg_cmp_ge _ _).mpr c_10
                      refine lv_aload_n hx hb dX2_step_291 rfl (lv_at hl 1 rfl) ?_
                      refine lv_aload_n hx hb dX2_step_292 rfl (lv_at hl 1 rfl) ?_
                      refine va_get (D := D) (ci := 2) (v := .int gr) (C := RX2) (T := TX2) (N := 14) hx hb hts (by decide +kernel) hown hK hP 0 rfl rfl 9 (by decide) (hts _ hm10) (fun _ h9 => h9) rfl dX2_step_293 ?_
                      refine lv_iconst (v := 1) hx hb dX2_step_296 (by decide) ?_
                      refine lv_isub hx hb dX2_step_297 ?_
                      refine lv_iconst (v := 3) hx hb dX2_step_298 (by decide) ?_
                      have hF := xF hD hS hA
                      refine va_callv (va_runV (As := [.int (gr - 1), .int 3]) (rest := []) ⟨hx, hb, hml, hown, hts⟩ (m2_turn l D m0 a C n 0 sp lo (jPh lo ph (mRef n ped rf lo sp) ped sp pr n) (jPr mPr lo ph (mRef n ped rf lo sp) ped sp pr bo hd n) bo mo2 (mRef n ped rf lo sp) gr 0 (st + 1) ch rs hn (gr - 1) 3 _) (cwV 2 hts gX2_step_X2_turn rfl rfl rfl (by decide +kernel) ⟨Nat.le_of_ble_eq_true rfl, Nat.le_of_ble_eq_true rfl⟩) ⟨xW_blind, va_recv hK hP (ci := 2) (q0 := 0) rfl rfl, xW_at hP hK hN hD⟩ rfl rfl hl.1 rfl (lv_room (Nat.le_of_ble_eq_true rfl)) dX2_step_299 ⟨Nat.le_of_ble_eq_true rfl, Nat.le_of_ble_eq_true rfl⟩) hS (fun q _ h => hF q h) hF (fun u t H locs ht hvm hpo hB hz1 hk1 hS => ?_)
                      obtain ⟨hP, hD⟩ := xB_use hB ht hF
                      obtain ⟨u1, u2, u3⟩ := u
                      dsimp only at hpo hP hD
                      rw [hpo.1, hpo.2.1, hpo.2.2] at hP hD
                      clear hB hk1 hz1 ht hvm
                      replace hP : va_P D vwCl (mw m0 a C 0 (nI n) sp lo (jPh lo ph (mRef n ped rf lo sp) ped sp pr n) (jPr mPr lo ph (mRef n ped rf lo sp) ped sp pr bo hd n) bo mo2 (mRef n ped rf lo sp) (gr - 1) 0 (st + 1) (st + 1) 3) H := hP
                      replace hD : va_D A (mw m0 a C 0 (nI n) sp lo (jPh lo ph (mRef n ped rf lo sp) ped sp pr n) (jPr mPr lo ph (mRef n ped rf lo sp) ped sp pr bo hd n) bo mo2 (mRef n ped rf lo sp) (gr - 1) 0 (st + 1) (st + 1) 3) := hD
                      refine lv_aload_n hx hb dX2_step_302 rfl (lv_at hl 1 rfl) ?_
                      refine va_get (D := D) (ci := 2) (v := .int (gr - 1)) (C := RX2) (T := TX2) (N := 14) hx hb hts (by decide +kernel) hown hK hP 0 rfl rfl 9 (by decide) (hts _ hm10) (fun _ h9 => h9) rfl dX2_step_303 ?_
                      refine W.endD hdd ?_
                      exact W.iret (v := (gr - 1)) hx hb hr (fun t ht hW => ⟨⟨_, (0, jPh lo ph (mRef n ped rf lo sp) ped sp pr n, jPr mPr lo ph (mRef n ped rf lo sp) ped sp pr bo hd n, mo2, mRef n ped rf lo sp, gr - 1, 0, st + 1, st + 1, 3), rfl, ⟨fun h => absurd h (by simp [fBad, c_1, c_2, c_3, c_4, c_6, c_7, c_8, c_9, c_10]), fun _ => ⟨mo2, by simp [sCode, sGr, sNx, c_1, c_2, c_3, c_4, c_6, c_7, c_8, c_9, c_10], by simp [sCode, sGr, c_1, c_2, c_3, c_4, c_6, c_7, c_8, c_9, c_10], fun k h1 h2 => by rw [jPr_in _ _ _ _ _ _ _ _ _ h1 h2]; exact hM.1 k h1 h2⟩⟩, xB_end hP hK hN hD ht hW⟩, hS.F ht⟩) hS.2.2 dX2_step_306
                · skip
                  refine lv_aload_n hx hb dX2_step_217 rfl (lv_at hl 1 rfl) ?_
                  refine va_get (D := D) (ci := 2) (v := .long (mRef n ped rf lo sp)) (C := RX2) (T := TX2) (N := 14) hx hb hts (by decide +kernel) hown hK hP 0 rfl rfl 8 (by decide) (hts _ hm11) (fun _ h9 => h9) rfl dX2_step_218 ?_
                  refine lv_ldc2 hx hb hown (hts _ hm12) dX2_step_221 ?_
                  refine lv_aload_n hx hb dX2_step_224 rfl (lv_at hl 1 rfl) ?_
                  refine va_get (D := D) (ci := 2) (v := .int gr) (C := RX2) (T := TX2) (N := 14) hx hb hts (by decide +kernel) hown hK hP 0 rfl rfl 9 (by decide) (hts _ hm10) (fun _ h9 => h9) rfl dX2_step_225 ?_
                  refine lv_i2l hx hb dX2_step_228 rfl ?_
                  refine lv_lmul hx hb dX2_step_229 ?_
                  refine lv_ldc2 hx hb hown (hts _ hm13) dX2_step_230 ?_
                  refine lv_ladd hx hb dX2_step_233 ?_
                  refine lv_lload_n hx hb dX2_step_234 rfl (lv_at hl 3 rfl) ?_
                  refine lv_lconst (v := 0) hx hb dX2_step_235 (by decide) ?_
                  refine W.lcmp hx hb dX2_step_236 ?_
                  refine lv_if_le (tgt := 244) hx hb dX2_step_237 (by decide) (fun c_11 => ?_) (fun c_11 => ?_)
                  · skip
                    replace c_11 := (lg_cmp_le _ _).mp c_11
                    refine lv_lconst (v := 0) hx hb dX2_step_244 (by decide) ?_
                    refine W.eq (g2 := F0 m 245 ls [.long (mMx sl), .long ((20 * gr.toInt64) + 10), .long (mRef n ped rf lo sp)]) (by simp [mMx, c_11]) ?_
                    refine lv_ladd hx hb dX2_step_245 ?_
                    refine W.lcmp hx hb dX2_step_246 ?_
                    refine lv_if_le (tgt := 264) hx hb dX2_step_247 (by decide) (fun c_12 => ?_) (fun c_12 => ?_)
                    · skip
                      replace c_12 := (lg_cmp_le _ _).mp c_12
                      refine lv_aload_n hx hb dX2_step_264 rfl (lv_at hl 1 rfl) ?_
                      refine va_get (D := D) (ci := 2) (v := .int gr) (C := RX2) (T := TX2) (N := 14) hx hb hts (by decide +kernel) hown hK hP 0 rfl rfl 9 (by decide) (hts _ hm10) (fun _ h9 => h9) rfl dX2_step_265 ?_
                      refine lv_iconst (v := 1) hx hb dX2_step_268 (by decide) ?_
                      refine lv_icmp_le (tgt := 302) hx hb dX2_step_269 (by decide) (fun c_13 => ?_) (fun c_13 => ?_)
                      · skip
                        refine lv_aload_n hx hb dX2_step_302 rfl (lv_at hl 1 rfl) ?_
                        refine va_get (D := D) (ci := 2) (v := .int gr) (C := RX2) (T := TX2) (N := 14) hx hb hts (by decide +kernel) hown hK hP 0 rfl rfl 9 (by decide) (hts _ hm10) (fun _ h9 => h9) rfl dX2_step_303 ?_
                        refine W.endD hdd ?_
                        exact W.iret (v := gr) hx hb hr (fun t ht hW => ⟨⟨_, (0, jPh lo ph (mRef n ped rf lo sp) ped sp pr n, jPr mPr lo ph (mRef n ped rf lo sp) ped sp pr bo hd n, mo2, mRef n ped rf lo sp, gr, 0, st + 1, ch, rs), rfl, ⟨fun h => absurd h (by simp [fBad, c_1, c_2, c_3, c_4, c_6, c_7, c_8, c_11, c_12, c_13]), fun _ => ⟨mo2, by simp [sCode, sGr, sNx, c_1, c_2, c_3, c_4, c_6, c_7, c_8, c_11, c_12, c_13], by simp [sCode, sGr, c_1, c_2, c_3, c_4, c_6, c_7, c_8, c_11, c_12, c_13], fun k h1 h2 => by rw [jPr_in _ _ _ _ _ _ _ _ _ h1 h2]; exact hM.1 k h1 h2⟩⟩, xB_end hP hK hN hD ht hW⟩, hS.F ht⟩) hS.2.2 dX2_step_306
                      · skip
                        refine lv_aload_n hx hb dX2_step_272 rfl (lv_at hl 1 rfl) ?_
                        refine va_get (D := D) (ci := 2) (v := .long (mRef n ped rf lo sp)) (C := RX2) (T := TX2) (N := 14) hx hb hts (by decide +kernel) hown hK hP 0 rfl rfl 8 (by decide) (hts _ hm11) (fun _ h9 => h9) rfl dX2_step_273 ?_
                        refine lv_ldc2 hx hb hown (hts _ hm12) dX2_step_276 ?_
                        refine lv_aload_n hx hb dX2_step_279 rfl (lv_at hl 1 rfl) ?_
                        refine va_get (D := D) (ci := 2) (v := .int gr) (C := RX2) (T := TX2) (N := 14) hx hb hts (by decide +kernel) hown hK hP 0 rfl rfl 9 (by decide) (hts _ hm10) (fun _ h9 => h9) rfl dX2_step_280 ?_
                        refine lv_iconst (v := 1) hx hb dX2_step_283 (by decide) ?_
                        refine lv_isub hx hb dX2_step_284 ?_
                        refine lv_i2l hx hb dX2_step_285 rfl ?_
                        refine lv_lmul hx hb dX2_step_286 ?_
                        refine W.lcmp hx hb dX2_step_287 ?_
                        refine lv_if_ge (tgt := 302) hx hb dX2_step_288 (by decide) (fun c_14 => ?_) (fun c_14 => ?_)
                        · skip
                          replace c_14 := (lg_cmp_ge _ _).mp c_14
                          refine lv_aload_n hx hb dX2_step_302 rfl (lv_at hl 1 rfl) ?_
                          refine va_get (D := D) (ci := 2) (v := .int gr) (C := RX2) (T := TX2) (N := 14) hx hb hts (by decide +kernel) hown hK hP 0 rfl rfl 9 (by decide) (hts _ hm10) (fun _ h9 => h9) rfl dX2_step_303 ?_
                          refine W.endD hdd ?_
                          exact W.iret (v := gr) hx hb hr (fun t ht hW => ⟨⟨_, (0, jPh lo ph (mRef n ped rf lo sp) ped sp pr n, jPr mPr lo ph (mRef n ped rf lo sp) ped sp pr bo hd n, mo2, mRef n ped rf lo sp, gr, 0, st + 1, ch, rs), rfl, ⟨fun h => absurd h (by simp [fBad, c_1, c_2, c_3, c_4, c_6, c_7, c_8, c_11, c_12, c_13, c_14]), fun _ => ⟨mo2, by simp [sCode, sGr, sNx, c_1, c_2, c_3, c_4, c_6, c_7, c_8, c_11, c_12, c_13, c_14], by simp [sCode, sGr, c_1, c_2, c_3, c_4, c_6, c_7, c_8, c_11, c_12, c_13, c_14], fun k h1 h2 => by rw [jPr_in _ _ _ _ _ _ _ _ _ h1 h2]; exact hM.1 k h1 h2⟩⟩, xB_end hP hK hN hD ht hW⟩, hS.F ht⟩) hS.2.2 dX2_step_306
                        · skip
                          replace c_14 := mt (lg_cmp_ge _ _).mpr c_14
                          refine lv_aload_n hx hb dX2_step_291 rfl (lv_at hl 1 rfl) ?_
                          refine lv_aload_n hx hb dX2_step_292 rfl (lv_at hl 1 rfl) ?_
                          refine va_get (D := D) (ci := 2) (v := .int gr) (C := RX2) (T := TX2) (N := 14) hx hb hts (by decide +kernel) hown hK hP 0 rfl rfl 9 (by decide) (hts _ hm10) (fun _ h9 => h9) rfl dX2_step_293 ?_
                          refine lv_iconst (v := 1) hx hb dX2_step_296 (by decide) ?_
                          refine lv_isub hx hb dX2_step_297 ?_
                          refine lv_iconst (v := 3) hx hb dX2_step_298 (by decide) ?_
                          have hF := xF hD hS hA
                          refine va_callv (va_runV (As := [.int (gr - 1), .int 3]) (rest := []) ⟨hx, hb, hml, hown, hts⟩ (m2_turn l D m0 a C n 0 sp lo (jPh lo ph (mRef n ped rf lo sp) ped sp pr n) (jPr mPr lo ph (mRef n ped rf lo sp) ped sp pr bo hd n) bo mo2 (mRef n ped rf lo sp) gr 0 (st + 1) ch rs hn (gr - 1) 3 _) (cwV 2 hts gX2_step_X2_turn rfl rfl rfl (by decide +kernel) ⟨Nat.le_of_ble_eq_true rfl, Nat.le_of_ble_eq_true rfl⟩) ⟨xW_blind, va_recv hK hP (ci := 2) (q0 := 0) rfl rfl, xW_at hP hK hN hD⟩ rfl rfl hl.1 rfl (lv_room (Nat.le_of_ble_eq_true rfl)) dX2_step_299 ⟨Nat.le_of_ble_eq_true rfl, Nat.le_of_ble_eq_true rfl⟩) hS (fun q _ h => hF q h) hF (fun u t H locs ht hvm hpo hB hz1 hk1 hS => ?_)
                          obtain ⟨hP, hD⟩ := xB_use hB ht hF
                          obtain ⟨u1, u2, u3⟩ := u
                          dsimp only at hpo hP hD
                          rw [hpo.1, hpo.2.1, hpo.2.2] at hP hD
                          clear hB hk1 hz1 ht hvm
                          replace hP : va_P D vwCl (mw m0 a C 0 (nI n) sp lo (jPh lo ph (mRef n ped rf lo sp) ped sp pr n) (jPr mPr lo ph (mRef n ped rf lo sp) ped sp pr bo hd n) bo mo2 (mRef n ped rf lo sp) (gr - 1) 0 (st + 1) (st + 1) 3) H := hP
                          replace hD : va_D A (mw m0 a C 0 (nI n) sp lo (jPh lo ph (mRef n ped rf lo sp) ped sp pr n) (jPr mPr lo ph (mRef n ped rf lo sp) ped sp pr bo hd n) bo mo2 (mRef n ped rf lo sp) (gr - 1) 0 (st + 1) (st + 1) 3) := hD
                          refine lv_aload_n hx hb dX2_step_302 rfl (lv_at hl 1 rfl) ?_
                          refine va_get (D := D) (ci := 2) (v := .int (gr - 1)) (C := RX2) (T := TX2) (N := 14) hx hb hts (by decide +kernel) hown hK hP 0 rfl rfl 9 (by decide) (hts _ hm10) (fun _ h9 => h9) rfl dX2_step_303 ?_
                          refine W.endD hdd ?_
                          exact W.iret (v := (gr - 1)) hx hb hr (fun t ht hW => ⟨⟨_, (0, jPh lo ph (mRef n ped rf lo sp) ped sp pr n, jPr mPr lo ph (mRef n ped rf lo sp) ped sp pr bo hd n, mo2, mRef n ped rf lo sp, gr - 1, 0, st + 1, st + 1, 3), rfl, ⟨fun h => absurd h (by simp [fBad, c_1, c_2, c_3, c_4, c_6, c_7, c_8, c_11, c_12, c_13, c_14]), fun _ => ⟨mo2, by simp [sCode, sGr, sNx, c_1, c_2, c_3, c_4, c_6, c_7, c_8, c_11, c_12, c_13, c_14], by simp [sCode, sGr, c_1, c_2, c_3, c_4, c_6, c_7, c_8, c_11, c_12, c_13, c_14], fun k h1 h2 => by rw [jPr_in _ _ _ _ _ _ _ _ _ h1 h2]; exact hM.1 k h1 h2⟩⟩, xB_end hP hK hN hD ht hW⟩, hS.F ht⟩) hS.2.2 dX2_step_306
                    · skip
                      replace c_12 := mt (lg_cmp_le _ _).mpr c_12
                      refine lv_aload_n hx hb dX2_step_250 rfl (lv_at hl 1 rfl) ?_
                      refine lv_aload_n hx hb dX2_step_251 rfl (lv_at hl 1 rfl) ?_
                      refine va_get (D := D) (ci := 2) (v := .int gr) (C := RX2) (T := TX2) (N := 14) hx hb hts (by decide +kernel) hown hK hP 0 rfl rfl 9 (by decide) (hts _ hm10) (fun _ h9 => h9) rfl dX2_step_252 ?_
                      refine lv_iconst (v := 1) hx hb dX2_step_255 (by decide) ?_
                      refine lv_iadd hx hb dX2_step_256 ?_
                      refine lv_iconst (v := 3) hx hb dX2_step_257 (by decide) ?_
                      have hF := xF hD hS hA
                      refine va_callv (va_runV (As := [.int (gr + 1), .int 3]) (rest := []) ⟨hx, hb, hml, hown, hts⟩ (m2_turn l D m0 a C n 0 sp lo (jPh lo ph (mRef n ped rf lo sp) ped sp pr n) (jPr mPr lo ph (mRef n ped rf lo sp) ped sp pr bo hd n) bo mo2 (mRef n ped rf lo sp) gr 0 (st + 1) ch rs hn (gr + 1) 3 _) (cwV 2 hts gX2_step_X2_turn rfl rfl rfl (by decide +kernel) ⟨Nat.le_of_ble_eq_true rfl, Nat.le_of_ble_eq_true rfl⟩) ⟨xW_blind, va_recv hK hP (ci := 2) (q0 := 0) rfl rfl, xW_at hP hK hN hD⟩ rfl rfl hl.1 rfl (lv_room (Nat.le_of_ble_eq_true rfl)) dX2_step_258 ⟨Nat.le_of_ble_eq_true rfl, Nat.le_of_ble_eq_true rfl⟩) hS (fun q _ h => hF q h) hF (fun u t H locs ht hvm hpo hB hz1 hk1 hS => ?_)
                      obtain ⟨hP, hD⟩ := xB_use hB ht hF
                      obtain ⟨u1, u2, u3⟩ := u
                      dsimp only at hpo hP hD
                      rw [hpo.1, hpo.2.1, hpo.2.2] at hP hD
                      clear hB hk1 hz1 ht hvm
                      replace hP : va_P D vwCl (mw m0 a C 0 (nI n) sp lo (jPh lo ph (mRef n ped rf lo sp) ped sp pr n) (jPr mPr lo ph (mRef n ped rf lo sp) ped sp pr bo hd n) bo mo2 (mRef n ped rf lo sp) (gr + 1) 0 (st + 1) (st + 1) 3) H := hP
                      replace hD : va_D A (mw m0 a C 0 (nI n) sp lo (jPh lo ph (mRef n ped rf lo sp) ped sp pr n) (jPr mPr lo ph (mRef n ped rf lo sp) ped sp pr bo hd n) bo mo2 (mRef n ped rf lo sp) (gr + 1) 0 (st + 1) (st + 1) 3) := hD
                      refine lv_goto (tgt := 302) hx hb dX2_step_261 (by decide) ?_
                      refine lv_aload_n hx hb dX2_step_302 rfl (lv_at hl 1 rfl) ?_
                      refine va_get (D := D) (ci := 2) (v := .int (gr + 1)) (C := RX2) (T := TX2) (N := 14) hx hb hts (by decide +kernel) hown hK hP 0 rfl rfl 9 (by decide) (hts _ hm10) (fun _ h9 => h9) rfl dX2_step_303 ?_
                      refine W.endD hdd ?_
                      exact W.iret (v := (gr + 1)) hx hb hr (fun t ht hW => ⟨⟨_, (0, jPh lo ph (mRef n ped rf lo sp) ped sp pr n, jPr mPr lo ph (mRef n ped rf lo sp) ped sp pr bo hd n, mo2, mRef n ped rf lo sp, gr + 1, 0, st + 1, st + 1, 3), rfl, ⟨fun h => absurd h (by simp [fBad, c_1, c_2, c_3, c_4, c_6, c_7, c_8, c_11, c_12]), fun _ => ⟨mo2, by simp [sCode, sGr, sNx, c_1, c_2, c_3, c_4, c_6, c_7, c_8, c_11, c_12], by simp [sCode, sGr, c_1, c_2, c_3, c_4, c_6, c_7, c_8, c_11, c_12], fun k h1 h2 => by rw [jPr_in _ _ _ _ _ _ _ _ _ h1 h2]; exact hM.1 k h1 h2⟩⟩, xB_end hP hK hN hD ht hW⟩, hS.F ht⟩) hS.2.2 dX2_step_306
                  · skip
                    replace c_11 := mt (lg_cmp_le _ _).mpr c_11
                    refine lv_lload_n hx hb dX2_step_240 rfl (lv_at hl 3 rfl) ?_
                    refine lv_goto (tgt := 245) hx hb dX2_step_241 (by decide) ?_
                    refine W.eq (g2 := F0 m 245 ls [.long (mMx sl), .long ((20 * gr.toInt64) + 10), .long (mRef n ped rf lo sp)]) (by simp [mMx, c_11]) ?_
                    refine lv_ladd hx hb dX2_step_245 ?_
                    refine W.lcmp hx hb dX2_step_246 ?_
                    refine lv_if_le (tgt := 264) hx hb dX2_step_247 (by decide) (fun c_15 => ?_) (fun c_15 => ?_)
                    · skip
                      replace c_15 := (lg_cmp_le _ _).mp c_15
                      refine lv_aload_n hx hb dX2_step_264 rfl (lv_at hl 1 rfl) ?_
                      refine va_get (D := D) (ci := 2) (v := .int gr) (C := RX2) (T := TX2) (N := 14) hx hb hts (by decide +kernel) hown hK hP 0 rfl rfl 9 (by decide) (hts _ hm10) (fun _ h9 => h9) rfl dX2_step_265 ?_
                      refine lv_iconst (v := 1) hx hb dX2_step_268 (by decide) ?_
                      refine lv_icmp_le (tgt := 302) hx hb dX2_step_269 (by decide) (fun c_16 => ?_) (fun c_16 => ?_)
                      · skip
                        refine lv_aload_n hx hb dX2_step_302 rfl (lv_at hl 1 rfl) ?_
                        refine va_get (D := D) (ci := 2) (v := .int gr) (C := RX2) (T := TX2) (N := 14) hx hb hts (by decide +kernel) hown hK hP 0 rfl rfl 9 (by decide) (hts _ hm10) (fun _ h9 => h9) rfl dX2_step_303 ?_
                        refine W.endD hdd ?_
                        exact W.iret (v := gr) hx hb hr (fun t ht hW => ⟨⟨_, (0, jPh lo ph (mRef n ped rf lo sp) ped sp pr n, jPr mPr lo ph (mRef n ped rf lo sp) ped sp pr bo hd n, mo2, mRef n ped rf lo sp, gr, 0, st + 1, ch, rs), rfl, ⟨fun h => absurd h (by simp [fBad, c_1, c_2, c_3, c_4, c_6, c_7, c_8, c_11, c_15, c_16]), fun _ => ⟨mo2, by simp [sCode, sGr, sNx, c_1, c_2, c_3, c_4, c_6, c_7, c_8, c_11, c_15, c_16], by simp [sCode, sGr, c_1, c_2, c_3, c_4, c_6, c_7, c_8, c_11, c_15, c_16], fun k h1 h2 => by rw [jPr_in _ _ _ _ _ _ _ _ _ h1 h2]; exact hM.1 k h1 h2⟩⟩, xB_end hP hK hN hD ht hW⟩, hS.F ht⟩) hS.2.2 dX2_step_306
                      · skip
                        refine lv_aload_n hx hb dX2_step_272 rfl (lv_at hl 1 rfl) ?_
                        refine va_get (D := D) (ci := 2) (v := .long (mRef n ped rf lo sp)) (C := RX2) (T := TX2) (N := 14) hx hb hts (by decide +kernel) hown hK hP 0 rfl rfl 8 (by decide) (hts _ hm11) (fun _ h9 => h9) rfl dX2_step_273 ?_
                        refine lv_ldc2 hx hb hown (hts _ hm12) dX2_step_276 ?_
                        refine lv_aload_n hx hb dX2_step_279 rfl (lv_at hl 1 rfl) ?_
                        refine va_get (D := D) (ci := 2) (v := .int gr) (C := RX2) (T := TX2) (N := 14) hx hb hts (by decide +kernel) hown hK hP 0 rfl rfl 9 (by decide) (hts _ hm10) (fun _ h9 => h9) rfl dX2_step_280 ?_
                        refine lv_iconst (v := 1) hx hb dX2_step_283 (by decide) ?_
                        refine lv_isub hx hb dX2_step_284 ?_
                        refine lv_i2l hx hb dX2_step_285 rfl ?_
                        refine lv_lmul hx hb dX2_step_286 ?_
                        refine W.lcmp hx hb dX2_step_287 ?_
                        refine lv_if_ge (tgt := 302) hx hb dX2_step_288 (by decide) (fun c_17 => ?_) (fun c_17 => ?_)
                        · skip
                          replace c_17 := (lg_cmp_ge _ _).mp c_17
                          refine lv_aload_n hx hb dX2_step_302 rfl (lv_at hl 1 rfl) ?_
                          refine va_get (D := D) (ci := 2) (v := .int gr) (C := RX2) (T := TX2) (N := 14) hx hb hts (by decide +kernel) hown hK hP 0 rfl rfl 9 (by decide) (hts _ hm10) (fun _ h9 => h9) rfl dX2_step_303 ?_
                          refine W.endD hdd ?_
                          exact W.iret (v := gr) hx hb hr (fun t ht hW => ⟨⟨_, (0, jPh lo ph (mRef n ped rf lo sp) ped sp pr n, jPr mPr lo ph (mRef n ped rf lo sp) ped sp pr bo hd n, mo2, mRef n ped rf lo sp, gr, 0, st + 1, ch, rs), rfl, ⟨fun h => absurd h (by simp [fBad, c_1, c_2, c_3, c_4, c_6, c_7, c_8, c_11, c_15, c_16, c_17]), fun _ => ⟨mo2, by simp [sCode, sGr, sNx, c_1, c_2, c_3, c_4, c_6, c_7, c_8, c_11, c_15, c_16, c_17], by simp [sCode, sGr, c_1, c_2, c_3, c_4, c_6, c_7, c_8, c_11, c_15, c_16, c_17], fun k h1 h2 => by rw [jPr_in _ _ _ _ _ _ _ _ _ h1 h2]; exact hM.1 k h1 h2⟩⟩, xB_end hP hK hN hD ht hW⟩, hS.F ht⟩) hS.2.2 dX2_step_306
                        · skip
                          replace c_17 := mt (lg_cmp_ge _ _).mpr c_17
                          refine lv_aload_n hx hb dX2_step_291 rfl (lv_at hl 1 rfl) ?_
                          refine lv_aload_n hx hb dX2_step_292 rfl (lv_at hl 1 rfl) ?_
                          refine va_get (D := D) (ci := 2) (v := .int gr) (C := RX2) (T := TX2) (N := 14) hx hb hts (by decide +kernel) hown hK hP 0 rfl rfl 9 (by decide) (hts _ hm10) (fun _ h9 => h9) rfl dX2_step_293 ?_
                          refine lv_iconst (v := 1) hx hb dX2_step_296 (by decide) ?_
                          refine lv_isub hx hb dX2_step_297 ?_
                          refine lv_iconst (v := 3) hx hb dX2_step_298 (by decide) ?_
                          have hF := xF hD hS hA
                          refine va_callv (va_runV (As := [.int (gr - 1), .int 3]) (rest := []) ⟨hx, hb, hml, hown, hts⟩ (m2_turn l D m0 a C n 0 sp lo (jPh lo ph (mRef n ped rf lo sp) ped sp pr n) (jPr mPr lo ph (mRef n ped rf lo sp) ped sp pr bo hd n) bo mo2 (mRef n ped rf lo sp) gr 0 (st + 1) ch rs hn (gr - 1) 3 _) (cwV 2 hts gX2_step_X2_turn rfl rfl rfl (by decide +kernel) ⟨Nat.le_of_ble_eq_true rfl, Nat.le_of_ble_eq_true rfl⟩) ⟨xW_blind, va_recv hK hP (ci := 2) (q0 := 0) rfl rfl, xW_at hP hK hN hD⟩ rfl rfl hl.1 rfl (lv_room (Nat.le_of_ble_eq_true rfl)) dX2_step_299 ⟨Nat.le_of_ble_eq_true rfl, Nat.le_of_ble_eq_true rfl⟩) hS (fun q _ h => hF q h) hF (fun u t H locs ht hvm hpo hB hz1 hk1 hS => ?_)
                          obtain ⟨hP, hD⟩ := xB_use hB ht hF
                          obtain ⟨u1, u2, u3⟩ := u
                          dsimp only at hpo hP hD
                          rw [hpo.1, hpo.2.1, hpo.2.2] at hP hD
                          clear hB hk1 hz1 ht hvm
                          replace hP : va_P D vwCl (mw m0 a C 0 (nI n) sp lo (jPh lo ph (mRef n ped rf lo sp) ped sp pr n) (jPr mPr lo ph (mRef n ped rf lo sp) ped sp pr bo hd n) bo mo2 (mRef n ped rf lo sp) (gr - 1) 0 (st + 1) (st + 1) 3) H := hP
                          replace hD : va_D A (mw m0 a C 0 (nI n) sp lo (jPh lo ph (mRef n ped rf lo sp) ped sp pr n) (jPr mPr lo ph (mRef n ped rf lo sp) ped sp pr bo hd n) bo mo2 (mRef n ped rf lo sp) (gr - 1) 0 (st + 1) (st + 1) 3) := hD
                          refine lv_aload_n hx hb dX2_step_302 rfl (lv_at hl 1 rfl) ?_
                          refine va_get (D := D) (ci := 2) (v := .int (gr - 1)) (C := RX2) (T := TX2) (N := 14) hx hb hts (by decide +kernel) hown hK hP 0 rfl rfl 9 (by decide) (hts _ hm10) (fun _ h9 => h9) rfl dX2_step_303 ?_
                          refine W.endD hdd ?_
                          exact W.iret (v := (gr - 1)) hx hb hr (fun t ht hW => ⟨⟨_, (0, jPh lo ph (mRef n ped rf lo sp) ped sp pr n, jPr mPr lo ph (mRef n ped rf lo sp) ped sp pr bo hd n, mo2, mRef n ped rf lo sp, gr - 1, 0, st + 1, st + 1, 3), rfl, ⟨fun h => absurd h (by simp [fBad, c_1, c_2, c_3, c_4, c_6, c_7, c_8, c_11, c_15, c_16, c_17]), fun _ => ⟨mo2, by simp [sCode, sGr, sNx, c_1, c_2, c_3, c_4, c_6, c_7, c_8, c_11, c_15, c_16, c_17], by simp [sCode, sGr, c_1, c_2, c_3, c_4, c_6, c_7, c_8, c_11, c_15, c_16, c_17], fun k h1 h2 => by rw [jPr_in _ _ _ _ _ _ _ _ _ h1 h2]; exact hM.1 k h1 h2⟩⟩, xB_end hP hK hN hD ht hW⟩, hS.F ht⟩) hS.2.2 dX2_step_306
                    · skip
                      replace c_15 := mt (lg_cmp_le _ _).mpr c_15
                      refine lv_aload_n hx hb dX2_step_250 rfl (lv_at hl 1 rfl) ?_
                      refine lv_aload_n hx hb dX2_step_251 rfl (lv_at hl 1 rfl) ?_
                      refine va_get (D := D) (ci := 2) (v := .int gr) (C := RX2) (T := TX2) (N := 14) hx hb hts (by decide +kernel) hown hK hP 0 rfl rfl 9 (by decide) (hts _ hm10) (fun _ h9 => h9) rfl dX2_step_252 ?_
                      refine lv_iconst (v := 1) hx hb dX2_step_255 (by decide) ?_
                      refine lv_iadd hx hb dX2_step_256 ?_
                      refine lv_iconst (v := 3) hx hb dX2_step_257 (by decide) ?_
                      have hF := xF hD hS hA
                      refine va_callv (va_runV (As := [.int (gr + 1), .int 3]) (rest := []) ⟨hx, hb, hml, hown, hts⟩ (m2_turn l D m0 a C n 0 sp lo (jPh lo ph (mRef n ped rf lo sp) ped sp pr n) (jPr mPr lo ph (mRef n ped rf lo sp) ped sp pr bo hd n) bo mo2 (mRef n ped rf lo sp) gr 0 (st + 1) ch rs hn (gr + 1) 3 _) (cwV 2 hts gX2_step_X2_turn rfl rfl rfl (by decide +kernel) ⟨Nat.le_of_ble_eq_true rfl, Nat.le_of_ble_eq_true rfl⟩) ⟨xW_blind, va_recv hK hP (ci := 2) (q0 := 0) rfl rfl, xW_at hP hK hN hD⟩ rfl rfl hl.1 rfl (lv_room (Nat.le_of_ble_eq_true rfl)) dX2_step_258 ⟨Nat.le_of_ble_eq_true rfl, Nat.le_of_ble_eq_true rfl⟩) hS (fun q _ h => hF q h) hF (fun u t H locs ht hvm hpo hB hz1 hk1 hS => ?_)
                      obtain ⟨hP, hD⟩ := xB_use hB ht hF
                      obtain ⟨u1, u2, u3⟩ := u
                      dsimp only at hpo hP hD
                      rw [hpo.1, hpo.2.1, hpo.2.2] at hP hD
                      clear hB hk1 hz1 ht hvm
                      replace hP : va_P D vwCl (mw m0 a C 0 (nI n) sp lo (jPh lo ph (mRef n ped rf lo sp) ped sp pr n) (jPr mPr lo ph (mRef n ped rf lo sp) ped sp pr bo hd n) bo mo2 (mRef n ped rf lo sp) (gr + 1) 0 (st + 1) (st + 1) 3) H := hP
                      replace hD : va_D A (mw m0 a C 0 (nI n) sp lo (jPh lo ph (mRef n ped rf lo sp) ped sp pr n) (jPr mPr lo ph (mRef n ped rf lo sp) ped sp pr bo hd n) bo mo2 (mRef n ped rf lo sp) (gr + 1) 0 (st + 1) (st + 1) 3) := hD
                      refine lv_goto (tgt := 302) hx hb dX2_step_261 (by decide) ?_
                      refine lv_aload_n hx hb dX2_step_302 rfl (lv_at hl 1 rfl) ?_
                      refine va_get (D := D) (ci := 2) (v := .int (gr + 1)) (C := RX2) (T := TX2) (N := 14) hx hb hts (by decide +kernel) hown hK hP 0 rfl rfl 9 (by decide) (hts _ hm10) (fun _ h9 => h9) rfl dX2_step_303 ?_
                      refine W.endD hdd ?_
                      exact W.iret (v := (gr + 1)) hx hb hr (fun t ht hW => ⟨⟨_, (0, jPh lo ph (mRef n ped rf lo sp) ped sp pr n, jPr mPr lo ph (mRef n ped rf lo sp) ped sp pr bo hd n, mo2, mRef n ped rf lo sp, gr + 1, 0, st + 1, st + 1, 3), rfl, ⟨fun h => absurd h (by simp [fBad, c_1, c_2, c_3, c_4, c_6, c_7, c_8, c_11, c_15]), fun _ => ⟨mo2, by simp [sCode, sGr, sNx, c_1, c_2, c_3, c_4, c_6, c_7, c_8, c_11, c_15], by simp [sCode, sGr, c_1, c_2, c_3, c_4, c_6, c_7, c_8, c_11, c_15], fun k h1 h2 => by rw [jPr_in _ _ _ _ _ _ _ _ _ h1 h2]; exact hM.1 k h1 h2⟩⟩, xB_end hP hK hN hD ht hW⟩, hS.F ht⟩) hS.2.2 dX2_step_306
            · skip
              refine lv_aload_n hx hb dX2_step_173 rfl (lv_at hl 1 rfl) ?_
              refine va_get (D := D) (ci := 2) (v := .long (mRef n ped rf lo sp)) (C := RX2) (T := TX2) (N := 14) hx hb hts (by decide +kernel) hown hK hP 0 rfl rfl 8 (by decide) (hts _ hm11) (fun _ h9 => h9) rfl dX2_step_174 ?_
              refine lv_ldc2 hx hb hown (hts _ hm12) dX2_step_177 ?_
              refine W.lcmp hx hb dX2_step_180 ?_
              refine lv_if_gt (tgt := 188) hx hb dX2_step_181 (by decide) (fun c_18 => ?_) (fun c_18 => ?_)
              · skip
                replace c_18 := (lg_cmp_gt _ _).mp c_18
                refine lv_iconst (v := 0) hx hb dX2_step_188 (by decide) ?_
                refine va_put (D := D) (ci := 2) (v := .int 0) (ty := .boolean) (C := RX2) (T := TX2) (N := 14) hx hb hts (by decide +kernel) tyX2 tyX2_ok nmX2 hown hK hP hD hS 0 rfl rfl 10 (by decide) (hts _ hm7) (fun _ h9 => h9) rfl (by decide +kernel) rfl rfl (Nat.le_of_ble_eq_true rfl) dX2_step_189 (fun H locs hP hD hS => ?_)
                replace hP : va_P D vwCl (mw m0 a C 0 (nI n) sp lo (jPh lo ph (mRef n ped rf lo sp) ped sp pr n) (jPr mPr lo ph (mRef n ped rf lo sp) ped sp pr bo hd n) bo mo2 (mRef n ped rf lo sp) gr 0 (st + 1) ch rs) H := hP
                replace hD : va_D A (mw m0 a C 0 (nI n) sp lo (jPh lo ph (mRef n ped rf lo sp) ped sp pr n) (jPr mPr lo ph (mRef n ped rf lo sp) ped sp pr bo hd n) bo mo2 (mRef n ped rf lo sp) gr 0 (st + 1) ch rs) := hD
                refine lv_aload_n hx hb dX2_step_192 rfl (lv_at hl 1 rfl) ?_
                refine va_get (D := D) (ci := 2) (v := .int (st + 1)) (C := RX2) (T := TX2) (N := 14) hx hb hts (by decide +kernel) hown hK hP 0 rfl rfl 11 (by decide) (hts _ hm5) (fun _ h9 => h9) rfl dX2_step_193 ?_
                refine lv_aload_n hx hb dX2_step_196 rfl (lv_at hl 1 rfl) ?_
                refine va_get (D := D) (ci := 2) (v := .int ch) (C := RX2) (T := TX2) (N := 14) hx hb hts (by decide +kernel) hown hK hP 0 rfl rfl 12 (by decide) (hts _ hm8) (fun _ h9 => h9) rfl dX2_step_197 ?_
                refine lv_isub hx hb dX2_step_200 ?_
                refine lv_aload_n hx hb dX2_step_201 rfl (lv_at hl 1 rfl) ?_
                refine va_get (D := D) (ci := 2) (v := .int rs) (C := RX2) (T := TX2) (N := 14) hx hb hts (by decide +kernel) hown hK hP 0 rfl rfl 13 (by decide) (hts _ hm9) (fun _ h9 => h9) rfl dX2_step_202 ?_
                refine lv_icmp_lt (tgt := 302) hx hb dX2_step_205 (by decide) (fun c_19 => ?_) (fun c_19 => ?_)
                · skip
                  refine lv_aload_n hx hb dX2_step_302 rfl (lv_at hl 1 rfl) ?_
                  refine va_get (D := D) (ci := 2) (v := .int gr) (C := RX2) (T := TX2) (N := 14) hx hb hts (by decide +kernel) hown hK hP 0 rfl rfl 9 (by decide) (hts _ hm10) (fun _ h9 => h9) rfl dX2_step_303 ?_
                  refine W.endD hdd ?_
                  exact W.iret (v := gr) hx hb hr (fun t ht hW => ⟨⟨_, (0, jPh lo ph (mRef n ped rf lo sp) ped sp pr n, jPr mPr lo ph (mRef n ped rf lo sp) ped sp pr bo hd n, mo2, mRef n ped rf lo sp, gr, 0, st + 1, ch, rs), rfl, ⟨fun h => absurd h (by simp [fBad, c_1, c_2, c_3, c_4, c_6, c_18, c_19]), fun _ => ⟨mo2, by simp [sCode, sGr, sNx, c_1, c_2, c_3, c_4, c_6, c_18, c_19], by simp [sCode, sGr, c_1, c_2, c_3, c_4, c_6, c_18, c_19], fun k h1 h2 => by rw [jPr_in _ _ _ _ _ _ _ _ _ h1 h2]; exact hM.1 k h1 h2⟩⟩, xB_end hP hK hN hD ht hW⟩, hS.F ht⟩) hS.2.2 dX2_step_306
                · skip
                  refine lv_aload_n hx hb dX2_step_208 rfl (lv_at hl 1 rfl) ?_
                  refine va_get (D := D) (ci := 2) (v := .int gr) (C := RX2) (T := TX2) (N := 14) hx hb hts (by decide +kernel) hown hK hP 0 rfl rfl 9 (by decide) (hts _ hm10) (fun _ h9 => h9) rfl dX2_step_209 ?_
                  refine lv_bipush (v := 6) hx hb dX2_step_212 (by decide) ?_
                  refine lv_icmp_ge (tgt := 264) hx hb dX2_step_214 (by decide) (fun c_20 => ?_) (fun c_20 => ?_)
                  · skip
                    refine lv_aload_n hx hb dX2_step_264 rfl (lv_at hl 1 rfl) ?_
                    refine va_get (D := D) (ci := 2) (v := .int gr) (C := RX2) (T := TX2) (N := 14) hx hb hts (by decide +kernel) hown hK hP 0 rfl rfl 9 (by decide) (hts _ hm10) (fun _ h9 => h9) rfl dX2_step_265 ?_
                    refine lv_iconst (v := 1) hx hb dX2_step_268 (by decide) ?_
                    refine lv_icmp_le (tgt := 302) hx hb dX2_step_269 (by decide) (fun c_21 => ?_) (fun c_21 => ?_)
                    · skip
                      refine lv_aload_n hx hb dX2_step_302 rfl (lv_at hl 1 rfl) ?_
                      refine va_get (D := D) (ci := 2) (v := .int gr) (C := RX2) (T := TX2) (N := 14) hx hb hts (by decide +kernel) hown hK hP 0 rfl rfl 9 (by decide) (hts _ hm10) (fun _ h9 => h9) rfl dX2_step_303 ?_
                      refine W.endD hdd ?_
                      exact W.iret (v := gr) hx hb hr (fun t ht hW => ⟨⟨_, (0, jPh lo ph (mRef n ped rf lo sp) ped sp pr n, jPr mPr lo ph (mRef n ped rf lo sp) ped sp pr bo hd n, mo2, mRef n ped rf lo sp, gr, 0, st + 1, ch, rs), rfl, ⟨fun h => absurd h (by simp [fBad, c_1, c_2, c_3, c_4, c_6, c_18, c_19, c_20, c_21]), fun _ => ⟨mo2, by simp [sCode, sGr, sNx, c_1, c_2, c_3, c_4, c_6, c_18, c_19, c_20, c_21], by simp [sCode, sGr, c_1, c_2, c_3, c_4, c_6, c_18, c_19, c_20, c_21], fun k h1 h2 => by rw [jPr_in _ _ _ _ _ _ _ _ _ h1 h2]; exact hM.1 k h1 h2⟩⟩, xB_end hP hK hN hD ht hW⟩, hS.F ht⟩) hS.2.2 dX2_step_306
                    · skip
                      refine lv_aload_n hx hb dX2_step_272 rfl (lv_at hl 1 rfl) ?_
                      refine va_get (D := D) (ci := 2) (v := .long (mRef n ped rf lo sp)) (C := RX2) (T := TX2) (N := 14) hx hb hts (by decide +kernel) hown hK hP 0 rfl rfl 8 (by decide) (hts _ hm11) (fun _ h9 => h9) rfl dX2_step_273 ?_
                      refine lv_ldc2 hx hb hown (hts _ hm12) dX2_step_276 ?_
                      refine lv_aload_n hx hb dX2_step_279 rfl (lv_at hl 1 rfl) ?_
                      refine va_get (D := D) (ci := 2) (v := .int gr) (C := RX2) (T := TX2) (N := 14) hx hb hts (by decide +kernel) hown hK hP 0 rfl rfl 9 (by decide) (hts _ hm10) (fun _ h9 => h9) rfl dX2_step_280 ?_
                      refine lv_iconst (v := 1) hx hb dX2_step_283 (by decide) ?_
                      refine lv_isub hx hb dX2_step_284 ?_
                      refine lv_i2l hx hb dX2_step_285 rfl ?_
                      refine lv_lmul hx hb dX2_step_286 ?_
                      refine W.lcmp hx hb dX2_step_287 ?_
                      refine lv_if_ge (tgt := 302) hx hb dX2_step_288 (by decide) (fun c_22 => ?_) (fun c_22 => ?_)
                      · skip
                        replace c_22 := (lg_cmp_ge _ _).mp c_22
                        refine lv_aload_n hx hb dX2_step_302 rfl (lv_at hl 1 rfl) ?_
                        refine va_get (D := D) (ci := 2) (v := .int gr) (C := RX2) (T := TX2) (N := 14) hx hb hts (by decide +kernel) hown hK hP 0 rfl rfl 9 (by decide) (hts _ hm10) (fun _ h9 => h9) rfl dX2_step_303 ?_
                        refine W.endD hdd ?_
                        exact W.iret (v := gr) hx hb hr (fun t ht hW => ⟨⟨_, (0, jPh lo ph (mRef n ped rf lo sp) ped sp pr n, jPr mPr lo ph (mRef n ped rf lo sp) ped sp pr bo hd n, mo2, mRef n ped rf lo sp, gr, 0, st + 1, ch, rs), rfl, ⟨fun h => absurd h (by simp [fBad, c_1, c_2, c_3, c_4, c_6, c_18, c_19, c_20, c_21, c_22]), fun _ => ⟨mo2, by simp [sCode, sGr, sNx, c_1, c_2, c_3, c_4, c_6, c_18, c_19, c_20, c_21, c_22], by simp [sCode, sGr, c_1, c_2, c_3, c_4, c_6, c_18, c_19, c_20, c_21, c_22], fun k h1 h2 => by rw [jPr_in _ _ _ _ _ _ _ _ _ h1 h2]; exact hM.1 k h1 h2⟩⟩, xB_end hP hK hN hD ht hW⟩, hS.F ht⟩) hS.2.2 dX2_step_306
                      · skip
                        replace c_22 := mt (lg_cmp_ge _ _).mpr c_22
                        refine lv_aload_n hx hb dX2_step_291 rfl (lv_at hl 1 rfl) ?_
                        refine lv_aload_n hx hb dX2_step_292 rfl (lv_at hl 1 rfl) ?_
                        refine va_get (D := D) (ci := 2) (v := .int gr) (C := RX2) (T := TX2) (N := 14) hx hb hts (by decide +kernel) hown hK hP 0 rfl rfl 9 (by decide) (hts _ hm10) (fun _ h9 => h9) rfl dX2_step_293 ?_
                        refine lv_iconst (v := 1) hx hb dX2_step_296 (by decide) ?_
                        refine lv_isub hx hb dX2_step_297 ?_
                        refine lv_iconst (v := 3) hx hb dX2_step_298 (by decide) ?_
                        have hF := xF hD hS hA
                        refine va_callv (va_runV (As := [.int (gr - 1), .int 3]) (rest := []) ⟨hx, hb, hml, hown, hts⟩ (m2_turn l D m0 a C n 0 sp lo (jPh lo ph (mRef n ped rf lo sp) ped sp pr n) (jPr mPr lo ph (mRef n ped rf lo sp) ped sp pr bo hd n) bo mo2 (mRef n ped rf lo sp) gr 0 (st + 1) ch rs hn (gr - 1) 3 _) (cwV 2 hts gX2_step_X2_turn rfl rfl rfl (by decide +kernel) ⟨Nat.le_of_ble_eq_true rfl, Nat.le_of_ble_eq_true rfl⟩) ⟨xW_blind, va_recv hK hP (ci := 2) (q0 := 0) rfl rfl, xW_at hP hK hN hD⟩ rfl rfl hl.1 rfl (lv_room (Nat.le_of_ble_eq_true rfl)) dX2_step_299 ⟨Nat.le_of_ble_eq_true rfl, Nat.le_of_ble_eq_true rfl⟩) hS (fun q _ h => hF q h) hF (fun u t H locs ht hvm hpo hB hz1 hk1 hS => ?_)
                        obtain ⟨hP, hD⟩ := xB_use hB ht hF
                        obtain ⟨u1, u2, u3⟩ := u
                        dsimp only at hpo hP hD
                        rw [hpo.1, hpo.2.1, hpo.2.2] at hP hD
                        clear hB hk1 hz1 ht hvm
                        replace hP : va_P D vwCl (mw m0 a C 0 (nI n) sp lo (jPh lo ph (mRef n ped rf lo sp) ped sp pr n) (jPr mPr lo ph (mRef n ped rf lo sp) ped sp pr bo hd n) bo mo2 (mRef n ped rf lo sp) (gr - 1) 0 (st + 1) (st + 1) 3) H := hP
                        replace hD : va_D A (mw m0 a C 0 (nI n) sp lo (jPh lo ph (mRef n ped rf lo sp) ped sp pr n) (jPr mPr lo ph (mRef n ped rf lo sp) ped sp pr bo hd n) bo mo2 (mRef n ped rf lo sp) (gr - 1) 0 (st + 1) (st + 1) 3) := hD
                        refine lv_aload_n hx hb dX2_step_302 rfl (lv_at hl 1 rfl) ?_
                        refine va_get (D := D) (ci := 2) (v := .int (gr - 1)) (C := RX2) (T := TX2) (N := 14) hx hb hts (by decide +kernel) hown hK hP 0 rfl rfl 9 (by decide) (hts _ hm10) (fun _ h9 => h9) rfl dX2_step_303 ?_
                        refine W.endD hdd ?_
                        exact W.iret (v := (gr - 1)) hx hb hr (fun t ht hW => ⟨⟨_, (0, jPh lo ph (mRef n ped rf lo sp) ped sp pr n, jPr mPr lo ph (mRef n ped rf lo sp) ped sp pr bo hd n, mo2, mRef n ped rf lo sp, gr - 1, 0, st + 1, st + 1, 3), rfl, ⟨fun h => absurd h (by simp [fBad, c_1, c_2, c_3, c_4, c_6, c_18, c_19, c_20, c_21, c_22]), fun _ => ⟨mo2, by simp [sCode, sGr, sNx, c_1, c_2, c_3, c_4, c_6, c_18, c_19, c_20, c_21, c_22], by simp [sCode, sGr, c_1, c_2, c_3, c_4, c_6, c_18, c_19, c_20, c_21, c_22], fun k h1 h2 => by rw [jPr_in _ _ _ _ _ _ _ _ _ h1 h2]; exact hM.1 k h1 h2⟩⟩, xB_end hP hK hN hD ht hW⟩, hS.F ht⟩) hS.2.2 dX2_step_306
                  · skip
                    refine lv_aload_n hx hb dX2_step_217 rfl (lv_at hl 1 rfl) ?_
                    refine va_get (D := D) (ci := 2) (v := .long (mRef n ped rf lo sp)) (C := RX2) (T := TX2) (N := 14) hx hb hts (by decide +kernel) hown hK hP 0 rfl rfl 8 (by decide) (hts _ hm11) (fun _ h9 => h9) rfl dX2_step_218 ?_
                    refine lv_ldc2 hx hb hown (hts _ hm12) dX2_step_221 ?_
                    refine lv_aload_n hx hb dX2_step_224 rfl (lv_at hl 1 rfl) ?_
                    refine va_get (D := D) (ci := 2) (v := .int gr) (C := RX2) (T := TX2) (N := 14) hx hb hts (by decide +kernel) hown hK hP 0 rfl rfl 9 (by decide) (hts _ hm10) (fun _ h9 => h9) rfl dX2_step_225 ?_
                    refine lv_i2l hx hb dX2_step_228 rfl ?_
                    refine lv_lmul hx hb dX2_step_229 ?_
                    refine lv_ldc2 hx hb hown (hts _ hm13) dX2_step_230 ?_
                    refine lv_ladd hx hb dX2_step_233 ?_
                    refine lv_lload_n hx hb dX2_step_234 rfl (lv_at hl 3 rfl) ?_
                    refine lv_lconst (v := 0) hx hb dX2_step_235 (by decide) ?_
                    refine W.lcmp hx hb dX2_step_236 ?_
                    refine lv_if_le (tgt := 244) hx hb dX2_step_237 (by decide) (fun c_23 => ?_) (fun c_23 => ?_)
                    · skip
                      replace c_23 := (lg_cmp_le _ _).mp c_23
                      refine lv_lconst (v := 0) hx hb dX2_step_244 (by decide) ?_
                      refine W.eq (g2 := F0 m 245 ls [.long (mMx sl), .long ((20 * gr.toInt64) + 10), .long (mRef n ped rf lo sp)]) (by simp [mMx, c_23]) ?_
                      refine lv_ladd hx hb dX2_step_245 ?_
                      refine W.lcmp hx hb dX2_step_246 ?_
                      refine lv_if_le (tgt := 264) hx hb dX2_step_247 (by decide) (fun c_24 => ?_) (fun c_24 => ?_)
                      · skip
                        replace c_24 := (lg_cmp_le _ _).mp c_24
                        refine lv_aload_n hx hb dX2_step_264 rfl (lv_at hl 1 rfl) ?_
                        refine va_get (D := D) (ci := 2) (v := .int gr) (C := RX2) (T := TX2) (N := 14) hx hb hts (by decide +kernel) hown hK hP 0 rfl rfl 9 (by decide) (hts _ hm10) (fun _ h9 => h9) rfl dX2_step_265 ?_
                        refine lv_iconst (v := 1) hx hb dX2_step_268 (by decide) ?_
                        refine lv_icmp_le (tgt := 302) hx hb dX2_step_269 (by decide) (fun c_25 => ?_) (fun c_25 => ?_)
                        · skip
                          refine lv_aload_n hx hb dX2_step_302 rfl (lv_at hl 1 rfl) ?_
                          refine va_get (D := D) (ci := 2) (v := .int gr) (C := RX2) (T := TX2) (N := 14) hx hb hts (by decide +kernel) hown hK hP 0 rfl rfl 9 (by decide) (hts _ hm10) (fun _ h9 => h9) rfl dX2_step_303 ?_
                          refine W.endD hdd ?_
                          exact W.iret (v := gr) hx hb hr (fun t ht hW => ⟨⟨_, (0, jPh lo ph (mRef n ped rf lo sp) ped sp pr n, jPr mPr lo ph (mRef n ped rf lo sp) ped sp pr bo hd n, mo2, mRef n ped rf lo sp, gr, 0, st + 1, ch, rs), rfl, ⟨fun h => absurd h (by simp [fBad, c_1, c_2, c_3, c_4, c_6, c_18, c_19, c_20, c_23, c_24, c_25]), fun _ => ⟨mo2, by simp [sCode, sGr, sNx, c_1, c_2, c_3, c_4, c_6, c_18, c_19, c_20, c_23, c_24, c_25], by simp [sCode, sGr, c_1, c_2, c_3, c_4, c_6, c_18, c_19, c_20, c_23, c_24, c_25], fun k h1 h2 => by rw [jPr_in _ _ _ _ _ _ _ _ _ h1 h2]; exact hM.1 k h1 h2⟩⟩, xB_end hP hK hN hD ht hW⟩, hS.F ht⟩) hS.2.2 dX2_step_306
                        · skip
                          refine lv_aload_n hx hb dX2_step_272 rfl (lv_at hl 1 rfl) ?_
                          refine va_get (D := D) (ci := 2) (v := .long (mRef n ped rf lo sp)) (C := RX2) (T := TX2) (N := 14) hx hb hts (by decide +kernel) hown hK hP 0 rfl rfl 8 (by decide) (hts _ hm11) (fun _ h9 => h9) rfl dX2_step_273 ?_
                          refine lv_ldc2 hx hb hown (hts _ hm12) dX2_step_276 ?_
                          refine lv_aload_n hx hb dX2_step_279 rfl (lv_at hl 1 rfl) ?_
                          refine va_get (D := D) (ci := 2) (v := .int gr) (C := RX2) (T := TX2) (N := 14) hx hb hts (by decide +kernel) hown hK hP 0 rfl rfl 9 (by decide) (hts _ hm10) (fun _ h9 => h9) rfl dX2_step_280 ?_
                          refine lv_iconst (v := 1) hx hb dX2_step_283 (by decide) ?_
                          refine lv_isub hx hb dX2_step_284 ?_
                          refine lv_i2l hx hb dX2_step_285 rfl ?_
                          refine lv_lmul hx hb dX2_step_286 ?_
                          refine W.lcmp hx hb dX2_step_287 ?_
                          refine lv_if_ge (tgt := 302) hx hb dX2_step_288 (by decide) (fun c_26 => ?_) (fun c_26 => ?_)
                          · skip
                            replace c_26 := (lg_cmp_ge _ _).mp c_26
                            refine lv_aload_n hx hb dX2_step_302 rfl (lv_at hl 1 rfl) ?_
                            refine va_get (D := D) (ci := 2) (v := .int gr) (C := RX2) (T := TX2) (N := 14) hx hb hts (by decide +kernel) hown hK hP 0 rfl rfl 9 (by decide) (hts _ hm10) (fun _ h9 => h9) rfl dX2_step_303 ?_
                            refine W.endD hdd ?_
                            exact W.iret (v := gr) hx hb hr (fun t ht hW => ⟨⟨_, (0, jPh lo ph (mRef n ped rf lo sp) ped sp pr n, jPr mPr lo ph (mRef n ped rf lo sp) ped sp pr bo hd n, mo2, mRef n ped rf lo sp, gr, 0, st + 1, ch, rs), rfl, ⟨fun h => absurd h (by simp [fBad, c_1, c_2, c_3, c_4, c_6, c_18, c_19, c_20, c_23, c_24, c_25, c_26]), fun _ => ⟨mo2, by simp [sCode, sGr, sNx, c_1, c_2, c_3, c_4, c_6, c_18, c_19, c_20, c_23, c_24, c_25, c_26], by simp [sCode, sGr, c_1, c_2, c_3, c_4, c_6, c_18, c_19, c_20, c_23, c_24, c_25, c_26], fun k h1 h2 => by rw [jPr_in _ _ _ _ _ _ _ _ _ h1 h2]; exact hM.1 k h1 h2⟩⟩, xB_end hP hK hN hD ht hW⟩, hS.F ht⟩) hS.2.2 dX2_step_306
                          · skip
                            replace c_26 := mt (lg_cmp_ge _ _).mpr c_26
                            refine lv_aload_n hx hb dX2_step_291 rfl (lv_at hl 1 rfl) ?_
                            refine lv_aload_n hx hb dX2_step_292 rfl (lv_at hl 1 rfl) ?_
                            refine va_get (D := D) (ci := 2) (v := .int gr) (C := RX2) (T := TX2) (N := 14) hx hb hts (by decide +kernel) hown hK hP 0 rfl rfl 9 (by decide) (hts _ hm10) (fun _ h9 => h9) rfl dX2_step_293 ?_
                            refine lv_iconst (v := 1) hx hb dX2_step_296 (by decide) ?_
                            refine lv_isub hx hb dX2_step_297 ?_
                            refine lv_iconst (v := 3) hx hb dX2_step_298 (by decide) ?_
                            have hF := xF hD hS hA
                            refine va_callv (va_runV (As := [.int (gr - 1), .int 3]) (rest := []) ⟨hx, hb, hml, hown, hts⟩ (m2_turn l D m0 a C n 0 sp lo (jPh lo ph (mRef n ped rf lo sp) ped sp pr n) (jPr mPr lo ph (mRef n ped rf lo sp) ped sp pr bo hd n) bo mo2 (mRef n ped rf lo sp) gr 0 (st + 1) ch rs hn (gr - 1) 3 _) (cwV 2 hts gX2_step_X2_turn rfl rfl rfl (by decide +kernel) ⟨Nat.le_of_ble_eq_true rfl, Nat.le_of_ble_eq_true rfl⟩) ⟨xW_blind, va_recv hK hP (ci := 2) (q0 := 0) rfl rfl, xW_at hP hK hN hD⟩ rfl rfl hl.1 rfl (lv_room (Nat.le_of_ble_eq_true rfl)) dX2_step_299 ⟨Nat.le_of_ble_eq_true rfl, Nat.le_of_ble_eq_true rfl⟩) hS (fun q _ h => hF q h) hF (fun u t H locs ht hvm hpo hB hz1 hk1 hS => ?_)
                            obtain ⟨hP, hD⟩ := xB_use hB ht hF
                            obtain ⟨u1, u2, u3⟩ := u
                            dsimp only at hpo hP hD
                            rw [hpo.1, hpo.2.1, hpo.2.2] at hP hD
                            clear hB hk1 hz1 ht hvm
                            replace hP : va_P D vwCl (mw m0 a C 0 (nI n) sp lo (jPh lo ph (mRef n ped rf lo sp) ped sp pr n) (jPr mPr lo ph (mRef n ped rf lo sp) ped sp pr bo hd n) bo mo2 (mRef n ped rf lo sp) (gr - 1) 0 (st + 1) (st + 1) 3) H := hP
                            replace hD : va_D A (mw m0 a C 0 (nI n) sp lo (jPh lo ph (mRef n ped rf lo sp) ped sp pr n) (jPr mPr lo ph (mRef n ped rf lo sp) ped sp pr bo hd n) bo mo2 (mRef n ped rf lo sp) (gr - 1) 0 (st + 1) (st + 1) 3) := hD
                            refine lv_aload_n hx hb dX2_step_302 rfl (lv_at hl 1 rfl) ?_
                            refine va_get (D := D) (ci := 2) (v := .int (gr - 1)) (C := RX2) (T := TX2) (N := 14) hx hb hts (by decide +kernel) hown hK hP 0 rfl rfl 9 (by decide) (hts _ hm10) (fun _ h9 => h9) rfl dX2_step_303 ?_
                            refine W.endD hdd ?_
                            exact W.iret (v := (gr - 1)) hx hb hr (fun t ht hW => ⟨⟨_, (0, jPh lo ph (mRef n ped rf lo sp) ped sp pr n, jPr mPr lo ph (mRef n ped rf lo sp) ped sp pr bo hd n, mo2, mRef n ped rf lo sp, gr - 1, 0, st + 1, st + 1, 3), rfl, ⟨fun h => absurd h (by simp [fBad, c_1, c_2, c_3, c_4, c_6, c_18, c_19, c_20, c_23, c_24, c_25, c_26]), fun _ => ⟨mo2, by simp [sCode, sGr, sNx, c_1, c_2, c_3, c_4, c_6, c_18, c_19, c_20, c_23, c_24, c_25, c_26], by simp [sCode, sGr, c_1, c_2, c_3, c_4, c_6, c_18, c_19, c_20, c_23, c_24, c_25, c_26], fun k h1 h2 => by rw [jPr_in _ _ _ _ _ _ _ _ _ h1 h2]; exact hM.1 k h1 h2⟩⟩, xB_end hP hK hN hD ht hW⟩, hS.F ht⟩) hS.2.2 dX2_step_306
                      · skip
                        replace c_24 := mt (lg_cmp_le _ _).mpr c_24
                        refine lv_aload_n hx hb dX2_step_250 rfl (lv_at hl 1 rfl) ?_
                        refine lv_aload_n hx hb dX2_step_251 rfl (lv_at hl 1 rfl) ?_
                        refine va_get (D := D) (ci := 2) (v := .int gr) (C := RX2) (T := TX2) (N := 14) hx hb hts (by decide +kernel) hown hK hP 0 rfl rfl 9 (by decide) (hts _ hm10) (fun _ h9 => h9) rfl dX2_step_252 ?_
                        refine lv_iconst (v := 1) hx hb dX2_step_255 (by decide) ?_
                        refine lv_iadd hx hb dX2_step_256 ?_
                        refine lv_iconst (v := 3) hx hb dX2_step_257 (by decide) ?_
                        have hF := xF hD hS hA
                        refine va_callv (va_runV (As := [.int (gr + 1), .int 3]) (rest := []) ⟨hx, hb, hml, hown, hts⟩ (m2_turn l D m0 a C n 0 sp lo (jPh lo ph (mRef n ped rf lo sp) ped sp pr n) (jPr mPr lo ph (mRef n ped rf lo sp) ped sp pr bo hd n) bo mo2 (mRef n ped rf lo sp) gr 0 (st + 1) ch rs hn (gr + 1) 3 _) (cwV 2 hts gX2_step_X2_turn rfl rfl rfl (by decide +kernel) ⟨Nat.le_of_ble_eq_true rfl, Nat.le_of_ble_eq_true rfl⟩) ⟨xW_blind, va_recv hK hP (ci := 2) (q0 := 0) rfl rfl, xW_at hP hK hN hD⟩ rfl rfl hl.1 rfl (lv_room (Nat.le_of_ble_eq_true rfl)) dX2_step_258 ⟨Nat.le_of_ble_eq_true rfl, Nat.le_of_ble_eq_true rfl⟩) hS (fun q _ h => hF q h) hF (fun u t H locs ht hvm hpo hB hz1 hk1 hS => ?_)
                        obtain ⟨hP, hD⟩ := xB_use hB ht hF
                        obtain ⟨u1, u2, u3⟩ := u
                        dsimp only at hpo hP hD
                        rw [hpo.1, hpo.2.1, hpo.2.2] at hP hD
                        clear hB hk1 hz1 ht hvm
                        replace hP : va_P D vwCl (mw m0 a C 0 (nI n) sp lo (jPh lo ph (mRef n ped rf lo sp) ped sp pr n) (jPr mPr lo ph (mRef n ped rf lo sp) ped sp pr bo hd n) bo mo2 (mRef n ped rf lo sp) (gr + 1) 0 (st + 1) (st + 1) 3) H := hP
                        replace hD : va_D A (mw m0 a C 0 (nI n) sp lo (jPh lo ph (mRef n ped rf lo sp) ped sp pr n) (jPr mPr lo ph (mRef n ped rf lo sp) ped sp pr bo hd n) bo mo2 (mRef n ped rf lo sp) (gr + 1) 0 (st + 1) (st + 1) 3) := hD
                        refine lv_goto (tgt := 302) hx hb dX2_step_261 (by decide) ?_
                        refine lv_aload_n hx hb dX2_step_302 rfl (lv_at hl 1 rfl) ?_
                        refine va_get (D := D) (ci := 2) (v := .int (gr + 1)) (C := RX2) (T := TX2) (N := 14) hx hb hts (by decide +kernel) hown hK hP 0 rfl rfl 9 (by decide) (hts _ hm10) (fun _ h9 => h9) rfl dX2_step_303 ?_
                        refine W.endD hdd ?_
                        exact W.iret (v := (gr + 1)) hx hb hr (fun t ht hW => ⟨⟨_, (0, jPh lo ph (mRef n ped rf lo sp) ped sp pr n, jPr mPr lo ph (mRef n ped rf lo sp) ped sp pr bo hd n, mo2, mRef n ped rf lo sp, gr + 1, 0, st + 1, st + 1, 3), rfl, ⟨fun h => absurd h (by simp [fBad, c_1, c_2, c_3, c_4, c_6, c_18, c_19, c_20, c_23, c_24]), fun _ => ⟨mo2, by simp [sCode, sGr, sNx, c_1, c_2, c_3, c_4, c_6, c_18, c_19, c_20, c_23, c_24], by simp [sCode, sGr, c_1, c_2, c_3, c_4, c_6, c_18, c_19, c_20, c_23, c_24], fun k h1 h2 => by rw [jPr_in _ _ _ _ _ _ _ _ _ h1 h2]; exact hM.1 k h1 h2⟩⟩, xB_end hP hK hN hD ht hW⟩, hS.F ht⟩) hS.2.2 dX2_step_306
                    · skip
                      replace c_23 := mt (lg_cmp_le _ _).mpr c_23
                      refine lv_lload_n hx hb dX2_step_240 rfl (lv_at hl 3 rfl) ?_
                      refine lv_goto (tgt := 245) hx hb dX2_step_241 (by decide) ?_
                      refine W.eq (g2 := F0 m 245 ls [.long (mMx sl), .long ((20 * gr.toInt64) + 10), .long (mRef n ped rf lo sp)]) (by simp [mMx, c_23]) ?_
                      refine lv_ladd hx hb dX2_step_245 ?_
                      refine W.lcmp hx hb dX2_step_246 ?_
                      refine lv_if_le (tgt := 264) hx hb dX2_step_247 (by decide) (fun c_27 => ?_) (fun c_27 => ?_)
                      · skip
                        replace c_27 := (lg_cmp_le _ _).mp c_27
                        refine lv_aload_n hx hb dX2_step_264 rfl (lv_at hl 1 rfl) ?_
                        refine va_get (D := D) (ci := 2) (v := .int gr) (C := RX2) (T := TX2) (N := 14) hx hb hts (by decide +kernel) hown hK hP 0 rfl rfl 9 (by decide) (hts _ hm10) (fun _ h9 => h9) rfl dX2_step_265 ?_
                        refine lv_iconst (v := 1) hx hb dX2_step_268 (by decide) ?_
                        refine lv_icmp_le (tgt := 302) hx hb dX2_step_269 (by decide) (fun c_28 => ?_) (fun c_28 => ?_)
                        · skip
                          refine lv_aload_n hx hb dX2_step_302 rfl (lv_at hl 1 rfl) ?_
                          refine va_get (D := D) (ci := 2) (v := .int gr) (C := RX2) (T := TX2) (N := 14) hx hb hts (by decide +kernel) hown hK hP 0 rfl rfl 9 (by decide) (hts _ hm10) (fun _ h9 => h9) rfl dX2_step_303 ?_
                          refine W.endD hdd ?_
                          exact W.iret (v := gr) hx hb hr (fun t ht hW => ⟨⟨_, (0, jPh lo ph (mRef n ped rf lo sp) ped sp pr n, jPr mPr lo ph (mRef n ped rf lo sp) ped sp pr bo hd n, mo2, mRef n ped rf lo sp, gr, 0, st + 1, ch, rs), rfl, ⟨fun h => absurd h (by simp [fBad, c_1, c_2, c_3, c_4, c_6, c_18, c_19, c_20, c_23, c_27, c_28]), fun _ => ⟨mo2, by simp [sCode, sGr, sNx, c_1, c_2, c_3, c_4, c_6, c_18, c_19, c_20, c_23, c_27, c_28], by simp [sCode, sGr, c_1, c_2, c_3, c_4, c_6, c_18, c_19, c_20, c_23, c_27, c_28], fun k h1 h2 => by rw [jPr_in _ _ _ _ _ _ _ _ _ h1 h2]; exact hM.1 k h1 h2⟩⟩, xB_end hP hK hN hD ht hW⟩, hS.F ht⟩) hS.2.2 dX2_step_306
                        · skip
                          refine lv_aload_n hx hb dX2_step_272 rfl (lv_at hl 1 rfl) ?_
                          refine va_get (D := D) (ci := 2) (v := .long (mRef n ped rf lo sp)) (C := RX2) (T := TX2) (N := 14) hx hb hts (by decide +kernel) hown hK hP 0 rfl rfl 8 (by decide) (hts _ hm11) (fun _ h9 => h9) rfl dX2_step_273 ?_
                          refine lv_ldc2 hx hb hown (hts _ hm12) dX2_step_276 ?_
                          refine lv_aload_n hx hb dX2_step_279 rfl (lv_at hl 1 rfl) ?_
                          refine va_get (D := D) (ci := 2) (v := .int gr) (C := RX2) (T := TX2) (N := 14) hx hb hts (by decide +kernel) hown hK hP 0 rfl rfl 9 (by decide) (hts _ hm10) (fun _ h9 => h9) rfl dX2_step_280 ?_
                          refine lv_iconst (v := 1) hx hb dX2_step_283 (by decide) ?_
                          refine lv_isub hx hb dX2_step_284 ?_
                          refine lv_i2l hx hb dX2_step_285 rfl ?_
                          refine lv_lmul hx hb dX2_step_286 ?_
                          refine W.lcmp hx hb dX2_step_287 ?_
                          refine lv_if_ge (tgt := 302) hx hb dX2_step_288 (by decide) (fun c_29 => ?_) (fun c_29 => ?_)
                          · skip
                            replace c_29 := (lg_cmp_ge _ _).mp c_29
                            refine lv_aload_n hx hb dX2_step_302 rfl (lv_at hl 1 rfl) ?_
                            refine va_get (D := D) (ci := 2) (v := .int gr) (C := RX2) (T := TX2) (N := 14) hx hb hts (by decide +kernel) hown hK hP 0 rfl rfl 9 (by decide) (hts _ hm10) (fun _ h9 => h9) rfl dX2_step_303 ?_
                            refine W.endD hdd ?_
                            exact W.iret (v := gr) hx hb hr (fun t ht hW => ⟨⟨_, (0, jPh lo ph (mRef n ped rf lo sp) ped sp pr n, jPr mPr lo ph (mRef n ped rf lo sp) ped sp pr bo hd n, mo2, mRef n ped rf lo sp, gr, 0, st + 1, ch, rs), rfl, ⟨fun h => absurd h (by simp [fBad, c_1, c_2, c_3, c_4, c_6, c_18, c_19, c_20, c_23, c_27, c_28, c_29]), fun _ => ⟨mo2, by simp [sCode, sGr, sNx, c_1, c_2, c_3, c_4, c_6, c_18, c_19, c_20, c_23, c_27, c_28, c_29], by simp [sCode, sGr, c_1, c_2, c_3, c_4, c_6, c_18, c_19, c_20, c_23, c_27, c_28, c_29], fun k h1 h2 => by rw [jPr_in _ _ _ _ _ _ _ _ _ h1 h2]; exact hM.1 k h1 h2⟩⟩, xB_end hP hK hN hD ht hW⟩, hS.F ht⟩) hS.2.2 dX2_step_306
                          · skip
                            replace c_29 := mt (lg_cmp_ge _ _).mpr c_29
                            refine lv_aload_n hx hb dX2_step_291 rfl (lv_at hl 1 rfl) ?_
                            refine lv_aload_n hx hb dX2_step_292 rfl (lv_at hl 1 rfl) ?_
                            refine va_get (D := D) (ci := 2) (v := .int gr) (C := RX2) (T := TX2) (N := 14) hx hb hts (by decide +kernel) hown hK hP 0 rfl rfl 9 (by decide) (hts _ hm10) (fun _ h9 => h9) rfl dX2_step_293 ?_
                            refine lv_iconst (v := 1) hx hb dX2_step_296 (by decide) ?_
                            refine lv_isub hx hb dX2_step_297 ?_
                            refine lv_iconst (v := 3) hx hb dX2_step_298 (by decide) ?_
                            have hF := xF hD hS hA
                            refine va_callv (va_runV (As := [.int (gr - 1), .int 3]) (rest := []) ⟨hx, hb, hml, hown, hts⟩ (m2_turn l D m0 a C n 0 sp lo (jPh lo ph (mRef n ped rf lo sp) ped sp pr n) (jPr mPr lo ph (mRef n ped rf lo sp) ped sp pr bo hd n) bo mo2 (mRef n ped rf lo sp) gr 0 (st + 1) ch rs hn (gr - 1) 3 _) (cwV 2 hts gX2_step_X2_turn rfl rfl rfl (by decide +kernel) ⟨Nat.le_of_ble_eq_true rfl, Nat.le_of_ble_eq_true rfl⟩) ⟨xW_blind, va_recv hK hP (ci := 2) (q0 := 0) rfl rfl, xW_at hP hK hN hD⟩ rfl rfl hl.1 rfl (lv_room (Nat.le_of_ble_eq_true rfl)) dX2_step_299 ⟨Nat.le_of_ble_eq_true rfl, Nat.le_of_ble_eq_true rfl⟩) hS (fun q _ h => hF q h) hF (fun u t H locs ht hvm hpo hB hz1 hk1 hS => ?_)
                            obtain ⟨hP, hD⟩ := xB_use hB ht hF
                            obtain ⟨u1, u2, u3⟩ := u
                            dsimp only at hpo hP hD
                            rw [hpo.1, hpo.2.1, hpo.2.2] at hP hD
                            clear hB hk1 hz1 ht hvm
                            replace hP : va_P D vwCl (mw m0 a C 0 (nI n) sp lo (jPh lo ph (mRef n ped rf lo sp) ped sp pr n) (jPr mPr lo ph (mRef n ped rf lo sp) ped sp pr bo hd n) bo mo2 (mRef n ped rf lo sp) (gr - 1) 0 (st + 1) (st + 1) 3) H := hP
                            replace hD : va_D A (mw m0 a C 0 (nI n) sp lo (jPh lo ph (mRef n ped rf lo sp) ped sp pr n) (jPr mPr lo ph (mRef n ped rf lo sp) ped sp pr bo hd n) bo mo2 (mRef n ped rf lo sp) (gr - 1) 0 (st + 1) (st + 1) 3) := hD
                            refine lv_aload_n hx hb dX2_step_302 rfl (lv_at hl 1 rfl) ?_
                            refine va_get (D := D) (ci := 2) (v := .int (gr - 1)) (C := RX2) (T := TX2) (N := 14) hx hb hts (by decide +kernel) hown hK hP 0 rfl rfl 9 (by decide) (hts _ hm10) (fun _ h9 => h9) rfl dX2_step_303 ?_
                            refine W.endD hdd ?_
                            exact W.iret (v := (gr - 1)) hx hb hr (fun t ht hW => ⟨⟨_, (0, jPh lo ph (mRef n ped rf lo sp) ped sp pr n, jPr mPr lo ph (mRef n ped rf lo sp) ped sp pr bo hd n, mo2, mRef n ped rf lo sp, gr - 1, 0, st + 1, st + 1, 3), rfl, ⟨fun h => absurd h (by simp [fBad, c_1, c_2, c_3, c_4, c_6, c_18, c_19, c_20, c_23, c_27, c_28, c_29]), fun _ => ⟨mo2, by simp [sCode, sGr, sNx, c_1, c_2, c_3, c_4, c_6, c_18, c_19, c_20, c_23, c_27, c_28, c_29], by simp [sCode, sGr, c_1, c_2, c_3, c_4, c_6, c_18, c_19, c_20, c_23, c_27, c_28, c_29], fun k h1 h2 => by rw [jPr_in _ _ _ _ _ _ _ _ _ h1 h2]; exact hM.1 k h1 h2⟩⟩, xB_end hP hK hN hD ht hW⟩, hS.F ht⟩) hS.2.2 dX2_step_306
                      · skip
                        replace c_27 := mt (lg_cmp_le _ _).mpr c_27
                        refine lv_aload_n hx hb dX2_step_250 rfl (lv_at hl 1 rfl) ?_
                        refine lv_aload_n hx hb dX2_step_251 rfl (lv_at hl 1 rfl) ?_
                        refine va_get (D := D) (ci := 2) (v := .int gr) (C := RX2) (T := TX2) (N := 14) hx hb hts (by decide +kernel) hown hK hP 0 rfl rfl 9 (by decide) (hts _ hm10) (fun _ h9 => h9) rfl dX2_step_252 ?_
                        refine lv_iconst (v := 1) hx hb dX2_step_255 (by decide) ?_
                        refine lv_iadd hx hb dX2_step_256 ?_
                        refine lv_iconst (v := 3) hx hb dX2_step_257 (by decide) ?_
                        have hF := xF hD hS hA
                        refine va_callv (va_runV (As := [.int (gr + 1), .int 3]) (rest := []) ⟨hx, hb, hml, hown, hts⟩ (m2_turn l D m0 a C n 0 sp lo (jPh lo ph (mRef n ped rf lo sp) ped sp pr n) (jPr mPr lo ph (mRef n ped rf lo sp) ped sp pr bo hd n) bo mo2 (mRef n ped rf lo sp) gr 0 (st + 1) ch rs hn (gr + 1) 3 _) (cwV 2 hts gX2_step_X2_turn rfl rfl rfl (by decide +kernel) ⟨Nat.le_of_ble_eq_true rfl, Nat.le_of_ble_eq_true rfl⟩) ⟨xW_blind, va_recv hK hP (ci := 2) (q0 := 0) rfl rfl, xW_at hP hK hN hD⟩ rfl rfl hl.1 rfl (lv_room (Nat.le_of_ble_eq_true rfl)) dX2_step_258 ⟨Nat.le_of_ble_eq_true rfl, Nat.le_of_ble_eq_true rfl⟩) hS (fun q _ h => hF q h) hF (fun u t H locs ht hvm hpo hB hz1 hk1 hS => ?_)
                        obtain ⟨hP, hD⟩ := xB_use hB ht hF
                        obtain ⟨u1, u2, u3⟩ := u
                        dsimp only at hpo hP hD
                        rw [hpo.1, hpo.2.1, hpo.2.2] at hP hD
                        clear hB hk1 hz1 ht hvm
                        replace hP : va_P D vwCl (mw m0 a C 0 (nI n) sp lo (jPh lo ph (mRef n ped rf lo sp) ped sp pr n) (jPr mPr lo ph (mRef n ped rf lo sp) ped sp pr bo hd n) bo mo2 (mRef n ped rf lo sp) (gr + 1) 0 (st + 1) (st + 1) 3) H := hP
                        replace hD : va_D A (mw m0 a C 0 (nI n) sp lo (jPh lo ph (mRef n ped rf lo sp) ped sp pr n) (jPr mPr lo ph (mRef n ped rf lo sp) ped sp pr bo hd n) bo mo2 (mRef n ped rf lo sp) (gr + 1) 0 (st + 1) (st + 1) 3) := hD
                        refine lv_goto (tgt := 302) hx hb dX2_step_261 (by decide) ?_
                        refine lv_aload_n hx hb dX2_step_302 rfl (lv_at hl 1 rfl) ?_
                        refine va_get (D := D) (ci := 2) (v := .int (gr + 1)) (C := RX2) (T := TX2) (N := 14) hx hb hts (by decide +kernel) hown hK hP 0 rfl rfl 9 (by decide) (hts _ hm10) (fun _ h9 => h9) rfl dX2_step_303 ?_
                        refine W.endD hdd ?_
                        exact W.iret (v := (gr + 1)) hx hb hr (fun t ht hW => ⟨⟨_, (0, jPh lo ph (mRef n ped rf lo sp) ped sp pr n, jPr mPr lo ph (mRef n ped rf lo sp) ped sp pr bo hd n, mo2, mRef n ped rf lo sp, gr + 1, 0, st + 1, st + 1, 3), rfl, ⟨fun h => absurd h (by simp [fBad, c_1, c_2, c_3, c_4, c_6, c_18, c_19, c_20, c_23, c_27]), fun _ => ⟨mo2, by simp [sCode, sGr, sNx, c_1, c_2, c_3, c_4, c_6, c_18, c_19, c_20, c_23, c_27], by simp [sCode, sGr, c_1, c_2, c_3, c_4, c_6, c_18, c_19, c_20, c_23, c_27], fun k h1 h2 => by rw [jPr_in _ _ _ _ _ _ _ _ _ h1 h2]; exact hM.1 k h1 h2⟩⟩, xB_end hP hK hN hD ht hW⟩, hS.F ht⟩) hS.2.2 dX2_step_306
              · skip
                replace c_18 := mt (lg_cmp_gt _ _).mpr c_18
                refine lv_iconst (v := 1) hx hb dX2_step_184 (by decide) ?_
                refine lv_goto (tgt := 189) hx hb dX2_step_185 (by decide) ?_
                refine va_put (D := D) (ci := 2) (v := .int 1) (ty := .boolean) (C := RX2) (T := TX2) (N := 14) hx hb hts (by decide +kernel) tyX2 tyX2_ok nmX2 hown hK hP hD hS 0 rfl rfl 10 (by decide) (hts _ hm7) (fun _ h9 => h9) rfl (by decide +kernel) rfl rfl (Nat.le_of_ble_eq_true rfl) dX2_step_189 (fun H locs hP hD hS => ?_)
                replace hP : va_P D vwCl (mw m0 a C 0 (nI n) sp lo (jPh lo ph (mRef n ped rf lo sp) ped sp pr n) (jPr mPr lo ph (mRef n ped rf lo sp) ped sp pr bo hd n) bo mo2 (mRef n ped rf lo sp) gr 1 (st + 1) ch rs) H := hP
                replace hD : va_D A (mw m0 a C 0 (nI n) sp lo (jPh lo ph (mRef n ped rf lo sp) ped sp pr n) (jPr mPr lo ph (mRef n ped rf lo sp) ped sp pr bo hd n) bo mo2 (mRef n ped rf lo sp) gr 1 (st + 1) ch rs) := hD
                refine lv_aload_n hx hb dX2_step_192 rfl (lv_at hl 1 rfl) ?_
                refine va_get (D := D) (ci := 2) (v := .int (st + 1)) (C := RX2) (T := TX2) (N := 14) hx hb hts (by decide +kernel) hown hK hP 0 rfl rfl 11 (by decide) (hts _ hm5) (fun _ h9 => h9) rfl dX2_step_193 ?_
                refine lv_aload_n hx hb dX2_step_196 rfl (lv_at hl 1 rfl) ?_
                refine va_get (D := D) (ci := 2) (v := .int ch) (C := RX2) (T := TX2) (N := 14) hx hb hts (by decide +kernel) hown hK hP 0 rfl rfl 12 (by decide) (hts _ hm8) (fun _ h9 => h9) rfl dX2_step_197 ?_
                refine lv_isub hx hb dX2_step_200 ?_
                refine lv_aload_n hx hb dX2_step_201 rfl (lv_at hl 1 rfl) ?_
                refine va_get (D := D) (ci := 2) (v := .int rs) (C := RX2) (T := TX2) (N := 14) hx hb hts (by decide +kernel) hown hK hP 0 rfl rfl 13 (by decide) (hts _ hm9) (fun _ h9 => h9) rfl dX2_step_202 ?_
                refine lv_icmp_lt (tgt := 302) hx hb dX2_step_205 (by decide) (fun c_30 => ?_) (fun c_30 => ?_)
                · skip
                  refine lv_aload_n hx hb dX2_step_302 rfl (lv_at hl 1 rfl) ?_
                  refine va_get (D := D) (ci := 2) (v := .int gr) (C := RX2) (T := TX2) (N := 14) hx hb hts (by decide +kernel) hown hK hP 0 rfl rfl 9 (by decide) (hts _ hm10) (fun _ h9 => h9) rfl dX2_step_303 ?_
                  refine W.endD hdd ?_
                  exact W.iret (v := gr) hx hb hr (fun t ht hW => ⟨⟨_, (0, jPh lo ph (mRef n ped rf lo sp) ped sp pr n, jPr mPr lo ph (mRef n ped rf lo sp) ped sp pr bo hd n, mo2, mRef n ped rf lo sp, gr, 1, st + 1, ch, rs), rfl, ⟨fun h => absurd h (by simp [fBad, c_1, c_2, c_3, c_4, c_6, c_18, c_30]), fun _ => ⟨mo2, by simp [sCode, sGr, sNx, c_1, c_2, c_3, c_4, c_6, c_18, c_30], by simp [sCode, sGr, c_1, c_2, c_3, c_4, c_6, c_18, c_30], fun k h1 h2 => by rw [jPr_in _ _ _ _ _ _ _ _ _ h1 h2]; exact hM.1 k h1 h2⟩⟩, xB_end hP hK hN hD ht hW⟩, hS.F ht⟩) hS.2.2 dX2_step_306
                · skip
                  refine lv_aload_n hx hb dX2_step_208 rfl (lv_at hl 1 rfl) ?_
                  refine va_get (D := D) (ci := 2) (v := .int gr) (C := RX2) (T := TX2) (N := 14) hx hb hts (by decide +kernel) hown hK hP 0 rfl rfl 9 (by decide) (hts _ hm10) (fun _ h9 => h9) rfl dX2_step_209 ?_
                  refine lv_bipush (v := 6) hx hb dX2_step_212 (by decide) ?_
                  refine lv_icmp_ge (tgt := 264) hx hb dX2_step_214 (by decide) (fun c_31 => ?_) (fun c_31 => ?_)
                  · skip
                    refine lv_aload_n hx hb dX2_step_264 rfl (lv_at hl 1 rfl) ?_
                    refine va_get (D := D) (ci := 2) (v := .int gr) (C := RX2) (T := TX2) (N := 14) hx hb hts (by decide +kernel) hown hK hP 0 rfl rfl 9 (by decide) (hts _ hm10) (fun _ h9 => h9) rfl dX2_step_265 ?_
                    refine lv_iconst (v := 1) hx hb dX2_step_268 (by decide) ?_
                    refine lv_icmp_le (tgt := 302) hx hb dX2_step_269 (by decide) (fun c_32 => ?_) (fun c_32 => ?_)
                    · skip
                      refine lv_aload_n hx hb dX2_step_302 rfl (lv_at hl 1 rfl) ?_
                      refine va_get (D := D) (ci := 2) (v := .int gr) (C := RX2) (T := TX2) (N := 14) hx hb hts (by decide +kernel) hown hK hP 0 rfl rfl 9 (by decide) (hts _ hm10) (fun _ h9 => h9) rfl dX2_step_303 ?_
                      refine W.endD hdd ?_
                      exact W.iret (v := gr) hx hb hr (fun t ht hW => ⟨⟨_, (0, jPh lo ph (mRef n ped rf lo sp) ped sp pr n, jPr mPr lo ph (mRef n ped rf lo sp) ped sp pr bo hd n, mo2, mRef n ped rf lo sp, gr, 1, st + 1, ch, rs), rfl, ⟨fun h => absurd h (by simp [fBad, c_1, c_2, c_3, c_4, c_6, c_18, c_30, c_31, c_32]), fun _ => ⟨mo2, by simp [sCode, sGr, sNx, c_1, c_2, c_3, c_4, c_6, c_18, c_30, c_31, c_32], by simp [sCode, sGr, c_1, c_2, c_3, c_4, c_6, c_18, c_30, c_31, c_32], fun k h1 h2 => by rw [jPr_in _ _ _ _ _ _ _ _ _ h1 h2]; exact hM.1 k h1 h2⟩⟩, xB_end hP hK hN hD ht hW⟩, hS.F ht⟩) hS.2.2 dX2_step_306
                    · skip
                      refine lv_aload_n hx hb dX2_step_272 rfl (lv_at hl 1 rfl) ?_
                      refine va_get (D := D) (ci := 2) (v := .long (mRef n ped rf lo sp)) (C := RX2) (T := TX2) (N := 14) hx hb hts (by decide +kernel) hown hK hP 0 rfl rfl 8 (by decide) (hts _ hm11) (fun _ h9 => h9) rfl dX2_step_273 ?_
                      refine lv_ldc2 hx hb hown (hts _ hm12) dX2_step_276 ?_
                      refine lv_aload_n hx hb dX2_step_279 rfl (lv_at hl 1 rfl) ?_
                      refine va_get (D := D) (ci := 2) (v := .int gr) (C := RX2) (T := TX2) (N := 14) hx hb hts (by decide +kernel) hown hK hP 0 rfl rfl 9 (by decide) (hts _ hm10) (fun _ h9 => h9) rfl dX2_step_280 ?_
                      refine lv_iconst (v := 1) hx hb dX2_step_283 (by decide) ?_
                      refine lv_isub hx hb dX2_step_284 ?_
                      refine lv_i2l hx hb dX2_step_285 rfl ?_
                      refine lv_lmul hx hb dX2_step_286 ?_
                      refine W.lcmp hx hb dX2_step_287 ?_
                      refine lv_if_ge (tgt := 302) hx hb dX2_step_288 (by decide) (fun c_33 => ?_) (fun c_33 => ?_)
                      · skip
                        replace c_33 := (lg_cmp_ge _ _).mp c_33
                        refine lv_aload_n hx hb dX2_step_302 rfl (lv_at hl 1 rfl) ?_
                        refine va_get (D := D) (ci := 2) (v := .int gr) (C := RX2) (T := TX2) (N := 14) hx hb hts (by decide +kernel) hown hK hP 0 rfl rfl 9 (by decide) (hts _ hm10) (fun _ h9 => h9) rfl dX2_step_303 ?_
                        refine W.endD hdd ?_
                        exact W.iret (v := gr) hx hb hr (fun t ht hW => ⟨⟨_, (0, jPh lo ph (mRef n ped rf lo sp) ped sp pr n, jPr mPr lo ph (mRef n ped rf lo sp) ped sp pr bo hd n, mo2, mRef n ped rf lo sp, gr, 1, st + 1, ch, rs), rfl, ⟨fun h => absurd h (by simp [fBad, c_1, c_2, c_3, c_4, c_6, c_18, c_30, c_31, c_32, c_33]), fun _ => ⟨mo2, by simp [sCode, sGr, sNx, c_1, c_2, c_3, c_4, c_6, c_18, c_30, c_31, c_32, c_33], by simp [sCode, sGr, c_1, c_2, c_3, c_4, c_6, c_18, c_30, c_31, c_32, c_33], fun k h1 h2 => by rw [jPr_in _ _ _ _ _ _ _ _ _ h1 h2]; exact hM.1 k h1 h2⟩⟩, xB_end hP hK hN hD ht hW⟩, hS.F ht⟩) hS.2.2 dX2_step_306
                      · skip
                        replace c_33 := mt (lg_cmp_ge _ _).mpr c_33
                        refine lv_aload_n hx hb dX2_step_291 rfl (lv_at hl 1 rfl) ?_
                        refine lv_aload_n hx hb dX2_step_292 rfl (lv_at hl 1 rfl) ?_
                        refine va_get (D := D) (ci := 2) (v := .int gr) (C := RX2) (T := TX2) (N := 14) hx hb hts (by decide +kernel) hown hK hP 0 rfl rfl 9 (by decide) (hts _ hm10) (fun _ h9 => h9) rfl dX2_step_293 ?_
                        refine lv_iconst (v := 1) hx hb dX2_step_296 (by decide) ?_
                        refine lv_isub hx hb dX2_step_297 ?_
                        refine lv_iconst (v := 3) hx hb dX2_step_298 (by decide) ?_
                        have hF := xF hD hS hA
                        refine va_callv (va_runV (As := [.int (gr - 1), .int 3]) (rest := []) ⟨hx, hb, hml, hown, hts⟩ (m2_turn l D m0 a C n 0 sp lo (jPh lo ph (mRef n ped rf lo sp) ped sp pr n) (jPr mPr lo ph (mRef n ped rf lo sp) ped sp pr bo hd n) bo mo2 (mRef n ped rf lo sp) gr 1 (st + 1) ch rs hn (gr - 1) 3 _) (cwV 2 hts gX2_step_X2_turn rfl rfl rfl (by decide +kernel) ⟨Nat.le_of_ble_eq_true rfl, Nat.le_of_ble_eq_true rfl⟩) ⟨xW_blind, va_recv hK hP (ci := 2) (q0 := 0) rfl rfl, xW_at hP hK hN hD⟩ rfl rfl hl.1 rfl (lv_room (Nat.le_of_ble_eq_true rfl)) dX2_step_299 ⟨Nat.le_of_ble_eq_true rfl, Nat.le_of_ble_eq_true rfl⟩) hS (fun q _ h => hF q h) hF (fun u t H locs ht hvm hpo hB hz1 hk1 hS => ?_)
                        obtain ⟨hP, hD⟩ := xB_use hB ht hF
                        obtain ⟨u1, u2, u3⟩ := u
                        dsimp only at hpo hP hD
                        rw [hpo.1, hpo.2.1, hpo.2.2] at hP hD
                        clear hB hk1 hz1 ht hvm
                        replace hP : va_P D vwCl (mw m0 a C 0 (nI n) sp lo (jPh lo ph (mRef n ped rf lo sp) ped sp pr n) (jPr mPr lo ph (mRef n ped rf lo sp) ped sp pr bo hd n) bo mo2 (mRef n ped rf lo sp) (gr - 1) 1 (st + 1) (st + 1) 3) H := hP
                        replace hD : va_D A (mw m0 a C 0 (nI n) sp lo (jPh lo ph (mRef n ped rf lo sp) ped sp pr n) (jPr mPr lo ph (mRef n ped rf lo sp) ped sp pr bo hd n) bo mo2 (mRef n ped rf lo sp) (gr - 1) 1 (st + 1) (st + 1) 3) := hD
                        refine lv_aload_n hx hb dX2_step_302 rfl (lv_at hl 1 rfl) ?_
                        refine va_get (D := D) (ci := 2) (v := .int (gr - 1)) (C := RX2) (T := TX2) (N := 14) hx hb hts (by decide +kernel) hown hK hP 0 rfl rfl 9 (by decide) (hts _ hm10) (fun _ h9 => h9) rfl dX2_step_303 ?_
                        refine W.endD hdd ?_
                        exact W.iret (v := (gr - 1)) hx hb hr (fun t ht hW => ⟨⟨_, (0, jPh lo ph (mRef n ped rf lo sp) ped sp pr n, jPr mPr lo ph (mRef n ped rf lo sp) ped sp pr bo hd n, mo2, mRef n ped rf lo sp, gr - 1, 1, st + 1, st + 1, 3), rfl, ⟨fun h => absurd h (by simp [fBad, c_1, c_2, c_3, c_4, c_6, c_18, c_30, c_31, c_32, c_33]), fun _ => ⟨mo2, by simp [sCode, sGr, sNx, c_1, c_2, c_3, c_4, c_6, c_18, c_30, c_31, c_32, c_33], by simp [sCode, sGr, c_1, c_2, c_3, c_4, c_6, c_18, c_30, c_31, c_32, c_33], fun k h1 h2 => by rw [jPr_in _ _ _ _ _ _ _ _ _ h1 h2]; exact hM.1 k h1 h2⟩⟩, xB_end hP hK hN hD ht hW⟩, hS.F ht⟩) hS.2.2 dX2_step_306
                  · skip
                    refine lv_aload_n hx hb dX2_step_217 rfl (lv_at hl 1 rfl) ?_
                    refine va_get (D := D) (ci := 2) (v := .long (mRef n ped rf lo sp)) (C := RX2) (T := TX2) (N := 14) hx hb hts (by decide +kernel) hown hK hP 0 rfl rfl 8 (by decide) (hts _ hm11) (fun _ h9 => h9) rfl dX2_step_218 ?_
                    refine lv_ldc2 hx hb hown (hts _ hm12) dX2_step_221 ?_
                    refine lv_aload_n hx hb dX2_step_224 rfl (lv_at hl 1 rfl) ?_
                    refine va_get (D := D) (ci := 2) (v := .int gr) (C := RX2) (T := TX2) (N := 14) hx hb hts (by decide +kernel) hown hK hP 0 rfl rfl 9 (by decide) (hts _ hm10) (fun _ h9 => h9) rfl dX2_step_225 ?_
                    refine lv_i2l hx hb dX2_step_228 rfl ?_
                    refine lv_lmul hx hb dX2_step_229 ?_
                    refine lv_ldc2 hx hb hown (hts _ hm13) dX2_step_230 ?_
                    refine lv_ladd hx hb dX2_step_233 ?_
                    refine lv_lload_n hx hb dX2_step_234 rfl (lv_at hl 3 rfl) ?_
                    refine lv_lconst (v := 0) hx hb dX2_step_235 (by decide) ?_
                    refine W.lcmp hx hb dX2_step_236 ?_
                    refine lv_if_le (tgt := 244) hx hb dX2_step_237 (by decide) (fun c_34 => ?_) (fun c_34 => ?_)
                    · skip
                      replace c_34 := (lg_cmp_le _ _).mp c_34
                      refine lv_lconst (v := 0) hx hb dX2_step_244 (by decide) ?_
                      refine W.eq (g2 := F0 m 245 ls [.long (mMx sl), .long ((20 * gr.toInt64) + 10), .long (mRef n ped rf lo sp)]) (by simp [mMx, c_34]) ?_
                      refine lv_ladd hx hb dX2_step_245 ?_
                      refine W.lcmp hx hb dX2_step_246 ?_
                      refine lv_if_le (tgt := 264) hx hb dX2_step_247 (by decide) (fun c_35 => ?_) (fun c_35 => ?_)
                      · skip
                        replace c_35 := (lg_cmp_le _ _).mp c_35
                        refine lv_aload_n hx hb dX2_step_264 rfl (lv_at hl 1 rfl) ?_
                        refine va_get (D := D) (ci := 2) (v := .int gr) (C := RX2) (T := TX2) (N := 14) hx hb hts (by decide +kernel) hown hK hP 0 rfl rfl 9 (by decide) (hts _ hm10) (fun _ h9 => h9) rfl dX2_step_265 ?_
                        refine lv_iconst (v := 1) hx hb dX2_step_268 (by decide) ?_
                        refine lv_icmp_le (tgt := 302) hx hb dX2_step_269 (by decide) (fun c_36 => ?_) (fun c_36 => ?_)
                        · skip
                          refine lv_aload_n hx hb dX2_step_302 rfl (lv_at hl 1 rfl) ?_
                          refine va_get (D := D) (ci := 2) (v := .int gr) (C := RX2) (T := TX2) (N := 14) hx hb hts (by decide +kernel) hown hK hP 0 rfl rfl 9 (by decide) (hts _ hm10) (fun _ h9 => h9) rfl dX2_step_303 ?_
                          refine W.endD hdd ?_
                          exact W.iret (v := gr) hx hb hr (fun t ht hW => ⟨⟨_, (0, jPh lo ph (mRef n ped rf lo sp) ped sp pr n, jPr mPr lo ph (mRef n ped rf lo sp) ped sp pr bo hd n, mo2, mRef n ped rf lo sp, gr, 1, st + 1, ch, rs), rfl, ⟨fun h => absurd h (by simp [fBad, c_1, c_2, c_3, c_4, c_6, c_18, c_30, c_31, c_34, c_35, c_36]), fun _ => ⟨mo2, by simp [sCode, sGr, sNx, c_1, c_2, c_3, c_4, c_6, c_18, c_30, c_31, c_34, c_35, c_36], by simp [sCode, sGr, c_1, c_2, c_3, c_4, c_6, c_18, c_30, c_31, c_34, c_35, c_36], fun k h1 h2 => by rw [jPr_in _ _ _ _ _ _ _ _ _ h1 h2]; exact hM.1 k h1 h2⟩⟩, xB_end hP hK hN hD ht hW⟩, hS.F ht⟩) hS.2.2 dX2_step_306
                        · skip
                          refine lv_aload_n hx hb dX2_step_272 rfl (lv_at hl 1 rfl) ?_
                          refine va_get (D := D) (ci := 2) (v := .long (mRef n ped rf lo sp)) (C := RX2) (T := TX2) (N := 14) hx hb hts (by decide +kernel) hown hK hP 0 rfl rfl 8 (by decide) (hts _ hm11) (fun _ h9 => h9) rfl dX2_step_273 ?_
                          refine lv_ldc2 hx hb hown (hts _ hm12) dX2_step_276 ?_
                          refine lv_aload_n hx hb dX2_step_279 rfl (lv_at hl 1 rfl) ?_
                          refine va_get (D := D) (ci := 2) (v := .int gr) (C := RX2) (T := TX2) (N := 14) hx hb hts (by decide +kernel) hown hK hP 0 rfl rfl 9 (by decide) (hts _ hm10) (fun _ h9 => h9) rfl dX2_step_280 ?_
                          refine lv_iconst (v := 1) hx hb dX2_step_283 (by decide) ?_
                          refine lv_isub hx hb dX2_step_284 ?_
                          refine lv_i2l hx hb dX2_step_285 rfl ?_
                          refine lv_lmul hx hb dX2_step_286 ?_
                          refine W.lcmp hx hb dX2_step_287 ?_
                          refine lv_if_ge (tgt := 302) hx hb dX2_step_288 (by decide) (fun c_37 => ?_) (fun c_37 => ?_)
                          · skip
                            replace c_37 := (lg_cmp_ge _ _).mp c_37
                            refine lv_aload_n hx hb dX2_step_302 rfl (lv_at hl 1 rfl) ?_
                            refine va_get (D := D) (ci := 2) (v := .int gr) (C := RX2) (T := TX2) (N := 14) hx hb hts (by decide +kernel) hown hK hP 0 rfl rfl 9 (by decide) (hts _ hm10) (fun _ h9 => h9) rfl dX2_step_303 ?_
                            refine W.endD hdd ?_
                            exact W.iret (v := gr) hx hb hr (fun t ht hW => ⟨⟨_, (0, jPh lo ph (mRef n ped rf lo sp) ped sp pr n, jPr mPr lo ph (mRef n ped rf lo sp) ped sp pr bo hd n, mo2, mRef n ped rf lo sp, gr, 1, st + 1, ch, rs), rfl, ⟨fun h => absurd h (by simp [fBad, c_1, c_2, c_3, c_4, c_6, c_18, c_30, c_31, c_34, c_35, c_36, c_37]), fun _ => ⟨mo2, by simp [sCode, sGr, sNx, c_1, c_2, c_3, c_4, c_6, c_18, c_30, c_31, c_34, c_35, c_36, c_37], by simp [sCode, sGr, c_1, c_2, c_3, c_4, c_6, c_18, c_30, c_31, c_34, c_35, c_36, c_37], fun k h1 h2 => by rw [jPr_in _ _ _ _ _ _ _ _ _ h1 h2]; exact hM.1 k h1 h2⟩⟩, xB_end hP hK hN hD ht hW⟩, hS.F ht⟩) hS.2.2 dX2_step_306
                          · skip
                            replace c_37 := mt (lg_cmp_ge _ _).mpr c_37
                            refine lv_aload_n hx hb dX2_step_291 rfl (lv_at hl 1 rfl) ?_
                            refine lv_aload_n hx hb dX2_step_292 rfl (lv_at hl 1 rfl) ?_
                            refine va_get (D := D) (ci := 2) (v := .int gr) (C := RX2) (T := TX2) (N := 14) hx hb hts (by decide +kernel) hown hK hP 0 rfl rfl 9 (by decide) (hts _ hm10) (fun _ h9 => h9) rfl dX2_step_293 ?_
                            refine lv_iconst (v := 1) hx hb dX2_step_296 (by decide) ?_
                            refine lv_isub hx hb dX2_step_297 ?_
                            refine lv_iconst (v := 3) hx hb dX2_step_298 (by decide) ?_
                            have hF := xF hD hS hA
                            refine va_callv (va_runV (As := [.int (gr - 1), .int 3]) (rest := []) ⟨hx, hb, hml, hown, hts⟩ (m2_turn l D m0 a C n 0 sp lo (jPh lo ph (mRef n ped rf lo sp) ped sp pr n) (jPr mPr lo ph (mRef n ped rf lo sp) ped sp pr bo hd n) bo mo2 (mRef n ped rf lo sp) gr 1 (st + 1) ch rs hn (gr - 1) 3 _) (cwV 2 hts gX2_step_X2_turn rfl rfl rfl (by decide +kernel) ⟨Nat.le_of_ble_eq_true rfl, Nat.le_of_ble_eq_true rfl⟩) ⟨xW_blind, va_recv hK hP (ci := 2) (q0 := 0) rfl rfl, xW_at hP hK hN hD⟩ rfl rfl hl.1 rfl (lv_room (Nat.le_of_ble_eq_true rfl)) dX2_step_299 ⟨Nat.le_of_ble_eq_true rfl, Nat.le_of_ble_eq_true rfl⟩) hS (fun q _ h => hF q h) hF (fun u t H locs ht hvm hpo hB hz1 hk1 hS => ?_)
                            obtain ⟨hP, hD⟩ := xB_use hB ht hF
                            obtain ⟨u1, u2, u3⟩ := u
                            dsimp only at hpo hP hD
                            rw [hpo.1, hpo.2.1, hpo.2.2] at hP hD
                            clear hB hk1 hz1 ht hvm
                            replace hP : va_P D vwCl (mw m0 a C 0 (nI n) sp lo (jPh lo ph (mRef n ped rf lo sp) ped sp pr n) (jPr mPr lo ph (mRef n ped rf lo sp) ped sp pr bo hd n) bo mo2 (mRef n ped rf lo sp) (gr - 1) 1 (st + 1) (st + 1) 3) H := hP
                            replace hD : va_D A (mw m0 a C 0 (nI n) sp lo (jPh lo ph (mRef n ped rf lo sp) ped sp pr n) (jPr mPr lo ph (mRef n ped rf lo sp) ped sp pr bo hd n) bo mo2 (mRef n ped rf lo sp) (gr - 1) 1 (st + 1) (st + 1) 3) := hD
                            refine lv_aload_n hx hb dX2_step_302 rfl (lv_at hl 1 rfl) ?_
                            refine va_get (D := D) (ci := 2) (v := .int (gr - 1)) (C := RX2) (T := TX2) (N := 14) hx hb hts (by decide +kernel) hown hK hP 0 rfl rfl 9 (by decide) (hts _ hm10) (fun _ h9 => h9) rfl dX2_step_303 ?_
                            refine W.endD hdd ?_
                            exact W.iret (v := (gr - 1)) hx hb hr (fun t ht hW => ⟨⟨_, (0, jPh lo ph (mRef n ped rf lo sp) ped sp pr n, jPr mPr lo ph (mRef n ped rf lo sp) ped sp pr bo hd n, mo2, mRef n ped rf lo sp, gr - 1, 1, st + 1, st + 1, 3), rfl, ⟨fun h => absurd h (by simp [fBad, c_1, c_2, c_3, c_4, c_6, c_18, c_30, c_31, c_34, c_35, c_36, c_37]), fun _ => ⟨mo2, by simp [sCode, sGr, sNx, c_1, c_2, c_3, c_4, c_6, c_18, c_30, c_31, c_34, c_35, c_36, c_37], by simp [sCode, sGr, c_1, c_2, c_3, c_4, c_6, c_18, c_30, c_31, c_34, c_35, c_36, c_37], fun k h1 h2 => by rw [jPr_in _ _ _ _ _ _ _ _ _ h1 h2]; exact hM.1 k h1 h2⟩⟩, xB_end hP hK hN hD ht hW⟩, hS.F ht⟩) hS.2.2 dX2_step_306
                      · skip
                        replace c_35 := mt (lg_cmp_le _ _).mpr c_35
                        refine lv_aload_n hx hb dX2_step_250 rfl (lv_at hl 1 rfl) ?_
                        refine lv_aload_n hx hb dX2_step_251 rfl (lv_at hl 1 rfl) ?_
                        refine va_get (D := D) (ci := 2) (v := .int gr) (C := RX2) (T := TX2) (N := 14) hx hb hts (by decide +kernel) hown hK hP 0 rfl rfl 9 (by decide) (hts _ hm10) (fun _ h9 => h9) rfl dX2_step_252 ?_
                        refine lv_iconst (v := 1) hx hb dX2_step_255 (by decide) ?_
                        refine lv_iadd hx hb dX2_step_256 ?_
                        refine lv_iconst (v := 3) hx hb dX2_step_257 (by decide) ?_
                        have hF := xF hD hS hA
                        refine va_callv (va_runV (As := [.int (gr + 1), .int 3]) (rest := []) ⟨hx, hb, hml, hown, hts⟩ (m2_turn l D m0 a C n 0 sp lo (jPh lo ph (mRef n ped rf lo sp) ped sp pr n) (jPr mPr lo ph (mRef n ped rf lo sp) ped sp pr bo hd n) bo mo2 (mRef n ped rf lo sp) gr 1 (st + 1) ch rs hn (gr + 1) 3 _) (cwV 2 hts gX2_step_X2_turn rfl rfl rfl (by decide +kernel) ⟨Nat.le_of_ble_eq_true rfl, Nat.le_of_ble_eq_true rfl⟩) ⟨xW_blind, va_recv hK hP (ci := 2) (q0 := 0) rfl rfl, xW_at hP hK hN hD⟩ rfl rfl hl.1 rfl (lv_room (Nat.le_of_ble_eq_true rfl)) dX2_step_258 ⟨Nat.le_of_ble_eq_true rfl, Nat.le_of_ble_eq_true rfl⟩) hS (fun q _ h => hF q h) hF (fun u t H locs ht hvm hpo hB hz1 hk1 hS => ?_)
                        obtain ⟨hP, hD⟩ := xB_use hB ht hF
                        obtain ⟨u1, u2, u3⟩ := u
                        dsimp only at hpo hP hD
                        rw [hpo.1, hpo.2.1, hpo.2.2] at hP hD
                        clear hB hk1 hz1 ht hvm
                        replace hP : va_P D vwCl (mw m0 a C 0 (nI n) sp lo (jPh lo ph (mRef n ped rf lo sp) ped sp pr n) (jPr mPr lo ph (mRef n ped rf lo sp) ped sp pr bo hd n) bo mo2 (mRef n ped rf lo sp) (gr + 1) 1 (st + 1) (st + 1) 3) H := hP
                        replace hD : va_D A (mw m0 a C 0 (nI n) sp lo (jPh lo ph (mRef n ped rf lo sp) ped sp pr n) (jPr mPr lo ph (mRef n ped rf lo sp) ped sp pr bo hd n) bo mo2 (mRef n ped rf lo sp) (gr + 1) 1 (st + 1) (st + 1) 3) := hD
                        refine lv_goto (tgt := 302) hx hb dX2_step_261 (by decide) ?_
                        refine lv_aload_n hx hb dX2_step_302 rfl (lv_at hl 1 rfl) ?_
                        refine va_get (D := D) (ci := 2) (v := .int (gr + 1)) (C := RX2) (T := TX2) (N := 14) hx hb hts (by decide +kernel) hown hK hP 0 rfl rfl 9 (by decide) (hts _ hm10) (fun _ h9 => h9) rfl dX2_step_303 ?_
                        refine W.endD hdd ?_
                        exact W.iret (v := (gr + 1)) hx hb hr (fun t ht hW => ⟨⟨_, (0, jPh lo ph (mRef n ped rf lo sp) ped sp pr n, jPr mPr lo ph (mRef n ped rf lo sp) ped sp pr bo hd n, mo2, mRef n ped rf lo sp, gr + 1, 1, st + 1, st + 1, 3), rfl, ⟨fun h => absurd h (by simp [fBad, c_1, c_2, c_3, c_4, c_6, c_18, c_30, c_31, c_34, c_35]), fun _ => ⟨mo2, by simp [sCode, sGr, sNx, c_1, c_2, c_3, c_4, c_6, c_18, c_30, c_31, c_34, c_35], by simp [sCode, sGr, c_1, c_2, c_3, c_4, c_6, c_18, c_30, c_31, c_34, c_35], fun k h1 h2 => by rw [jPr_in _ _ _ _ _ _ _ _ _ h1 h2]; exact hM.1 k h1 h2⟩⟩, xB_end hP hK hN hD ht hW⟩, hS.F ht⟩) hS.2.2 dX2_step_306
                    · skip
                      replace c_34 := mt (lg_cmp_le _ _).mpr c_34
                      refine lv_lload_n hx hb dX2_step_240 rfl (lv_at hl 3 rfl) ?_
                      refine lv_goto (tgt := 245) hx hb dX2_step_241 (by decide) ?_
                      refine W.eq (g2 := F0 m 245 ls [.long (mMx sl), .long ((20 * gr.toInt64) + 10), .long (mRef n ped rf lo sp)]) (by simp [mMx, c_34]) ?_
                      refine lv_ladd hx hb dX2_step_245 ?_
                      refine W.lcmp hx hb dX2_step_246 ?_
                      refine lv_if_le (tgt := 264) hx hb dX2_step_247 (by decide) (fun c_38 => ?_) (fun c_38 => ?_)
                      · skip
                        replace c_38 := (lg_cmp_le _ _).mp c_38
                        refine lv_aload_n hx hb dX2_step_264 rfl (lv_at hl 1 rfl) ?_
                        refine va_get (D := D) (ci := 2) (v := .int gr) (C := RX2) (T := TX2) (N := 14) hx hb hts (by decide +kernel) hown hK hP 0 rfl rfl 9 (by decide) (hts _ hm10) (fun _ h9 => h9) rfl dX2_step_265 ?_
                        refine lv_iconst (v := 1) hx hb dX2_step_268 (by decide) ?_
                        refine lv_icmp_le (tgt := 302) hx hb dX2_step_269 (by decide) (fun c_39 => ?_) (fun c_39 => ?_)
                        · skip
                          refine lv_aload_n hx hb dX2_step_302 rfl (lv_at hl 1 rfl) ?_
                          refine va_get (D := D) (ci := 2) (v := .int gr) (C := RX2) (T := TX2) (N := 14) hx hb hts (by decide +kernel) hown hK hP 0 rfl rfl 9 (by decide) (hts _ hm10) (fun _ h9 => h9) rfl dX2_step_303 ?_
                          refine W.endD hdd ?_
                          exact W.iret (v := gr) hx hb hr (fun t ht hW => ⟨⟨_, (0, jPh lo ph (mRef n ped rf lo sp) ped sp pr n, jPr mPr lo ph (mRef n ped rf lo sp) ped sp pr bo hd n, mo2, mRef n ped rf lo sp, gr, 1, st + 1, ch, rs), rfl, ⟨fun h => absurd h (by simp [fBad, c_1, c_2, c_3, c_4, c_6, c_18, c_30, c_31, c_34, c_38, c_39]), fun _ => ⟨mo2, by simp [sCode, sGr, sNx, c_1, c_2, c_3, c_4, c_6, c_18, c_30, c_31, c_34, c_38, c_39], by simp [sCode, sGr, c_1, c_2, c_3, c_4, c_6, c_18, c_30, c_31, c_34, c_38, c_39], fun k h1 h2 => by rw [jPr_in _ _ _ _ _ _ _ _ _ h1 h2]; exact hM.1 k h1 h2⟩⟩, xB_end hP hK hN hD ht hW⟩, hS.F ht⟩) hS.2.2 dX2_step_306
                        · skip
                          refine lv_aload_n hx hb dX2_step_272 rfl (lv_at hl 1 rfl) ?_
                          refine va_get (D := D) (ci := 2) (v := .long (mRef n ped rf lo sp)) (C := RX2) (T := TX2) (N := 14) hx hb hts (by decide +kernel) hown hK hP 0 rfl rfl 8 (by decide) (hts _ hm11) (fun _ h9 => h9) rfl dX2_step_273 ?_
                          refine lv_ldc2 hx hb hown (hts _ hm12) dX2_step_276 ?_
                          refine lv_aload_n hx hb dX2_step_279 rfl (lv_at hl 1 rfl) ?_
                          refine va_get (D := D) (ci := 2) (v := .int gr) (C := RX2) (T := TX2) (N := 14) hx hb hts (by decide +kernel) hown hK hP 0 rfl rfl 9 (by decide) (hts _ hm10) (fun _ h9 => h9) rfl dX2_step_280 ?_
                          refine lv_iconst (v := 1) hx hb dX2_step_283 (by decide) ?_
                          refine lv_isub hx hb dX2_step_284 ?_
                          refine lv_i2l hx hb dX2_step_285 rfl ?_
                          refine lv_lmul hx hb dX2_step_286 ?_
                          refine W.lcmp hx hb dX2_step_287 ?_
                          refine lv_if_ge (tgt := 302) hx hb dX2_step_288 (by decide) (fun c_40 => ?_) (fun c_40 => ?_)
                          · skip
                            replace c_40 := (lg_cmp_ge _ _).mp c_40
                            refine lv_aload_n hx hb dX2_step_302 rfl (lv_at hl 1 rfl) ?_
                            refine va_get (D := D) (ci := 2) (v := .int gr) (C := RX2) (T := TX2) (N := 14) hx hb hts (by decide +kernel) hown hK hP 0 rfl rfl 9 (by decide) (hts _ hm10) (fun _ h9 => h9) rfl dX2_step_303 ?_
                            refine W.endD hdd ?_
                            exact W.iret (v := gr) hx hb hr (fun t ht hW => ⟨⟨_, (0, jPh lo ph (mRef n ped rf lo sp) ped sp pr n, jPr mPr lo ph (mRef n ped rf lo sp) ped sp pr bo hd n, mo2, mRef n ped rf lo sp, gr, 1, st + 1, ch, rs), rfl, ⟨fun h => absurd h (by simp [fBad, c_1, c_2, c_3, c_4, c_6, c_18, c_30, c_31, c_34, c_38, c_39, c_40]), fun _ => ⟨mo2, by simp [sCode, sGr, sNx, c_1, c_2, c_3, c_4, c_6, c_18, c_30, c_31, c_34, c_38, c_39, c_40], by simp [sCode, sGr, c_1, c_2, c_3, c_4, c_6, c_18, c_30, c_31, c_34, c_38, c_39, c_40], fun k h1 h2 => by rw [jPr_in _ _ _ _ _ _ _ _ _ h1 h2]; exact hM.1 k h1 h2⟩⟩, xB_end hP hK hN hD ht hW⟩, hS.F ht⟩) hS.2.2 dX2_step_306
                          · skip
                            replace c_40 := mt (lg_cmp_ge _ _).mpr c_40
                            refine lv_aload_n hx hb dX2_step_291 rfl (lv_at hl 1 rfl) ?_
                            refine lv_aload_n hx hb dX2_step_292 rfl (lv_at hl 1 rfl) ?_
                            refine va_get (D := D) (ci := 2) (v := .int gr) (C := RX2) (T := TX2) (N := 14) hx hb hts (by decide +kernel) hown hK hP 0 rfl rfl 9 (by decide) (hts _ hm10) (fun _ h9 => h9) rfl dX2_step_293 ?_
                            refine lv_iconst (v := 1) hx hb dX2_step_296 (by decide) ?_
                            refine lv_isub hx hb dX2_step_297 ?_
                            refine lv_iconst (v := 3) hx hb dX2_step_298 (by decide) ?_
                            have hF := xF hD hS hA
                            refine va_callv (va_runV (As := [.int (gr - 1), .int 3]) (rest := []) ⟨hx, hb, hml, hown, hts⟩ (m2_turn l D m0 a C n 0 sp lo (jPh lo ph (mRef n ped rf lo sp) ped sp pr n) (jPr mPr lo ph (mRef n ped rf lo sp) ped sp pr bo hd n) bo mo2 (mRef n ped rf lo sp) gr 1 (st + 1) ch rs hn (gr - 1) 3 _) (cwV 2 hts gX2_step_X2_turn rfl rfl rfl (by decide +kernel) ⟨Nat.le_of_ble_eq_true rfl, Nat.le_of_ble_eq_true rfl⟩) ⟨xW_blind, va_recv hK hP (ci := 2) (q0 := 0) rfl rfl, xW_at hP hK hN hD⟩ rfl rfl hl.1 rfl (lv_room (Nat.le_of_ble_eq_true rfl)) dX2_step_299 ⟨Nat.le_of_ble_eq_true rfl, Nat.le_of_ble_eq_true rfl⟩) hS (fun q _ h => hF q h) hF (fun u t H locs ht hvm hpo hB hz1 hk1 hS => ?_)
                            obtain ⟨hP, hD⟩ := xB_use hB ht hF
                            obtain ⟨u1, u2, u3⟩ := u
                            dsimp only at hpo hP hD
                            rw [hpo.1, hpo.2.1, hpo.2.2] at hP hD
                            clear hB hk1 hz1 ht hvm
                            replace hP : va_P D vwCl (mw m0 a C 0 (nI n) sp lo (jPh lo ph (mRef n ped rf lo sp) ped sp pr n) (jPr mPr lo ph (mRef n ped rf lo sp) ped sp pr bo hd n) bo mo2 (mRef n ped rf lo sp) (gr - 1) 1 (st + 1) (st + 1) 3) H := hP
                            replace hD : va_D A (mw m0 a C 0 (nI n) sp lo (jPh lo ph (mRef n ped rf lo sp) ped sp pr n) (jPr mPr lo ph (mRef n ped rf lo sp) ped sp pr bo hd n) bo mo2 (mRef n ped rf lo sp) (gr - 1) 1 (st + 1) (st + 1) 3) := hD
                            refine lv_aload_n hx hb dX2_step_302 rfl (lv_at hl 1 rfl) ?_
                            refine va_get (D := D) (ci := 2) (v := .int (gr - 1)) (C := RX2) (T := TX2) (N := 14) hx hb hts (by decide +kernel) hown hK hP 0 rfl rfl 9 (by decide) (hts _ hm10) (fun _ h9 => h9) rfl dX2_step_303 ?_
                            refine W.endD hdd ?_
                            exact W.iret (v := (gr - 1)) hx hb hr (fun t ht hW => ⟨⟨_, (0, jPh lo ph (mRef n ped rf lo sp) ped sp pr n, jPr mPr lo ph (mRef n ped rf lo sp) ped sp pr bo hd n, mo2, mRef n ped rf lo sp, gr - 1, 1, st + 1, st + 1, 3), rfl, ⟨fun h => absurd h (by simp [fBad, c_1, c_2, c_3, c_4, c_6, c_18, c_30, c_31, c_34, c_38, c_39, c_40]), fun _ => ⟨mo2, by simp [sCode, sGr, sNx, c_1, c_2, c_3, c_4, c_6, c_18, c_30, c_31, c_34, c_38, c_39, c_40], by simp [sCode, sGr, c_1, c_2, c_3, c_4, c_6, c_18, c_30, c_31, c_34, c_38, c_39, c_40], fun k h1 h2 => by rw [jPr_in _ _ _ _ _ _ _ _ _ h1 h2]; exact hM.1 k h1 h2⟩⟩, xB_end hP hK hN hD ht hW⟩, hS.F ht⟩) hS.2.2 dX2_step_306
                      · skip
                        replace c_38 := mt (lg_cmp_le _ _).mpr c_38
                        refine lv_aload_n hx hb dX2_step_250 rfl (lv_at hl 1 rfl) ?_
                        refine lv_aload_n hx hb dX2_step_251 rfl (lv_at hl 1 rfl) ?_
                        refine va_get (D := D) (ci := 2) (v := .int gr) (C := RX2) (T := TX2) (N := 14) hx hb hts (by decide +kernel) hown hK hP 0 rfl rfl 9 (by decide) (hts _ hm10) (fun _ h9 => h9) rfl dX2_step_252 ?_
                        refine lv_iconst (v := 1) hx hb dX2_step_255 (by decide) ?_
                        refine lv_iadd hx hb dX2_step_256 ?_
                        refine lv_iconst (v := 3) hx hb dX2_step_257 (by decide) ?_
                        have hF := xF hD hS hA
                        refine va_callv (va_runV (As := [.int (gr + 1), .int 3]) (rest := []) ⟨hx, hb, hml, hown, hts⟩ (m2_turn l D m0 a C n 0 sp lo (jPh lo ph (mRef n ped rf lo sp) ped sp pr n) (jPr mPr lo ph (mRef n ped rf lo sp) ped sp pr bo hd n) bo mo2 (mRef n ped rf lo sp) gr 1 (st + 1) ch rs hn (gr + 1) 3 _) (cwV 2 hts gX2_step_X2_turn rfl rfl rfl (by decide +kernel) ⟨Nat.le_of_ble_eq_true rfl, Nat.le_of_ble_eq_true rfl⟩) ⟨xW_blind, va_recv hK hP (ci := 2) (q0 := 0) rfl rfl, xW_at hP hK hN hD⟩ rfl rfl hl.1 rfl (lv_room (Nat.le_of_ble_eq_true rfl)) dX2_step_258 ⟨Nat.le_of_ble_eq_true rfl, Nat.le_of_ble_eq_true rfl⟩) hS (fun q _ h => hF q h) hF (fun u t H locs ht hvm hpo hB hz1 hk1 hS => ?_)
                        obtain ⟨hP, hD⟩ := xB_use hB ht hF
                        obtain ⟨u1, u2, u3⟩ := u
                        dsimp only at hpo hP hD
                        rw [hpo.1, hpo.2.1, hpo.2.2] at hP hD
                        clear hB hk1 hz1 ht hvm
                        replace hP : va_P D vwCl (mw m0 a C 0 (nI n) sp lo (jPh lo ph (mRef n ped rf lo sp) ped sp pr n) (jPr mPr lo ph (mRef n ped rf lo sp) ped sp pr bo hd n) bo mo2 (mRef n ped rf lo sp) (gr + 1) 1 (st + 1) (st + 1) 3) H := hP
                        replace hD : va_D A (mw m0 a C 0 (nI n) sp lo (jPh lo ph (mRef n ped rf lo sp) ped sp pr n) (jPr mPr lo ph (mRef n ped rf lo sp) ped sp pr bo hd n) bo mo2 (mRef n ped rf lo sp) (gr + 1) 1 (st + 1) (st + 1) 3) := hD
                        refine lv_goto (tgt := 302) hx hb dX2_step_261 (by decide) ?_
                        refine lv_aload_n hx hb dX2_step_302 rfl (lv_at hl 1 rfl) ?_
                        refine va_get (D := D) (ci := 2) (v := .int (gr + 1)) (C := RX2) (T := TX2) (N := 14) hx hb hts (by decide +kernel) hown hK hP 0 rfl rfl 9 (by decide) (hts _ hm10) (fun _ h9 => h9) rfl dX2_step_303 ?_
                        refine W.endD hdd ?_
                        exact W.iret (v := (gr + 1)) hx hb hr (fun t ht hW => ⟨⟨_, (0, jPh lo ph (mRef n ped rf lo sp) ped sp pr n, jPr mPr lo ph (mRef n ped rf lo sp) ped sp pr bo hd n, mo2, mRef n ped rf lo sp, gr + 1, 1, st + 1, st + 1, 3), rfl, ⟨fun h => absurd h (by simp [fBad, c_1, c_2, c_3, c_4, c_6, c_18, c_30, c_31, c_34, c_38]), fun _ => ⟨mo2, by simp [sCode, sGr, sNx, c_1, c_2, c_3, c_4, c_6, c_18, c_30, c_31, c_34, c_38], by simp [sCode, sGr, c_1, c_2, c_3, c_4, c_6, c_18, c_30, c_31, c_34, c_38], fun k h1 h2 => by rw [jPr_in _ _ _ _ _ _ _ _ _ h1 h2]; exact hM.1 k h1 h2⟩⟩, xB_end hP hK hN hD ht hW⟩, hS.F ht⟩) hS.2.2 dX2_step_306
          | succ d ih =>
            obtain ⟨hjn, hl, hP, hD, hS, hdd, hM⟩ := hI
            have hlt : j < n := by omega
            have hts := dr_words hts0 dd
            have hN := cN_draw (d := dd) hN0
            have hK : va_K D vwCl [(C 1, .long), (C 2, .boolean), (C 3, .int), (C 4, .long), (C 5, .long), (C 6, .double)] (s.setDrawn dd) := hK0
            refine lv_iload hx hb dX2_step_56 (lv_at hl 0 rfl) ?_
            refine lv_aload_n hx hb dX2_step_58 rfl (lv_at hl 1 rfl) ?_
            refine va_get (D := D) (ci := 2) (v := .int (nI n)) (C := RX2) (T := TX2) (N := 14) hx hb hts (by decide +kernel) hown hK hP 0 rfl rfl 1 (by decide) (hts _ hm6) (fun _ h9 => h9) rfl dX2_step_59 ?_
            refine lv_icmp_gt (tgt := 165) hx hb dX2_step_62 (by decide) (fun c_41 => absurd c_41 (nI_nlt (by omega) (by omega))) (fun c_41 => ?_)
            refine lv_aload_n hx hb dX2_step_65 rfl (lv_at hl 1 rfl) ?_
            refine va_get (D := D) (ci := 2) (v := .ref (a 3)) (C := RX2) (T := TX2) (N := 14) hx hb hts (by decide +kernel) hown hK hP 0 rfl rfl 4 (by decide) (hts _ hm14) (fun _ h9 => h9) rfl dX2_step_66 ?_
            refine lv_iload hx hb dX2_step_69 (lv_at hl 0 rfl) ?_
            refine lv_aload_n hx hb dX2_step_71 rfl (lv_at hl 1 rfl) ?_
            refine lv_iload hx hb dX2_step_72 (lv_at hl 0 rfl) ?_
            refine lv_lload_n hx hb dX2_step_74 rfl (lv_at hl 2 rfl) ?_
            refine vp_callSi (W.runV (As := [.int (nI (j + 1)), .long ped]) (rest := [.int (nI (j + 1)), .ref (a 3)]) ⟨hx, hb, hml, hown, hts⟩ (m2_phaseOf l D m0 a C n 0 sp lo (jPh lo ph (mRef n ped rf lo sp) ped sp pr j) (jPr mPr lo ph (mRef n ped rf lo sp) ped sp pr bo hd j) bo mo2 (mRef n ped rf lo sp) gr hd (st + 1) ch rs hn j hlt ped) (cwV 2 hts gX2_step_X2_phaseOf rfl rfl rfl (by decide +kernel) ⟨Nat.le_of_ble_eq_true rfl, Nat.le_of_ble_eq_true rfl⟩) ⟨xP_blind, va_recv hK hP (ci := 2) (q0 := 0) rfl rfl, xP_at hP hK hN⟩ rfl rfl hl.1 rfl (lv_room (Nat.le_of_ble_eq_true rfl)) dX2_step_75 ⟨Nat.le_of_ble_eq_true rfl, Nat.le_of_ble_eq_true rfl⟩) (fun r_42 hr_43 => ?_)
            rw [jPh_at _ _ _ _ _ _ (Nat.lt_succ_self j), jPr_at _ _ _ _ _ _ _ _ _ (Nat.lt_succ_self j)] at hr_43
            subst hr_43
            refine va_iast (D := D) (f := (jPh lo ph (mRef n ped rf lo sp) ped sp pr j)) hx hb hK hP hD hS 3 2 rfl rfl (ix_9 hn hlt) dX2_step_78 (fun H locs hP hD hS => ?_)
            rw [wIx hn hlt] at hP hD
            replace hP : va_P D vwCl (mw m0 a C 0 (nI n) sp lo (va_up (jPh lo ph (mRef n ped rf lo sp) ped sp pr j) (j + 1) (sPh (lo (j + 1)) (mRef n ped rf lo sp) ped (sp (j + 1)) (ph (j + 1)) (pr (j + 1)))) (jPr mPr lo ph (mRef n ped rf lo sp) ped sp pr bo hd j) bo mo2 (mRef n ped rf lo sp) gr hd (st + 1) ch rs) H := hP
            replace hD : va_D A (mw m0 a C 0 (nI n) sp lo (va_up (jPh lo ph (mRef n ped rf lo sp) ped sp pr j) (j + 1) (sPh (lo (j + 1)) (mRef n ped rf lo sp) ped (sp (j + 1)) (ph (j + 1)) (pr (j + 1)))) (jPr mPr lo ph (mRef n ped rf lo sp) ped sp pr bo hd j) bo mo2 (mRef n ped rf lo sp) gr hd (st + 1) ch rs) := hD
            rw [jPh_up] at hP hD
            replace hP : va_P D vwCl (mw m0 a C 0 (nI n) sp lo (jPh lo ph (mRef n ped rf lo sp) ped sp pr (j + 1)) (jPr mPr lo ph (mRef n ped rf lo sp) ped sp pr bo hd j) bo mo2 (mRef n ped rf lo sp) gr hd (st + 1) ch rs) H := hP
            replace hD : va_D A (mw m0 a C 0 (nI n) sp lo (jPh lo ph (mRef n ped rf lo sp) ped sp pr (j + 1)) (jPr mPr lo ph (mRef n ped rf lo sp) ped sp pr bo hd j) bo mo2 (mRef n ped rf lo sp) gr hd (st + 1) ch rs) := hD
            refine lv_aload_n hx hb dX2_step_79 rfl (lv_at hl 1 rfl) ?_
            refine va_get (D := D) (ci := 2) (v := .ref (a 4)) (C := RX2) (T := TX2) (N := 14) hx hb hts (by decide +kernel) hown hK hP 0 rfl rfl 5 (by decide) (hts _ hm15) (fun _ h9 => h9) rfl dX2_step_80 ?_
            refine lv_iload hx hb dX2_step_83 (lv_at hl 0 rfl) ?_
            refine lv_aload_n hx hb dX2_step_85 rfl (lv_at hl 1 rfl) ?_
            refine lv_iload hx hb dX2_step_86 (lv_at hl 0 rfl) ?_
            refine lv_lload_n hx hb dX2_step_88 rfl (lv_at hl 2 rfl) ?_
            refine vp_callSl (W.runV (As := [.int (nI (j + 1)), .long ped]) (rest := [.int (nI (j + 1)), .ref (a 4)]) ⟨hx, hb, hml, hown, hts⟩ (m2_pressureOf l D m0 a C n 0 sp lo (jPh lo ph (mRef n ped rf lo sp) ped sp pr (j + 1)) (jPr mPr lo ph (mRef n ped rf lo sp) ped sp pr bo hd j) bo mo2 (mRef n ped rf lo sp) gr hd (st + 1) ch rs hn j hlt ped) (cwV 2 hts gX2_step_X2_pressureOf rfl rfl rfl (by decide +kernel) ⟨Nat.le_of_ble_eq_true rfl, Nat.le_of_ble_eq_true rfl⟩) ⟨xP_blind, va_recv hK hP (ci := 2) (q0 := 0) rfl rfl, xP_at hP hK hN⟩ rfl rfl hl.1 rfl (lv_room (Nat.le_of_ble_eq_true rfl)) dX2_step_89 ⟨Nat.le_of_ble_eq_true rfl, Nat.le_of_ble_eq_true rfl⟩) (fun r_44 hr_45 => ?_)
            rw [jPh_in _ _ _ _ _ _ (by omega) (Nat.le_refl _), jPr_at _ _ _ _ _ _ _ _ _ (Nat.lt_succ_self j)] at hr_45
            subst hr_45
            refine va_last (D := D) (f := (jPr mPr lo ph (mRef n ped rf lo sp) ped sp pr bo hd j)) hx hb hK hP hD hS 4 3 rfl rfl (ix_9 hn hlt) dX2_step_92 (fun H locs hP hD hS => ?_)
            rw [wIx hn hlt] at hP hD
            replace hP : va_P D vwCl (mw m0 a C 0 (nI n) sp lo (jPh lo ph (mRef n ped rf lo sp) ped sp pr (j + 1)) (va_up (jPr mPr lo ph (mRef n ped rf lo sp) ped sp pr bo hd j) (j + 1) (mPr (sPh (lo (j + 1)) (mRef n ped rf lo sp) ped (sp (j + 1)) (ph (j + 1)) (pr (j + 1))) ped (pr (j + 1)) hd (bo (j + 1)))) bo mo2 (mRef n ped rf lo sp) gr hd (st + 1) ch rs) H := hP
            replace hD : va_D A (mw m0 a C 0 (nI n) sp lo (jPh lo ph (mRef n ped rf lo sp) ped sp pr (j + 1)) (va_up (jPr mPr lo ph (mRef n ped rf lo sp) ped sp pr bo hd j) (j + 1) (mPr (sPh (lo (j + 1)) (mRef n ped rf lo sp) ped (sp (j + 1)) (ph (j + 1)) (pr (j + 1))) ped (pr (j + 1)) hd (bo (j + 1)))) bo mo2 (mRef n ped rf lo sp) gr hd (st + 1) ch rs) := hD
            rw [jPr_up] at hP hD
            replace hP : va_P D vwCl (mw m0 a C 0 (nI n) sp lo (jPh lo ph (mRef n ped rf lo sp) ped sp pr (j + 1)) (jPr mPr lo ph (mRef n ped rf lo sp) ped sp pr bo hd (j + 1)) bo mo2 (mRef n ped rf lo sp) gr hd (st + 1) ch rs) H := hP
            replace hD : va_D A (mw m0 a C 0 (nI n) sp lo (jPh lo ph (mRef n ped rf lo sp) ped sp pr (j + 1)) (jPr mPr lo ph (mRef n ped rf lo sp) ped sp pr bo hd (j + 1)) bo mo2 (mRef n ped rf lo sp) gr hd (st + 1) ch rs) := hD
            refine lv_aload_n hx hb dX2_step_93 rfl (lv_at hl 1 rfl) ?_
            refine va_get (D := D) (ci := 2) (v := .ref (a 6)) (C := RX2) (T := TX2) (N := 14) hx hb hts (by decide +kernel) hown hK hP 0 rfl rfl 7 (by decide) (hts _ hm16) (fun _ h9 => h9) rfl dX2_step_94 ?_
            refine lv_iload hx hb dX2_step_97 (lv_at hl 0 rfl) ?_
            refine va_dald (D := D) (f := mo2) hx hb hK hP 6 5 rfl rfl (ix_9 hn hlt) dX2_step_99 ?_
            refine W.eq (g2 := F0 m 100 ls [.double (mo2 (j + 1))]) (by rw [wIx hn hlt]) ?_
            refine lv_dstore (lv' := [(6, .double (mo2 (j + 1))), (5, .int (nI (j + 1))), (0, .ref m0), (1, .long ped), (3, .long sl)]) hx hb dX2_step_100 hl (by decide) rfl (fun ls hl => ?_)
            refine lv_dload hx hb dX2_step_102 (lv_at hl 0 rfl) ?_
            refine lv_ldc2d hx hb hown (hts _ hm17) dX2_step_104 ?_
            refine lv_aload_n hx hb dX2_step_107 rfl (lv_at hl 2 rfl) ?_
            refine va_get (D := D) (ci := 2) (v := .ref (a 1)) (C := RX2) (T := TX2) (N := 14) hx hb hts (by decide +kernel) hown hK hP 0 rfl rfl 2 (by decide) (hts _ hm18) (fun _ h9 => h9) rfl dX2_step_108 ?_
            refine lv_iload hx hb dX2_step_111 (lv_at hl 1 rfl) ?_
            refine va_lald (D := D) (f := sp) hx hb hK hP 1 0 rfl rfl (ix_9 hn hlt) dX2_step_113 ?_
            refine W.eq (g2 := F0 m 114 ls [.long (sp (j + 1)), .double 4593671619917905920, .double (mo2 (j + 1))]) (by rw [wIx hn hlt]) ?_
            refine lv_l2d hx hb dX2_step_114 ?_
            refine lv_dload hx hb dX2_step_115 (lv_at hl 0 rfl) ?_
            refine lv_dsub_any hdd lw_bits hx hb dX2_step_117 (fun r_46 d_47 al_48 hdd_49 => ?_)
            have hts := dr_words hts0 d_47
            have hN := cN_draw (d := d_47) hN0
            have hK : va_K D vwCl [(C 1, .long), (C 2, .boolean), (C 3, .int), (C 4, .long), (C 5, .long), (C 6, .double)] (s.setDrawn d_47) := hK0
            refine lv_dmul_any hdd_49 lw_bits hx hb dX2_step_118 (fun r_50 d_51 al_52 hdd_53 => ?_)
            have hts := dr_words hts0 d_51
            have hN := cN_draw (d := d_51) hN0
            have hK : va_K D vwCl [(C 1, .long), (C 2, .boolean), (C 3, .int), (C 4, .long), (C 5, .long), (C 6, .double)] (s.setDrawn d_51) := hK0
            refine lv_dadd_any hdd_53 lw_bits hx hb dX2_step_119 (fun r_54 d_55 al_56 hdd_57 => ?_)
            have hts := dr_words hts0 d_55
            have hN := cN_draw (d := d_55) hN0
            have hK : va_K D vwCl [(C 1, .long), (C 2, .boolean), (C 3, .int), (C 4, .long), (C 5, .long), (C 6, .double)] (s.setDrawn d_55) := hK0
            refine lv_dstore (lv' := [(6, .double r_54), (5, .int (nI (j + 1))), (0, .ref m0), (1, .long ped), (3, .long sl)]) hx hb dX2_step_120 hl (by decide) rfl (fun ls hl => ?_)
            refine lv_dload hx hb dX2_step_122 (lv_at hl 0 rfl) ?_
            refine lv_ldc2d hx hb hown (hts _ hm19) dX2_step_124 ?_
            refine lv_aload_n hx hb dX2_step_127 rfl (lv_at hl 2 rfl) ?_
            refine va_get (D := D) (ci := 2) (v := .ref (a 4)) (C := RX2) (T := TX2) (N := 14) hx hb hts (by decide +kernel) hown hK hP 0 rfl rfl 5 (by decide) (hts _ hm15) (fun _ h9 => h9) rfl dX2_step_128 ?_
            refine lv_iload hx hb dX2_step_131 (lv_at hl 1 rfl) ?_
            refine va_lald (D := D) (f := (jPr mPr lo ph (mRef n ped rf lo sp) ped sp pr bo hd (j + 1))) hx hb hK hP 4 3 rfl rfl (ix_9 hn hlt) dX2_step_133 ?_
            refine W.eq (g2 := F0 m 134 ls [.long ((jPr mPr lo ph (mRef n ped rf lo sp) ped sp pr bo hd (j + 1)) (j + 1)), .double 4589168020290535424, .double r_54]) (by rw [wIx hn hlt]) ?_
            refine lv_l2d hx hb dX2_step_134 ?_
            refine lv_dmul_any hdd_57 lw_bits hx hb dX2_step_135 (fun r_58 d_59 al_60 hdd_61 => ?_)
            have hts := dr_words hts0 d_59
            have hN := cN_draw (d := d_59) hN0
            have hK : va_K D vwCl [(C 1, .long), (C 2, .boolean), (C 3, .int), (C 4, .long), (C 5, .long), (C 6, .double)] (s.setDrawn d_59) := hK0
            refine lv_dsub_any hdd_61 lw_bits hx hb dX2_step_136 (fun r_62 d_63 al_64 hdd_65 => ?_)
            have hts := dr_words hts0 d_63
            have hN := cN_draw (d := d_63) hN0
            have hK : va_K D vwCl [(C 1, .long), (C 2, .boolean), (C 3, .int), (C 4, .long), (C 5, .long), (C 6, .double)] (s.setDrawn d_63) := hK0
            refine lv_dstore (lv' := [(6, .double r_62), (5, .int (nI (j + 1))), (0, .ref m0), (1, .long ped), (3, .long sl)]) hx hb dX2_step_137 hl (by decide) rfl (fun ls hl => ?_)
            refine lv_aload_n hx hb dX2_step_139 rfl (lv_at hl 2 rfl) ?_
            refine va_get (D := D) (ci := 2) (v := .ref (a 6)) (C := RX2) (T := TX2) (N := 14) hx hb hts (by decide +kernel) hown hK hP 0 rfl rfl 7 (by decide) (hts _ hm16) (fun _ h9 => h9) rfl dX2_step_140 ?_
            refine lv_iload hx hb dX2_step_143 (lv_at hl 1 rfl) ?_
            refine lv_dload hx hb dX2_step_145 (lv_at hl 0 rfl) ?_
            refine lv_dconst0 hx hb dX2_step_147 ?_
            refine lv_dcmp hx hb dX2_step_148 ?_
            refine lv_if_ge (tgt := 156) hx hb dX2_step_149 (by decide) (fun c_66 => ?_) (fun c_66 => ?_)
            · skip
              refine lv_dload hx hb dX2_step_156 (lv_at hl 0 rfl) ?_
              refine va_dast (D := D) (f := mo2) hx hb hK hP hD hS 6 5 rfl rfl (ix_9 hn hlt) dX2_step_158 (fun H locs hP hD hS => ?_)
              rw [wIx hn hlt] at hP hD
              replace hP : va_P D vwCl (mw m0 a C 0 (nI n) sp lo (jPh lo ph (mRef n ped rf lo sp) ped sp pr (j + 1)) (jPr mPr lo ph (mRef n ped rf lo sp) ped sp pr bo hd (j + 1)) bo (va_up mo2 (j + 1) r_62) (mRef n ped rf lo sp) gr hd (st + 1) ch rs) H := hP
              replace hD : va_D A (mw m0 a C 0 (nI n) sp lo (jPh lo ph (mRef n ped rf lo sp) ped sp pr (j + 1)) (jPr mPr lo ph (mRef n ped rf lo sp) ped sp pr bo hd (j + 1)) bo (va_up mo2 (j + 1) r_62) (mRef n ped rf lo sp) gr hd (st + 1) ch rs) := hD
              refine lv_iinc (v := nI (j + 1 + 1)) (lv' := [(5, .int (nI (j + 1 + 1))), (6, .double r_62), (0, .ref m0), (1, .long ped), (3, .long sl)]) hx hb dX2_step_159 hl (k := 1) rfl (nI_1 (j + 1)) (by decide) rfl (fun ls hl => ?_)
              refine lv_goto (tgt := 56) hx hb dX2_step_162 (by decide) ?_
              exact ih _ _ _ _ (j := j + 1) (mo2 := va_up mo2 (j + 1) r_62) ⟨by omega, by rw [show nI ((j + 1) + 1) = nI (j + 1 + 1) from rfl]; exact lv_sub hl [0, 2, 3, 4] rfl, by exact hP, by exact hD, hS, hdd_65, jM_up hM (v := jPr mPr lo ph (mRef n ped rf lo sp) ped sp pr bo hd (j + 1) (j + 1)) ⟨_, _, _, _, _, al_48, al_52, al_56, al_60, al_64, by simp [c_66]⟩ (jPr_in _ _ _ _ _ _ _ _ _ (by omega) (Nat.le_refl _))⟩ (by omega)
            · skip
              refine lv_dconst0 hx hb dX2_step_152 ?_
              refine lv_goto (tgt := 158) hx hb dX2_step_153 (by decide) ?_
              refine va_dast (D := D) (f := mo2) hx hb hK hP hD hS 6 5 rfl rfl (ix_9 hn hlt) dX2_step_158 (fun H locs hP hD hS => ?_)
              rw [wIx hn hlt] at hP hD
              replace hP : va_P D vwCl (mw m0 a C 0 (nI n) sp lo (jPh lo ph (mRef n ped rf lo sp) ped sp pr (j + 1)) (jPr mPr lo ph (mRef n ped rf lo sp) ped sp pr bo hd (j + 1)) bo (va_up mo2 (j + 1) FP.dconst0) (mRef n ped rf lo sp) gr hd (st + 1) ch rs) H := hP
              replace hD : va_D A (mw m0 a C 0 (nI n) sp lo (jPh lo ph (mRef n ped rf lo sp) ped sp pr (j + 1)) (jPr mPr lo ph (mRef n ped rf lo sp) ped sp pr bo hd (j + 1)) bo (va_up mo2 (j + 1) FP.dconst0) (mRef n ped rf lo sp) gr hd (st + 1) ch rs) := hD
              refine lv_iinc (v := nI (j + 1 + 1)) (lv' := [(5, .int (nI (j + 1 + 1))), (6, .double r_62), (0, .ref m0), (1, .long ped), (3, .long sl)]) hx hb dX2_step_159 hl (k := 1) rfl (nI_1 (j + 1)) (by decide) rfl (fun ls hl => ?_)
              refine lv_goto (tgt := 56) hx hb dX2_step_162 (by decide) ?_
              exact ih _ _ _ _ (j := j + 1) (mo2 := va_up mo2 (j + 1) FP.dconst0) ⟨by omega, by rw [show nI ((j + 1) + 1) = nI (j + 1 + 1) from rfl]; exact lv_sub hl [0, 2, 3, 4] rfl, by exact hP, by exact hD, hS, hdd_65, jM_up hM (v := jPr mPr lo ph (mRef n ped rf lo sp) ped sp pr bo hd (j + 1) (j + 1)) ⟨_, _, _, _, _, al_48, al_52, al_56, al_60, al_64, by simp [c_66]⟩ (jPr_in _ _ _ _ _ _ _ _ _ (by omega) (Nat.le_refl _))⟩ (by omega)
        · skip
          replace c_4 := mt (lg_cmp_le _ _).mpr c_4
          replace c_4 := i64_lt c_4
          refine lv_bipush (v := (-2)) hx hb dX2_step_35 (by decide) ?_
          refine W.endD hdd ?_
          exact W.iret (v := (-2)) hx hb hr (fun t ht hW => ⟨⟨_, (0, ph, pr, mo, rf, gr, hd, st, ch, rs), rfl, ⟨fun _ => ⟨rfl, rfl⟩, fun h => absurd (by simp [fBad, c_1, c_2, c_3, c_4]) h⟩, xB_end hP hK hN hD ht hW⟩, hS.F ht⟩) hS.2.2 dX2_step_37
end
