/-! A method as its walk needs it: name, code, locals, what it returns, the frames and the locals' words that its own calls need. V: from here the method comes to its end with Q of its answer and of the world; at most k cells of n slots come. -/
abbrev MT : Type := MethodName × ByteArray × Nat × Option FieldType × Nat × Nat
abbrev MP : Type := Nat → Option va_E
abbrev TY : Type := List (ClassId × FieldType)
def mt_ws (t : MT) : List Cond := .code t.1 t.2.1 t.2.2.1 t.2.2.2.1 :: gw
def mt_rm (t : MT) (k n : Nat) : Room := { frames := t.2.2.2.2.1, cells := k, slots := n, locals := t.2.2.2.2.2 }
def KK (D : va_G) (tys : TY) (U : State) : Prop := va_K D cls tys U ∧ ∀ w ∈ nw, va_Nw w U
theorem KK_warm {D : va_G} {tys : TY} {s U : State} (hW : s.WarmedH U.vm) (h : KK D tys s) : KK D tys U := by
  refine ⟨va_K.moved hW.alike h.1, fun w hw => ?_⟩
  have h2 := (List.mem_filter.mp hw).2
  have h3 := h.2 w hw
  cases w <;> first | exact va_Nw.warmF hW h3 | exact va_Nw.warmM hW h3 | exact (Bool.false_ne_true h2).elim | (rename_i ty; cases ty <;> first | exact va_AO.moved hW.alike h3 | exact (Bool.false_ne_true h2).elim)
theorem KK_call {D : va_G} {tys : TY} {U : State} {g : JFrame} {mk : MethodId} {a : Array Value} (h : KK D tys U) : KK D tys (U.calling g mk a) := by
  refine ⟨va_K.moved (u := U) (U := U.calling g mk a) (Vm.Alike.refl U.vm) h.1, fun w hw => ?_⟩
  have h2 := (List.mem_filter.mp hw).2
  have h3 := h.2 w hw
  cases w <;> first | exact (Bool.false_ne_true h2).elim | exact va_Nw.same rfl rfl h3 | (rename_i ty; cases ty <;> first | exact va_AO.moved (u := U) (U := U.calling g mk a) (Vm.Alike.refl U.vm) h3 | exact (Bool.false_ne_true h2).elim)
/-! what a throw needs of the start: words that hold at s0, the law's start, and Throwable's statics at a, which no run of ours may change -/
def tkA : List Cond := [.declares ⟨"java/lang/RuntimeException", "<init>", "(Ljava/lang/String;)V"⟩, .declares ⟨"java/lang/Exception", "<init>", "(Ljava/lang/String;)V"⟩, .declares ⟨"java/lang/Throwable", "<init>", "(Ljava/lang/String;)V"⟩, .castable "java/lang/IllegalStateException" "java/lang/IllegalStateException", .castable "java/lang/UnsupportedOperationException" "java/lang/UnsupportedOperationException"]
def tkS : List (Nat × String) := [(131, "the file has its end, or there is no box"), (144, "the file is full"), (151, "a place or a move is no size"), (153, "the file has its end")]
def tkB : List (String × String) := [("UNASSIGNED_STACK", "[Ljava/lang/StackTraceElement;"), ("SUPPRESSED_SENTINEL", "Ljava/util/List;")]
/-- no UnsupportedOperationException is an IllegalStateException -/
def tkN (U : State) : Prop := ∀ c1 c2, U.vm.findClass "java/lang/UnsupportedOperationException" = some c1 → U.vm.findClass "java/lang/IllegalStateException" = some c2 → U.vm.assignable c1 c2 = false
theorem tkN_warm {s U : State} (hW : s.WarmedH U.vm) (h : tkN s) : tkN U := fun c1 c2 h1 h2 => by
  rw [hW.alike.findClass] at h1 h2
  rw [hW.alike.assignable]
  exact h c1 c2 h1 h2
def TW (s0 : State) (a : Nat) : Prop := (∀ w ∈ tkA, w.before #[] s0 = true) ∧ (∀ q ∈ tkS, (Cond.stringRef "PageFile" q.1 q.2).before #[] s0 = true) ∧ (∀ q ∈ tkB, (Cond.laysStatic "java/lang/Throwable" q.1 q.2).before #[] s0 = true ∧ (Cond.isRef (.static "java/lang/Throwable" q.1 q.2)).before #[] s0 = true ∧ ∃ (c : ClassId) (k : Class) (i : Nat) (f : Field), s0.fieldFound? "java/lang/Throwable" q.1 q.2 = some (c, k, i, f) ∧ k.statics = some a) ∧ tkN s0
/-- the law's script: it lies outside of all worlds, at the address D.2 100 0, of D.2 100 1 ints D.2 101 -/
def XSC (D : va_G) (A : Nat → Prop) (U : State) : Prop := va_X (D.2 100 0) (D.2 100 1) (fun j => Int32.ofNat (D.2 101 j)) U U.heap ∧ ¬ A (D.2 100 0)
def AC (D : va_G) (A : Nat → Prop) (U : State) : Prop := ((∀ q, U.heap.size ≤ q → A q) ∧ XSC D A U) ∧ ∃ (s0 : State) (a : Nat), TW s0 a ∧ s0.WarmedH U.vm ∧ ¬ A a ∧ a < s0.heap.size ∧ U.heap[a]? = s0.heap[a]?
theorem AC_S {D : va_G} {A : Nat → Prop} {s U : State} {locs : List Loc} (h : AC D A s) (hW : s.WarmedH U.vm) (hS : va_S A s.heap U.heap locs) : AC D A U := by
  obtain ⟨⟨h0, hx, hxA⟩, s0, a, h1, h2, h3, h4, h5⟩ := h
  have hxl : D.2 100 0 < s.heap.size := by
    obtain ⟨scr, e1, -⟩ := hx
    exact (Array.getElem?_eq_some_iff.mp e1).1
  have hlt : a < s.heap.size := by
    rcases Nat.lt_or_ge a s.heap.size with z | z
    · exact z
    · rw [Array.getElem?_eq_none z, Array.getElem?_eq_getElem h4] at h5; cases h5
  exact ⟨⟨fun q hq => h0 q (Nat.le_trans hS.1 hq), (va_X.moved hW.alike hx).kept (hS.2.1 _ hxl hxA), hxA⟩, s0, a, h1, State.WarmedH.trans h2 hW, h3, h4, (hS.2.1 a hlt h3).trans h5⟩
theorem AC_wA {D : va_G} {A : Nat → Prop} {U : State} (h : AC D A U) {w : Cond} (hw : w ∈ tkA) {args : Array Value} : w.before args U = true := by
  obtain ⟨_, s0, a, h1, h2, _⟩ := h
  have h9 := h1.1 w hw
  unfold tkA at hw
  simp only [List.mem_cons, List.not_mem_nil, or_false] at hw
  rcases hw with rfl | rfl | rfl | rfl | rfl
  · exact va_Nw.use rfl (va_Nw.warmD h2 h9)
  · exact va_Nw.use rfl (va_Nw.warmD h2 h9)
  · exact va_Nw.use rfl (va_Nw.warmD h2 h9)
  · exact va_Nw.use rfl (va_Nw.warmC h2 h9)
  · exact va_Nw.use rfl (va_Nw.warmC h2 h9)
theorem AC_str {D : va_G} {A : Nat → Prop} {U : State} (h : AC D A U) {q : Nat × String} (hq : q ∈ tkS) : ∃ b, vk_R "PageFile" q.1 q.2 b U := by
  obtain ⟨_, s0, a, h1, h2, _⟩ := h
  have h9 := h1.2.1 q hq
  have hcur : ∃ cur, s0.vm.findClass "PageFile" = some cur := by
    have h8 := h9
    simp only [Cond.before, Cond.holds, Cond.value] at h8
    cases hc : s0.vm.findClass "PageFile" with
    | none => simp [hc] at h8
    | some cur => exact ⟨cur, rfl⟩
  obtain ⟨cur, hcur⟩ := hcur
  obtain ⟨k, cf, i, b, -, -, -, -, -, h6⟩ := Cond.stringRef_spec (args := #[]) (first := s0) (o := none) (idx := []) hcur h9
  exact ⟨b, vk_R.warm h2 (vk_R.of h9 h6)⟩
theorem AC_wB {D : va_G} {A : Nat → Prop} {U : State} (h : AC D A U) {q : String × String} (hq : q ∈ tkB) {args : Array Value} : (Cond.laysStatic "java/lang/Throwable" q.1 q.2).before args U = true ∧ (Cond.isRef (.static "java/lang/Throwable" q.1 q.2)).before args U = true := by
  obtain ⟨_, s0, a, h1, h2, h3, h4, h5⟩ := h
  obtain ⟨g1, g2, c, k, i, f, g3, g4⟩ := h1.2.2.1 q hq
  obtain ⟨k', g5, g6⟩ := State.fieldFound?_setVm h2.alike g3
  have g5' : U.fieldFound? "java/lang/Throwable" q.1 q.2 = some (c, k', i, f) := g5
  have e1 : k'.statics = some a := by rw [g6]; exact g4
  have e2 : k'.staticTypes = k.staticTypes := by rw [g6]
  constructor
  · simp only [Cond.before, Cond.holds, Cond.value] at g1 ⊢
    rw [h2.alike.findClass, g5']
    rw [g3] at g1
    cases hc : s0.vm.findClass "java/lang/Throwable" none with
    | none => simp [hc] at g1
    | some cc =>
      rw [hc] at g1
      simp only [e1, e2, g4, Option.bind_some, h5] at g1 ⊢
      exact g1
  · have hev : (Term.static "java/lang/Throwable" q.1 q.2).eval args U none [] U = (Term.static "java/lang/Throwable" q.1 q.2).eval #[] s0 none [] s0 := by
      cases hst : f.isStatic <;> simp [Term.eval, State.fieldNamed?, g3, g5', hst, e1, g4, h5]
    simp only [Cond.before, Cond.holds, Cond.value] at g2 ⊢
    rw [hev]
    exact g2
/-- the exception tables: only the law's ship and finish have one -/
def hnd (t : MT) : List (Nat × Nat × Nat × Nat) := if t.1.cls == "PageFileLaw" then (if t.1.name == "ship" then [(0, 9, 12, 13), (0, 9, 15, 15)] else if t.1.name == "finish" then [(0, 8, 11, 13)] else []) else []
def ehd (c : Code) : List (Nat × Nat × Nat × Nat) := c.exceptionTable.toList.map (fun h => (h.startPc, h.endPc, h.handlerPc, h.catchType))
theorem ehd_nil {c : Code} (h : c.exceptionTable.isEmpty = true) : ehd c = [] := by
  unfold ehd
  rw [Array.isEmpty_iff.mp h]
  rfl
/-- only PageFile's ship and finish may end by a throw: it counts as the answer none (IllegalStateException) or null (UnsupportedOperationException) -/
def thrw (t : MT) : Bool := t.1.cls == "PageFile" && (t.1.name == "ship" || t.1.name == "finish")
def thrV (b : Bool) : Option Value := if b then none else some .null
def thrC (b : Bool) : String := if b then "java/lang/IllegalStateException" else "java/lang/UnsupportedOperationException"
def PreM (D : va_G) (tys : TY) (A : Nat → Prop) (M : MP) (U : State) : Prop := AC D A U ∧ mw D cls A M U.heap ∧ KK D tys U
def QcM (D : va_G) (A : Nat → Prop) (Q : Option Value → MP → Prop) : Array Value → State → Outcome → State → Prop := fun _ st oc t => (∃ (r : Option Value) (M' : MP), oc = .returned r ∧ Q r M' ∧ mw D cls A M' t.heap) ∧ va_F A st t
/-- the contract: from every world M (with A all that may change) the method returns, Q of its answer and of the new world; k cells of n slots at most -/
def Ct (l : Launch) (D : va_G) (tys : TY) (t : MT) (k n : Nat) (av : List Value) (M : MP) (Q : Option Value → MP → Prop) : Prop := ∀ A : Nat → Prop, Met l t.1 (mt_ws t) (mt_rm t k n) (va_Pc av (PreM D tys A M)) (QcM D A Q) k n A
def Cx (D : va_G) (tys : TY) (t : MT) (A : Nat → Prop) (p : Program) (s : State) (m : MethodId) (args : Array Value) (meth : Method) (c : Code) : Prop :=
  CallFix p m c t.2.1 t.2.2.1 s args gw t.1.cls ∧ meth.sig.returnType = t.2.2.2.1 ∧ meth.locks = false ∧ meth.name = t.1.name ∧ KK D tys s ∧ AC D A s ∧ ehd c = hnd t
def TE (D : va_G) (A : Nat → Prop) (Q : Option Value → MP → Prop) (below : List Frame) (s : State) (k0 n0 : Nat) (u : State) : Prop := ∃ (a : Addr) (b : Bool) (M' : MP) (L : List Loc) (ce : Cell), u.status = .running ∧ Ended u below (.threw a) ∧ s.WarmedH u.vm ∧ s.sameButNew ({ u with vm := s.vm } : State) L k0 n0 ∧ (∀ q ∈ L, A q.base) ∧ Q (thrV b) M' ∧ mw D cls A M' u.heap ∧ va_F A s u ∧ u.heap[a]? = some ce ∧ s.vm.findClass (thrC b) = some ce.cls ∧ ce.vm = .none
def QcV (D : va_G) (t : MT) (A : Nat → Prop) (Q : Option Value → MP → Prop) : Array Value → State → Outcome → State → Prop := fun a st oc u => QcM D A Q a st oc u ∧ (thrw t = true → ∃ v : Int32, oc = .returned (some (.int v)))
def VE (D : va_G) (t : MT) (A : Nat → Prop) (Q : Option Value → MP → Prop) (below : List Frame) (args : Array Value) (s : State) (k0 n0 : Nat) (u : State) : Prop := MQ below (QcV D t A Q) args s k0 n0 A u ∨ (thrw t = true ∧ TE D A Q below s k0 n0 u)
theorem W_mono {p : Program} {l : Launch} {e : Env} {R : Room} {s : State} {m : MethodId} {args : Array Value} {below : List Frame} {meth : Method} {c : Code} {H : Heap} {locs : List Loc} {cells slots : Nat} {Q Q' : State → Prop} {g : JFrame} (hq : ∀ u, Q u → Q' u) (h : W p l e R s m args below meth c H locs cells slots Q g) : W p l e R s m args below meth c H locs cells slots Q' g := fun T hT X => by
  obtain ⟨u, h1, h2⟩ := h T hT X
  exact ⟨u, h1, hq u h2⟩
def V (l : Launch) (D : va_G) (tys : TY) (t : MT) (k n : Nat) (pc : Nat) (lv : List (Nat × Value)) (st : List Value) (M : MP) (Q : Option Value → MP → Prop) : Prop :=
  ∀ (A : Nat → Prop) (p : Program) (e : Env) (s : State) (m : MethodId) (args : Array Value) (below : List Frame) (meth : Method) (c : Code), Cx D tys t A p s m args meth c →
    ∀ (k0 n0 : Nat) (H : Heap) (locs : List Loc) (cells slots : Nat) (ls : Array Slot), mw D cls A M H → va_S A s.heap H locs → lv_has ls t.2.2.1 lv → cells + k ≤ k0 → slots + n ≤ n0 →
      W p l e (mt_rm t k0 n0) s m args below meth c H locs cells slots (VE D t A Q below args s k0 n0) (F0 m pc ls st)
theorem Ct_of {l : Launch} {D : va_G} {tys : TY} {t : MT} {k n : Nat} {av : List Value} {M : MP} {Q : Option Value → MP → Prop} (hpl : plainName t.1.cls = true) (hlen : (lg_sl av).length ≤ t.2.2.1) (h : V l D tys t k n 0 (lv_args 0 av) [] M Q) (hnt : thrw t = false ∧ hnd t = [] := by decide) : Ct l D tys t k n av M Q := by
  intro A
  refine Met.ofW (cc := t.2.1) (maxL := t.2.2.1) (ret := t.2.2.2.1) hpl rfl ?_
  intro p e s m args below meth c s₁ B hml hv
  obtain ⟨rfl, hA, hM, hK⟩ := hv
  rw [lg_entry_eq]
  refine W_mono (Q := VE D t A Q below av.toArray s k n) (fun u hu => hu.elim (fun z => by obtain ⟨o, z1, z2, z3, z4⟩ := z; exact ⟨o, z1, z2, z3.1, z4⟩) (fun z => by rw [hnt.1] at z; cases z.1)) ?_
  exact h A p e s m _ below meth c ⟨⟨B.exec, B.bytes, hml, findClass_of_methodNamed B.named, fun w hw => atoms_spec (ws := mt_ws t) B.pre w (List.mem_cons_of_mem _ hw)⟩, B.returns, B.notSynchronized, (name_of_methodNamed B.named B.method).1, hK, hA, (ehd_nil (B.noHandlers (atoms_spec (ws := mt_ws t) B.pre _ List.mem_cons_self))).trans hnt.2.symm⟩ k n s.heap [] 0 0 _ hM va_S.rf (lv_entry av hlen) (by omega) (by omega)
theorem Ct_mono {l : Launch} {D : va_G} {tys : TY} {t : MT} {k n : Nat} {av : List Value} {M : MP} {Q Q' : Option Value → MP → Prop} (h : Ct l D tys t k n av M Q) (hq : ∀ r M', Q r M' → Q' r M') : Ct l D tys t k n av M Q' := by
  intro A p e ha hc hk s m args below hf happ hP hT
  obtain ⟨u, o, h1, h2, h3, h4⟩ := h A p e ha hc hk s m args below hf happ hP hT
  obtain ⟨⟨⟨r, M', e1, e2, e3⟩, e4⟩, e5⟩ := h4
  exact ⟨u, o, h1, h2, h3, ⟨⟨r, M', e1, hq r M' e2, e3⟩, e4⟩, e5⟩
theorem gw_ts {args : Array Value} {s : State} (h : ∀ w ∈ gw, w.before args s = true) {w : Cond} (hw : w ∈ gw) : w.before args s = true := h w hw
theorem gw_sub {ws : List Cond} (h : ∀ w ∈ ws, w ∈ gw) : ∀ w ∈ ws, w ∈ gw := h
theorem lv_look {ls : Array Slot} {nL : Nat} {lv : List (Nat × Value)} (h : lv_has ls nL lv) {i : Nat} {v : Value} (hl : lv.lookup i = some v) : ls[i]? = some (.val v) := by
  refine h.2.2 (i, v) ?_
  clear h
  induction lv with
  | nil => cases hl
  | cons q lv ih =>
    obtain ⟨j, w⟩ := q
    by_cases hj : i = j
    · subst hj
      rw [List.lookup_cons_self] at hl
      cases hl
      exact List.mem_cons_self
    · have hb : (i == j) = false := beq_eq_false_iff_ne.mpr hj
      rw [List.lookup_cons, hb] at hl
      exact List.mem_cons_of_mem _ (ih hl)
/-- a reference or null -/
def isr (v : Value) : Prop := v = .null ∨ ∃ a, v = .ref a
theorem isr_rf (r : Option Nat) : isr (va_rf r) := va_rf_or r
theorem isr_ref (a : Nat) : isr (.ref a) := Or.inr ⟨a, rfl⟩
theorem isr_null : isr .null := Or.inl rfl
section VV
variable {l : Launch} {D : va_G} {tys : TY} {t : MT} {k n pc : Nat} {lv : List (Nat × Value)} {st : List Value} {M : MP} {Q : Option Value → MP → Prop}
theorem V_iadd {x y : Int32} (hd : decode t.2.1 pc = .ok (.iadd, 1)) (h : V l D tys t k n (pc + 1) lv (.int (x + y) :: st) M Q) : V l D tys t k n pc lv (.int y :: .int x :: st) M Q := fun A p e s m args below meth c C k0 n0 H locs cells slots ls hM hS hl hk hn => lv_iadd C.1.1 C.1.2.1 hd (h A p e s m args below meth c C k0 n0 H locs cells slots ls hM hS hl hk hn)
theorem V_isub {x y : Int32} (hd : decode t.2.1 pc = .ok (.isub, 1)) (h : V l D tys t k n (pc + 1) lv (.int (x - y) :: st) M Q) : V l D tys t k n pc lv (.int y :: .int x :: st) M Q := fun A p e s m args below meth c C k0 n0 H locs cells slots ls hM hS hl hk hn => lv_isub C.1.1 C.1.2.1 hd (h A p e s m args below meth c C k0 n0 H locs cells slots ls hM hS hl hk hn)
theorem V_imul {x y : Int32} (hd : decode t.2.1 pc = .ok (.imul, 1)) (h : V l D tys t k n (pc + 1) lv (.int (x * y) :: st) M Q) : V l D tys t k n pc lv (.int y :: .int x :: st) M Q := fun A p e s m args below meth c C k0 n0 H locs cells slots ls hM hS hl hk hn => lv_imul C.1.1 C.1.2.1 hd (h A p e s m args below meth c C k0 n0 H locs cells slots ls hM hS hl hk hn)
theorem V_iand {x y : Int32} (hd : decode t.2.1 pc = .ok (.iand, 1)) (h : V l D tys t k n (pc + 1) lv (.int (x &&& y) :: st) M Q) : V l D tys t k n pc lv (.int y :: .int x :: st) M Q := fun A p e s m args below meth c C k0 n0 H locs cells slots ls hM hS hl hk hn => lv_iand C.1.1 C.1.2.1 hd (h A p e s m args below meth c C k0 n0 H locs cells slots ls hM hS hl hk hn)
theorem V_ior {x y : Int32} (hd : decode t.2.1 pc = .ok (.ior, 1)) (h : V l D tys t k n (pc + 1) lv (.int (x ||| y) :: st) M Q) : V l D tys t k n pc lv (.int y :: .int x :: st) M Q := fun A p e s m args below meth c C k0 n0 H locs cells slots ls hM hS hl hk hn => lv_ior C.1.1 C.1.2.1 hd (h A p e s m args below meth c C k0 n0 H locs cells slots ls hM hS hl hk hn)
theorem V_ixor {x y : Int32} (hd : decode t.2.1 pc = .ok (.ixor, 1)) (h : V l D tys t k n (pc + 1) lv (.int (x ^^^ y) :: st) M Q) : V l D tys t k n pc lv (.int y :: .int x :: st) M Q := fun A p e s m args below meth c C k0 n0 H locs cells slots ls hM hS hl hk hn => lv_ixor C.1.1 C.1.2.1 hd (h A p e s m args below meth c C k0 n0 H locs cells slots ls hM hS hl hk hn)
theorem V_ishl {x y : Int32} (hd : decode t.2.1 pc = .ok (.ishl, 1)) (h : V l D tys t k n (pc + 1) lv (.int (x <<< (y &&& 31)) :: st) M Q) : V l D tys t k n pc lv (.int y :: .int x :: st) M Q := fun A p e s m args below meth c C k0 n0 H locs cells slots ls hM hS hl hk hn => lv_ishl C.1.1 C.1.2.1 hd (h A p e s m args below meth c C k0 n0 H locs cells slots ls hM hS hl hk hn)
theorem V_ishr {x y : Int32} (hd : decode t.2.1 pc = .ok (.ishr, 1)) (h : V l D tys t k n (pc + 1) lv (.int (x >>> (y &&& 31)) :: st) M Q) : V l D tys t k n pc lv (.int y :: .int x :: st) M Q := fun A p e s m args below meth c C k0 n0 H locs cells slots ls hM hS hl hk hn => lv_ishr C.1.1 C.1.2.1 hd (h A p e s m args below meth c C k0 n0 H locs cells slots ls hM hS hl hk hn)
theorem V_ladd {x y : Int64} (hd : decode t.2.1 pc = .ok (.ladd, 1)) (h : V l D tys t k n (pc + 1) lv (.long (x + y) :: st) M Q) : V l D tys t k n pc lv (.long y :: .long x :: st) M Q := fun A p e s m args below meth c C k0 n0 H locs cells slots ls hM hS hl hk hn => lv_ladd C.1.1 C.1.2.1 hd (h A p e s m args below meth c C k0 n0 H locs cells slots ls hM hS hl hk hn)
theorem V_lsub {x y : Int64} (hd : decode t.2.1 pc = .ok (.lsub, 1)) (h : V l D tys t k n (pc + 1) lv (.long (x - y) :: st) M Q) : V l D tys t k n pc lv (.long y :: .long x :: st) M Q := fun A p e s m args below meth c C k0 n0 H locs cells slots ls hM hS hl hk hn => lv_lsub C.1.1 C.1.2.1 hd (h A p e s m args below meth c C k0 n0 H locs cells slots ls hM hS hl hk hn)
theorem V_i2l {x : Int32} (hd : decode t.2.1 pc = .ok (.i2l, 1)) (h : V l D tys t k n (pc + 1) lv (.long x.toInt64 :: st) M Q) : V l D tys t k n pc lv (.int x :: st) M Q := fun A p e s m args below meth c C k0 n0 H locs cells slots ls hM hS hl hk hn => lv_i2l C.1.1 C.1.2.1 hd rfl (h A p e s m args below meth c C k0 n0 H locs cells slots ls hM hS hl hk hn)
theorem V_l2i {x : Int64} (hd : decode t.2.1 pc = .ok (.l2i, 1)) (h : V l D tys t k n (pc + 1) lv (.int x.toInt32 :: st) M Q) : V l D tys t k n pc lv (.long x :: st) M Q := fun A p e s m args below meth c C k0 n0 H locs cells slots ls hM hS hl hk hn => lv_l2i C.1.1 C.1.2.1 hd rfl (h A p e s m args below meth c C k0 n0 H locs cells slots ls hM hS hl hk hn)
theorem V_i2b {x : Int32} (hd : decode t.2.1 pc = .ok (.i2b, 1)) (h : V l D tys t k n (pc + 1) lv (.int x.toInt8.toInt32 :: st) M Q) : V l D tys t k n pc lv (.int x :: st) M Q := fun A p e s m args below meth c C k0 n0 H locs cells slots ls hM hS hl hk hn => lv_i2b C.1.1 C.1.2.1 hd rfl (h A p e s m args below meth c C k0 n0 H locs cells slots ls hM hS hl hk hn)
theorem V_lcmp {x y : Int64} (hd : decode t.2.1 pc = .ok (.lcmp, 1)) (h : V l D tys t k n (pc + 1) lv (.int (lg_cmp x y) :: st) M Q) : V l D tys t k n pc lv (.long y :: .long x :: st) M Q := fun A p e s m args below meth c C k0 n0 H locs cells slots ls hM hS hl hk hn => W.lcmp C.1.1 C.1.2.1 hd (h A p e s m args below meth c C k0 n0 H locs cells slots ls hM hS hl hk hn)
theorem V_iconst {j : Int} {v : Int32} (hd : decode t.2.1 pc = .ok (.iconst j, 1)) (hv : Int32.ofInt j = v) (h : V l D tys t k n (pc + 1) lv (.int v :: st) M Q) : V l D tys t k n pc lv st M Q := fun A p e s m args below meth c C k0 n0 H locs cells slots ls hM hS hl hk hn => lv_iconst C.1.1 C.1.2.1 hd hv (h A p e s m args below meth c C k0 n0 H locs cells slots ls hM hS hl hk hn)
theorem V_bipush {j : Int} {v : Int32} (hd : decode t.2.1 pc = .ok (.bipush j, 2)) (hv : (Int8.ofInt j).toInt32 = v) (h : V l D tys t k n (pc + 2) lv (.int v :: st) M Q) : V l D tys t k n pc lv st M Q := fun A p e s m args below meth c C k0 n0 H locs cells slots ls hM hS hl hk hn => lv_bipush C.1.1 C.1.2.1 hd hv (h A p e s m args below meth c C k0 n0 H locs cells slots ls hM hS hl hk hn)
theorem V_sipush {j : Int} {v : Int32} (hd : decode t.2.1 pc = .ok (.sipush j, 3)) (hv : (Int16.ofInt j).toInt32 = v) (h : V l D tys t k n (pc + 3) lv (.int v :: st) M Q) : V l D tys t k n pc lv st M Q := fun A p e s m args below meth c C k0 n0 H locs cells slots ls hM hS hl hk hn => lv_sipush C.1.1 C.1.2.1 hd hv (h A p e s m args below meth c C k0 n0 H locs cells slots ls hM hS hl hk hn)
theorem V_lconst {j : Fin 2} {v : Int64} (hd : decode t.2.1 pc = .ok (.lconst j, 1)) (hv : Int64.ofNat (j : Nat) = v) (h : V l D tys t k n (pc + 1) lv (.long v :: st) M Q) : V l D tys t k n pc lv st M Q := fun A p e s m args below meth c C k0 n0 H locs cells slots ls hM hS hl hk hn => lv_lconst C.1.1 C.1.2.1 hd hv (h A p e s m args below meth c C k0 n0 H locs cells slots ls hM hS hl hk hn)
theorem V_ldc {i : Nat} {v : Int32} (hd : decode t.2.1 pc = .ok (.ldc i, 2)) (hw : Cond.constant t.1.cls i v ∈ gw) (h : V l D tys t k n (pc + 2) lv (.int v :: st) M Q) : V l D tys t k n pc lv st M Q := fun A p e s m args below meth c C k0 n0 H locs cells slots ls hM hS hl hk hn => lv_ldc C.1.1 C.1.2.1 C.1.2.2.2.1 (gw_ts C.1.2.2.2.2 hw) hd (h A p e s m args below meth c C k0 n0 H locs cells slots ls hM hS hl hk hn)
theorem V_ldc2 {i : Nat} {v : Int64} (hd : decode t.2.1 pc = .ok (.ldc2_w i, 3)) (hw : Cond.constantLong t.1.cls i v ∈ gw) (h : V l D tys t k n (pc + 3) lv (.long v :: st) M Q) : V l D tys t k n pc lv st M Q := fun A p e s m args below meth c C k0 n0 H locs cells slots ls hM hS hl hk hn => lv_ldc2 C.1.1 C.1.2.1 C.1.2.2.2.1 (gw_ts C.1.2.2.2.2 hw) hd (h A p e s m args below meth c C k0 n0 H locs cells slots ls hM hS hl hk hn)
theorem V_dup {v : Value} (hd : decode t.2.1 pc = .ok (.dup, 1)) (hc : v.category = 1) (h : V l D tys t k n (pc + 1) lv (v :: v :: st) M Q) : V l D tys t k n pc lv (v :: st) M Q := fun A p e s m args below meth c C k0 n0 H locs cells slots ls hM hS hl hk hn => lv_dup C.1.1 C.1.2.1 hd hc (h A p e s m args below meth c C k0 n0 H locs cells slots ls hM hS hl hk hn)
theorem V_pop {v : Value} (hd : decode t.2.1 pc = .ok (.pop, 1)) (hc : v.category = 1) (h : V l D tys t k n (pc + 1) lv st M Q) : V l D tys t k n pc lv (v :: st) M Q := fun A p e s m args below meth c C k0 n0 H locs cells slots ls hM hS hl hk hn => lv_pop C.1.1 C.1.2.1 hd hc (h A p e s m args below meth c C k0 n0 H locs cells slots ls hM hS hl hk hn)
theorem V_dup_x1 {v w : Value} (hd : decode t.2.1 pc = .ok (.dup_x1, 1)) (hc : v.category = 1) (hc2 : w.category = 1) (h : V l D tys t k n (pc + 1) lv (v :: w :: v :: st) M Q) : V l D tys t k n pc lv (v :: w :: st) M Q := fun A p e s m args below meth c C k0 n0 H locs cells slots ls hM hS hl hk hn => lv_dup_x1 C.1.1 C.1.2.1 hd hc hc2 (h A p e s m args below meth c C k0 n0 H locs cells slots ls hM hS hl hk hn)
theorem V_dup2 {v w : Value} (hd : decode t.2.1 pc = .ok (.dup2, 1)) (hc : v.category = 1) (hc2 : w.category = 1) (h : V l D tys t k n (pc + 1) lv (v :: w :: v :: w :: st) M Q) : V l D tys t k n pc lv (v :: w :: st) M Q := fun A p e s m args below meth c C k0 n0 H locs cells slots ls hM hS hl hk hn => lv_dup2_11 C.1.1 C.1.2.1 hd hc hc2 (h A p e s m args below meth c C k0 n0 H locs cells slots ls hM hS hl hk hn)
theorem V_null  (hd : decode t.2.1 pc = .ok (.aconst_null, 1)) (h : V l D tys t k n (pc + 1) lv (.null :: st) M Q) : V l D tys t k n pc lv st M Q := fun A p e s m args below meth c C k0 n0 H locs cells slots ls hM hS hl hk hn => lv_null C.1.1 C.1.2.1 hd (h A p e s m args below meth c C k0 n0 H locs cells slots ls hM hS hl hk hn)
theorem V_iload_n {j : Fin 4} {x : Int32} (hd : decode t.2.1 pc = .ok (.iload_n j, 1)) (hv : lv.lookup (j : Nat) = some (.int x)) (h : V l D tys t k n (pc + 1) lv (.int x :: st) M Q) : V l D tys t k n pc lv st M Q := fun A p e s m args below meth c C k0 n0 H locs cells slots ls hM hS hl hk hn => lv_iload_n C.1.1 C.1.2.1 hd rfl (lv_look hl hv) (h A p e s m args below meth c C k0 n0 H locs cells slots ls hM hS hl hk hn)
theorem V_iload {i : Nat} {x : Int32} (hd : decode t.2.1 pc = .ok (.iload i, 2)) (hv : lv.lookup i = some (.int x)) (h : V l D tys t k n (pc + 2) lv (.int x :: st) M Q) : V l D tys t k n pc lv st M Q := fun A p e s m args below meth c C k0 n0 H locs cells slots ls hM hS hl hk hn => lv_iload C.1.1 C.1.2.1 hd (lv_look hl hv) (h A p e s m args below meth c C k0 n0 H locs cells slots ls hM hS hl hk hn)
theorem V_lload_n {j : Fin 4} {x : Int64} (hd : decode t.2.1 pc = .ok (.lload_n j, 1)) (hv : lv.lookup (j : Nat) = some (.long x)) (h : V l D tys t k n (pc + 1) lv (.long x :: st) M Q) : V l D tys t k n pc lv st M Q := fun A p e s m args below meth c C k0 n0 H locs cells slots ls hM hS hl hk hn => lv_lload_n C.1.1 C.1.2.1 hd rfl (lv_look hl hv) (h A p e s m args below meth c C k0 n0 H locs cells slots ls hM hS hl hk hn)
theorem V_lload {i : Nat} {x : Int64} (hd : decode t.2.1 pc = .ok (.lload i, 2)) (hv : lv.lookup i = some (.long x)) (h : V l D tys t k n (pc + 2) lv (.long x :: st) M Q) : V l D tys t k n pc lv st M Q := fun A p e s m args below meth c C k0 n0 H locs cells slots ls hM hS hl hk hn => lv_lload C.1.1 C.1.2.1 hd (lv_look hl hv) (h A p e s m args below meth c C k0 n0 H locs cells slots ls hM hS hl hk hn)
theorem V_aload_n {j : Fin 4} {v : Value} (hd : decode t.2.1 pc = .ok (.aload_n j, 1)) (hv : lv.lookup (j : Nat) = some v) (hr : isr v) (h : V l D tys t k n (pc + 1) lv (v :: st) M Q) : V l D tys t k n pc lv st M Q := fun A p e s m args below meth c C k0 n0 H locs cells slots ls hM hS hl hk hn => by
  rcases hr with rfl | ⟨x, rfl⟩
  · exact lv_aload_nN C.1.1 C.1.2.1 hd rfl (lv_look hl hv) (h A p e s m args below meth c C k0 n0 H locs cells slots ls hM hS hl hk hn)
  · exact lv_aload_n C.1.1 C.1.2.1 hd rfl (lv_look hl hv) (h A p e s m args below meth c C k0 n0 H locs cells slots ls hM hS hl hk hn)
theorem V_aload {i : Nat} {v : Value} (hd : decode t.2.1 pc = .ok (.aload i, 2)) (hv : lv.lookup i = some v) (hr : isr v) (h : V l D tys t k n (pc + 2) lv (v :: st) M Q) : V l D tys t k n pc lv st M Q := fun A p e s m args below meth c C k0 n0 H locs cells slots ls hM hS hl hk hn => by
  rcases hr with rfl | ⟨x, rfl⟩
  · exact lv_aloadN C.1.1 C.1.2.1 hd (lv_look hl hv) (h A p e s m args below meth c C k0 n0 H locs cells slots ls hM hS hl hk hn)
  · exact lv_aload C.1.1 C.1.2.1 hd (lv_look hl hv) (h A p e s m args below meth c C k0 n0 H locs cells slots ls hM hS hl hk hn)
theorem V_istore_n {j : Fin 4} {x : Int32} {lv' : List (Nat × Value)} (hd : decode t.2.1 pc = .ok (.istore_n j, 1)) (hb : (j : Nat) < t.2.2.1) (hf : ((j : Nat), Value.int x) :: lv.filter (fun q => !(q.1 == (j : Nat)) && !(q.1 + 1 == (j : Nat) && q.2.category == 2)) = lv') (h : V l D tys t k n (pc + 1) lv' st M Q) : V l D tys t k n pc lv (.int x :: st) M Q := fun A p e s m args below meth c C k0 n0 H locs cells slots ls hM hS hl hk hn => lv_istore_n C.1.1 C.1.2.1 hd rfl hl hb hf (fun ls' hl' => h A p e s m args below meth c C k0 n0 H locs cells slots ls' hM hS hl' hk hn)
theorem V_istore {i : Nat} {x : Int32} {lv' : List (Nat × Value)} (hd : decode t.2.1 pc = .ok (.istore i, 2)) (hb : i < t.2.2.1) (hf : (i, Value.int x) :: lv.filter (fun q => !(q.1 == i) && !(q.1 + 1 == i && q.2.category == 2)) = lv') (h : V l D tys t k n (pc + 2) lv' st M Q) : V l D tys t k n pc lv (.int x :: st) M Q := fun A p e s m args below meth c C k0 n0 H locs cells slots ls hM hS hl hk hn => lv_istore C.1.1 C.1.2.1 hd hl hb hf (fun ls' hl' => h A p e s m args below meth c C k0 n0 H locs cells slots ls' hM hS hl' hk hn)
theorem V_lstore_n {j : Fin 4} {x : Int64} {lv' : List (Nat × Value)} (hd : decode t.2.1 pc = .ok (.lstore_n j, 1)) (hb : (j : Nat) + 1 < t.2.2.1) (hf : ((j : Nat), Value.long x) :: lv.filter (fun q => !(q.1 == (j : Nat)) && (!(q.1 == (j : Nat) + 1) && !(q.1 + 1 == (j : Nat) && q.2.category == 2))) = lv') (h : V l D tys t k n (pc + 1) lv' st M Q) : V l D tys t k n pc lv (.long x :: st) M Q := fun A p e s m args below meth c C k0 n0 H locs cells slots ls hM hS hl hk hn => lv_lstore_n C.1.1 C.1.2.1 hd rfl hl hb hf (fun ls' hl' => h A p e s m args below meth c C k0 n0 H locs cells slots ls' hM hS hl' hk hn)
theorem V_lstore {i : Nat} {x : Int64} {lv' : List (Nat × Value)} (hd : decode t.2.1 pc = .ok (.lstore i, 2)) (hb : i + 1 < t.2.2.1) (hf : (i, Value.long x) :: lv.filter (fun q => !(q.1 == i) && (!(q.1 == i + 1) && !(q.1 + 1 == i && q.2.category == 2))) = lv') (h : V l D tys t k n (pc + 2) lv' st M Q) : V l D tys t k n pc lv (.long x :: st) M Q := fun A p e s m args below meth c C k0 n0 H locs cells slots ls hM hS hl hk hn => lv_lstore C.1.1 C.1.2.1 hd hl hb hf (fun ls' hl' => h A p e s m args below meth c C k0 n0 H locs cells slots ls' hM hS hl' hk hn)
theorem V_astore_n {j : Fin 4} {v : Value} {lv' : List (Nat × Value)} (hd : decode t.2.1 pc = .ok (.astore_n j, 1)) (hr : isr v) (hb : (j : Nat) < t.2.2.1) (hf : ((j : Nat), v) :: lv.filter (fun q => !(q.1 == (j : Nat)) && !(q.1 + 1 == (j : Nat) && q.2.category == 2)) = lv') (h : V l D tys t k n (pc + 1) lv' st M Q) : V l D tys t k n pc lv (v :: st) M Q := fun A p e s m args below meth c C k0 n0 H locs cells slots ls hM hS hl hk hn => by
  rcases hr with rfl | ⟨x, rfl⟩
  · exact lv_astore_nN C.1.1 C.1.2.1 hd rfl hl hb hf (fun ls' hl' => h A p e s m args below meth c C k0 n0 H locs cells slots ls' hM hS hl' hk hn)
  · exact lv_astore_n C.1.1 C.1.2.1 hd rfl hl hb hf (fun ls' hl' => h A p e s m args below meth c C k0 n0 H locs cells slots ls' hM hS hl' hk hn)
theorem V_astore {i : Nat} {v : Value} {lv' : List (Nat × Value)} (hd : decode t.2.1 pc = .ok (.astore i, 2)) (hr : isr v) (hb : i < t.2.2.1) (hf : (i, v) :: lv.filter (fun q => !(q.1 == i) && !(q.1 + 1 == i && q.2.category == 2)) = lv') (h : V l D tys t k n (pc + 2) lv' st M Q) : V l D tys t k n pc lv (v :: st) M Q := fun A p e s m args below meth c C k0 n0 H locs cells slots ls hM hS hl hk hn => by
  rcases hr with rfl | ⟨x, rfl⟩
  · exact lv_astoreN C.1.1 C.1.2.1 hd hl hb hf (fun ls' hl' => h A p e s m args below meth c C k0 n0 H locs cells slots ls' hM hS hl' hk hn)
  · exact lv_astore C.1.1 C.1.2.1 hd hl hb hf (fun ls' hl' => h A p e s m args below meth c C k0 n0 H locs cells slots ls' hM hS hl' hk hn)
theorem V_iinc {i : Nat} {j : Int} {x v : Int32} {lv' : List (Nat × Value)} (q : Nat) (hd : decode t.2.1 pc = .ok (.iinc i j, 3)) (hq : lv[q]? = some (i, .int x)) (hv : x + Int32.ofInt j = v) (hb : i < t.2.2.1) (hf : (i, Value.int v) :: lv.filter (fun q => !(q.1 == i) && !(q.1 + 1 == i && q.2.category == 2)) = lv') (h : V l D tys t k n (pc + 3) lv' st M Q) : V l D tys t k n pc lv st M Q := fun A p e s m args below meth c C k0 n0 H locs cells slots ls hM hS hl hk hn => lv_iinc C.1.1 C.1.2.1 hd hl hq hv hb hf (fun ls' hl' => h A p e s m args below meth c C k0 n0 H locs cells slots ls' hM hS hl' hk hn)
theorem V_goto {off : Int} (tgt : Nat) (hd : decode t.2.1 pc = .ok (.goto off, 3)) (ht : (pc : Int) + off = (tgt : Int)) (h : V l D tys t k n tgt lv st M Q) : V l D tys t k n pc lv st M Q := fun A p e s m args below meth c C k0 n0 H locs cells slots ls hM hS hl hk hn => lv_goto C.1.1 C.1.2.1 hd ht (h A p e s m args below meth c C k0 n0 H locs cells slots ls hM hS hl hk hn)
theorem V_if_eq {x : Int32} {off : Int} (tgt : Nat) (hd : decode t.2.1 pc = .ok (.ifCond .eq off, 3)) (ht : (pc : Int) + off = (tgt : Int)) (h1 : x = 0 → V l D tys t k n tgt lv st M Q) (h2 : ¬ (x = 0) → V l D tys t k n (pc + 3) lv st M Q) : V l D tys t k n pc lv (.int x :: st) M Q := fun A p e s m args below meth c C k0 n0 H locs cells slots ls hM hS hl hk hn => lv_if_eq C.1.1 C.1.2.1 hd ht (fun q => h1 q A p e s m args below meth c C k0 n0 H locs cells slots ls hM hS hl hk hn) (fun q => h2 q A p e s m args below meth c C k0 n0 H locs cells slots ls hM hS hl hk hn)
theorem V_icmp_eq {x y : Int32} {off : Int} (tgt : Nat) (hd : decode t.2.1 pc = .ok (.if_icmp .eq off, 3)) (ht : (pc : Int) + off = (tgt : Int)) (h1 : x = y → V l D tys t k n tgt lv st M Q) (h2 : ¬ (x = y) → V l D tys t k n (pc + 3) lv st M Q) : V l D tys t k n pc lv (.int y :: .int x :: st) M Q := fun A p e s m args below meth c C k0 n0 H locs cells slots ls hM hS hl hk hn => lv_icmp_eq C.1.1 C.1.2.1 hd ht (fun q => h1 q A p e s m args below meth c C k0 n0 H locs cells slots ls hM hS hl hk hn) (fun q => h2 q A p e s m args below meth c C k0 n0 H locs cells slots ls hM hS hl hk hn)
theorem V_if_ne {x : Int32} {off : Int} (tgt : Nat) (hd : decode t.2.1 pc = .ok (.ifCond .ne off, 3)) (ht : (pc : Int) + off = (tgt : Int)) (h1 : ¬ x = 0 → V l D tys t k n tgt lv st M Q) (h2 : ¬ (¬ x = 0) → V l D tys t k n (pc + 3) lv st M Q) : V l D tys t k n pc lv (.int x :: st) M Q := fun A p e s m args below meth c C k0 n0 H locs cells slots ls hM hS hl hk hn => lv_if_ne C.1.1 C.1.2.1 hd ht (fun q => h1 q A p e s m args below meth c C k0 n0 H locs cells slots ls hM hS hl hk hn) (fun q => h2 (fun z => z q) A p e s m args below meth c C k0 n0 H locs cells slots ls hM hS hl hk hn)
theorem V_icmp_ne {x y : Int32} {off : Int} (tgt : Nat) (hd : decode t.2.1 pc = .ok (.if_icmp .ne off, 3)) (ht : (pc : Int) + off = (tgt : Int)) (h1 : ¬ x = y → V l D tys t k n tgt lv st M Q) (h2 : ¬ (¬ x = y) → V l D tys t k n (pc + 3) lv st M Q) : V l D tys t k n pc lv (.int y :: .int x :: st) M Q := fun A p e s m args below meth c C k0 n0 H locs cells slots ls hM hS hl hk hn => lv_icmp_ne C.1.1 C.1.2.1 hd ht (fun q => h1 q A p e s m args below meth c C k0 n0 H locs cells slots ls hM hS hl hk hn) (fun q => h2 (fun z => z q) A p e s m args below meth c C k0 n0 H locs cells slots ls hM hS hl hk hn)
theorem V_if_lt {x : Int32} {off : Int} (tgt : Nat) (hd : decode t.2.1 pc = .ok (.ifCond .lt off, 3)) (ht : (pc : Int) + off = (tgt : Int)) (h1 : x < 0 → V l D tys t k n tgt lv st M Q) (h2 : ¬ (x < 0) → V l D tys t k n (pc + 3) lv st M Q) : V l D tys t k n pc lv (.int x :: st) M Q := fun A p e s m args below meth c C k0 n0 H locs cells slots ls hM hS hl hk hn => lv_if_lt C.1.1 C.1.2.1 hd ht (fun q => h1 q A p e s m args below meth c C k0 n0 H locs cells slots ls hM hS hl hk hn) (fun q => h2 q A p e s m args below meth c C k0 n0 H locs cells slots ls hM hS hl hk hn)
theorem V_icmp_lt {x y : Int32} {off : Int} (tgt : Nat) (hd : decode t.2.1 pc = .ok (.if_icmp .lt off, 3)) (ht : (pc : Int) + off = (tgt : Int)) (h1 : x < y → V l D tys t k n tgt lv st M Q) (h2 : ¬ (x < y) → V l D tys t k n (pc + 3) lv st M Q) : V l D tys t k n pc lv (.int y :: .int x :: st) M Q := fun A p e s m args below meth c C k0 n0 H locs cells slots ls hM hS hl hk hn => lv_icmp_lt C.1.1 C.1.2.1 hd ht (fun q => h1 q A p e s m args below meth c C k0 n0 H locs cells slots ls hM hS hl hk hn) (fun q => h2 q A p e s m args below meth c C k0 n0 H locs cells slots ls hM hS hl hk hn)
theorem V_if_ge {x : Int32} {off : Int} (tgt : Nat) (hd : decode t.2.1 pc = .ok (.ifCond .ge off, 3)) (ht : (pc : Int) + off = (tgt : Int)) (h1 : 0 ≤ x → V l D tys t k n tgt lv st M Q) (h2 : ¬ (0 ≤ x) → V l D tys t k n (pc + 3) lv st M Q) : V l D tys t k n pc lv (.int x :: st) M Q := fun A p e s m args below meth c C k0 n0 H locs cells slots ls hM hS hl hk hn => lv_if_ge C.1.1 C.1.2.1 hd ht (fun q => h1 q A p e s m args below meth c C k0 n0 H locs cells slots ls hM hS hl hk hn) (fun q => h2 q A p e s m args below meth c C k0 n0 H locs cells slots ls hM hS hl hk hn)
theorem V_icmp_ge {x y : Int32} {off : Int} (tgt : Nat) (hd : decode t.2.1 pc = .ok (.if_icmp .ge off, 3)) (ht : (pc : Int) + off = (tgt : Int)) (h1 : y ≤ x → V l D tys t k n tgt lv st M Q) (h2 : ¬ (y ≤ x) → V l D tys t k n (pc + 3) lv st M Q) : V l D tys t k n pc lv (.int y :: .int x :: st) M Q := fun A p e s m args below meth c C k0 n0 H locs cells slots ls hM hS hl hk hn => lv_icmp_ge C.1.1 C.1.2.1 hd ht (fun q => h1 q A p e s m args below meth c C k0 n0 H locs cells slots ls hM hS hl hk hn) (fun q => h2 q A p e s m args below meth c C k0 n0 H locs cells slots ls hM hS hl hk hn)
theorem V_if_gt {x : Int32} {off : Int} (tgt : Nat) (hd : decode t.2.1 pc = .ok (.ifCond .gt off, 3)) (ht : (pc : Int) + off = (tgt : Int)) (h1 : 0 < x → V l D tys t k n tgt lv st M Q) (h2 : ¬ (0 < x) → V l D tys t k n (pc + 3) lv st M Q) : V l D tys t k n pc lv (.int x :: st) M Q := fun A p e s m args below meth c C k0 n0 H locs cells slots ls hM hS hl hk hn => lv_if_gt C.1.1 C.1.2.1 hd ht (fun q => h1 q A p e s m args below meth c C k0 n0 H locs cells slots ls hM hS hl hk hn) (fun q => h2 q A p e s m args below meth c C k0 n0 H locs cells slots ls hM hS hl hk hn)
theorem V_icmp_gt {x y : Int32} {off : Int} (tgt : Nat) (hd : decode t.2.1 pc = .ok (.if_icmp .gt off, 3)) (ht : (pc : Int) + off = (tgt : Int)) (h1 : y < x → V l D tys t k n tgt lv st M Q) (h2 : ¬ (y < x) → V l D tys t k n (pc + 3) lv st M Q) : V l D tys t k n pc lv (.int y :: .int x :: st) M Q := fun A p e s m args below meth c C k0 n0 H locs cells slots ls hM hS hl hk hn => lv_icmp_gt C.1.1 C.1.2.1 hd ht (fun q => h1 q A p e s m args below meth c C k0 n0 H locs cells slots ls hM hS hl hk hn) (fun q => h2 q A p e s m args below meth c C k0 n0 H locs cells slots ls hM hS hl hk hn)
theorem V_if_le {x : Int32} {off : Int} (tgt : Nat) (hd : decode t.2.1 pc = .ok (.ifCond .le off, 3)) (ht : (pc : Int) + off = (tgt : Int)) (h1 : x ≤ 0 → V l D tys t k n tgt lv st M Q) (h2 : ¬ (x ≤ 0) → V l D tys t k n (pc + 3) lv st M Q) : V l D tys t k n pc lv (.int x :: st) M Q := fun A p e s m args below meth c C k0 n0 H locs cells slots ls hM hS hl hk hn => lv_if_le C.1.1 C.1.2.1 hd ht (fun q => h1 q A p e s m args below meth c C k0 n0 H locs cells slots ls hM hS hl hk hn) (fun q => h2 q A p e s m args below meth c C k0 n0 H locs cells slots ls hM hS hl hk hn)
theorem V_icmp_le {x y : Int32} {off : Int} (tgt : Nat) (hd : decode t.2.1 pc = .ok (.if_icmp .le off, 3)) (ht : (pc : Int) + off = (tgt : Int)) (h1 : x ≤ y → V l D tys t k n tgt lv st M Q) (h2 : ¬ (x ≤ y) → V l D tys t k n (pc + 3) lv st M Q) : V l D tys t k n pc lv (.int y :: .int x :: st) M Q := fun A p e s m args below meth c C k0 n0 H locs cells slots ls hM hS hl hk hn => lv_icmp_le C.1.1 C.1.2.1 hd ht (fun q => h1 q A p e s m args below meth c C k0 n0 H locs cells slots ls hM hS hl hk hn) (fun q => h2 q A p e s m args below meth c C k0 n0 H locs cells slots ls hM hS hl hk hn)
theorem V_ifnull {v : Value} {off : Int} (tgt : Nat) (hr : isr v) (hd : decode t.2.1 pc = .ok (.ifnull off, 3)) (ht : (pc : Int) + off = (tgt : Int)) (h1 : v = .null → V l D tys t k n tgt lv st M Q) (h2 : ∀ a, v = .ref a → V l D tys t k n (pc + 3) lv st M Q) : V l D tys t k n pc lv (v :: st) M Q := fun A p e s m args below meth c C k0 n0 H locs cells slots ls hM hS hl hk hn => by
  rcases hr with rfl | ⟨x, rfl⟩
  · exact lv_ifnullN C.1.1 C.1.2.1 hd ht (h1 rfl A p e s m args below meth c C k0 n0 H locs cells slots ls hM hS hl hk hn)
  · exact lv_ifnull C.1.1 C.1.2.1 hd (h2 x rfl A p e s m args below meth c C k0 n0 H locs cells slots ls hM hS hl hk hn)
theorem V_ifnonnull {v : Value} {off : Int} (tgt : Nat) (hr : isr v) (hd : decode t.2.1 pc = .ok (.ifnonnull off, 3)) (ht : (pc : Int) + off = (tgt : Int)) (h1 : ∀ a, v = .ref a → V l D tys t k n tgt lv st M Q) (h2 : v = .null → V l D tys t k n (pc + 3) lv st M Q) : V l D tys t k n pc lv (v :: st) M Q := fun A p e s m args below meth c C k0 n0 H locs cells slots ls hM hS hl hk hn => by
  rcases hr with rfl | ⟨x, rfl⟩
  · exact lv_ifnonnullN C.1.1 C.1.2.1 hd (h2 rfl A p e s m args below meth c C k0 n0 H locs cells slots ls hM hS hl hk hn)
  · exact lv_ifnonnull C.1.1 C.1.2.1 hd ht (h1 x rfl A p e s m args below meth c C k0 n0 H locs cells slots ls hM hS hl hk hn)
end VV
