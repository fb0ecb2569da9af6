/-! Throw and catch -/
abbrev thN : List String := ["java/lang/RuntimeException", "java/lang/Exception"]
section Th
variable {p : Program} {l : Launch} {e : Env} {R : Room} {s : State} {m : MethodId} {args : Array Value} {below : List Frame} {meth : Method} {c : Code} {T : State} {locs : List Loc} {cells slots : Nat}
/-- the same walk, begun anew where it stands -/
theorem Stand_re (X : Stand p l e R s m args below meth c T locs cells slots) {R2 : Room} (hf : R2.frames ≤ R.frames) (hlo : R2.locals ≤ R.locals) (hc : cells + R2.cells ≤ R.cells) (hs : slots + R2.slots ≤ R.slots) : Stand p l e R2 (T.setFrames (.invoking m args :: below)) m args below meth c T [] 0 0 := by
  obtain ⟨g0, hg0⟩ := X.frames_eq
  have hcur : T.cur < T.threads.size := State.cur_lt_of_frames hg0
  obtain ⟨th, hth, -⟩ := State.frames_cons hg0
  have hfr : (T.setFrames (.invoking m args :: below)).frames = .invoking m args :: below := State.frames_setFrames _ hcur
  obtain ⟨th2, hth2, -⟩ := State.frames_cons hfr
  have hlim : e.platform.stackLimits (T.setFrames (.invoking m args :: below)).me = e.platform.stackLimits s.me := by rw [State.stackLimits_setFrames]; exact X.limits
  have hby : (T.setFrames (.invoking m args :: below)).me.stackBytes = s.me.stackBytes := by rw [State.stackBytes_setFrames]; exact X.bytes
  have hm : (T.setFrames (.invoking m args :: below)).vm.method? m = some meth := X.method'
  have hmm : (T.setFrames (.invoking m args :: below)).vm.method? m = s.vm.method? m := by rw [hm, X.method]
  have hc2 : ∀ x, (T.setFrames (.invoking m args :: below)).code? x = s.code? x := fun x => by
    rw [State.code?_eq, State.code?_eq]
    show (T.vm.method? x).bind _ = _
    rw [X.warmed.alike.method?]
  have hr := X.room
  have hL : (T.setFrames (.invoking m args :: below)).localsInUse = s.localsInUse := by rw [State.localsInUse_invoking hfr hm X.code, State.localsInUse_invoking X.frames X.method X.code]
  refine ⟨X.admits, X.cas, X.clock, hfr, ?_, ?_, hm, X.code, X.here, X.tail, State.WarmedH.refl _, ?_, ?_, ?_⟩
  · have h1 := X.cellsAbove hc
    have h2 := X.slotsAbove hs
    have h3 := X.book
    simp only [State.hasRoom, Bool.and_eq_true, decide_eq_true_eq] at hr ⊢
    rw [hL, hfr, hlim, hby]
    have h4 := hr.1.1.1
    rw [X.frames] at h4
    exact ⟨⟨⟨⟨by omega, by omega, by omega, by omega, by omega, h4.2.2.2.2.2⟩, h1⟩, h2⟩, h3⟩
  · have hh : ∀ b : List Frame, (T.setFrames (.invoking m args :: below)).hears m b = s.hears m b := fun b => by
      cases b with
      | nil => simp only [State.hears, hmm]
      | cons f r => cases f <;> simp only [State.hears, hc2, hmm]
    rw [hh]
    exact X.hears
  · rw [State.stackLimits_setFrames]
  · rw [State.stackBytes_setFrames]
  · have h := (State.sameButNew.refl (T.setFrames (.invoking m args :: below)) hth2).setFrames T.frames (State.cur_lt_of_frames hfr)
    rw [State.setFrames_setFrames, State.setFrames_self hth] at h
    exact h
theorem same_re {U : State} {F : List Frame} {L : List Loc} {k n : Nat} (h : (T.setFrames F).sameButNew U L k n) : T.sameButNew U L k n := by
  obtain ⟨h1, h2⟩ := h
  exact ⟨by rw [State.setFrames_setFrames] at h1; exact h1, h2⟩
theorem same_heap {s U : State} {k n : Nat} (h : s.sameButNew U [] k n) {q : Nat} (hq : q < s.heap.size) : U.heap[q]? = s.heap[q]? := by
  have hc : s.heap[q]? = some s.heap[q] := Array.getElem?_eq_getElem hq
  obtain ⟨c', h1, h2, h3, h4⟩ := h.2.2.2.2.2 q _ hc
  have hs : c'.slots = s.heap[q].slots := Array.ext_getElem? (fun i => h4 i (by simp))
  rw [hs] at h2
  rw [h1, hc, h2]
theorem mw_kept {D : va_G} {cl : List vw_C} {A : Nat → Prop} {M : MP} {H H1 : Heap} (h : mw D cl A M H) (hk : ∀ q, q < H.size → H1[q]? = H[q]?) : mw D cl A M H1 := by
  obtain ⟨L, h1, h2, h3⟩ := h
  exact ⟨L, h1, h2.kept (fun k q hq => hk _ (h2 k q hq).lt), h3⟩
def tkC : List Cond := tkA ++ [.laysStatic "java/lang/Throwable" "UNASSIGNED_STACK" "[Ljava/lang/StackTraceElement;", .isRef (.static "java/lang/Throwable" "UNASSIGNED_STACK" "[Ljava/lang/StackTraceElement;"), .laysStatic "java/lang/Throwable" "SUPPRESSED_SENTINEL" "Ljava/util/List;", .isRef (.static "java/lang/Throwable" "SUPPRESSED_SENTINEL" "Ljava/util/List;")]
theorem AC_wC {D : va_G} {A : Nat → Prop} {U : State} (h : AC D A U) {w : Cond} (hw : w ∈ tkC) {args : Array Value} : w.before args U = true := by
  rcases List.mem_append.mp hw with hw | hw
  · exact AC_wA h hw
  · simp only [List.mem_cons, List.not_mem_nil, or_false] at hw
    rcases hw with rfl | rfl | rfl | rfl
    · exact (AC_wB h (q := ("UNASSIGNED_STACK", "[Ljava/lang/StackTraceElement;")) (by decide)).1
    · exact (AC_wB h (q := ("UNASSIGNED_STACK", "[Ljava/lang/StackTraceElement;")) (by decide)).2
    · exact (AC_wB h (q := ("SUPPRESSED_SENTINEL", "Ljava/util/List;")) (by decide)).1
    · exact (AC_wB h (q := ("SUPPRESSED_SENTINEL", "Ljava/util/List;")) (by decide)).2
theorem AC_N {D : va_G} {A : Nat → Prop} {U : State} (h : AC D A U) : tkN U := by
  obtain ⟨_, s0, a, h1, h2, _⟩ := h
  exact tkN_warm h2 h1.2.2.2
end Th
section VTh
variable {l : Launch} {D : va_G} {tys : TY} {t t' : MT} {k n pc : Nat} {lv : List (Nat × Value)} {st rest : List Value} {M : MP} {Q : Option Value → MP → Prop}
set_option maxHeartbeats 1000000 in
/-- new, dup, ldc, the constructor, athrow -/
theorem V_throw (b : Bool) {ni ic si k' n' : Nat} {tx : String} (hno : ∀ e, l.admits e → e.platform.stackTraces = false) (d0 : decode t.2.1 pc = .ok (.new ni, 3)) (d1 : decode t.2.1 (pc + 3) = .ok (.dup, 1)) (d2 : decode t.2.1 (pc + 4) = .ok (.ldc si, 2)) (d3 : decode t.2.1 (pc + 6) = .ok (.invokespecial ic, 3)) (d4 : decode t.2.1 (pc + 9) = .ok (.athrow, 1))
    (w0 : Cond.classLink t.1.cls ni (thrC b) ∈ gw) (w1 : Cond.instantiable (thrC b) 6 ∈ gw) (w2 : Cond.initialized (thrC b) ∈ gw) (w3 : (si, tx) ∈ tkS) (hcl9 : t.1.cls = "PageFile")
    (w4 : ∀ w ∈ Bundle.ownAtoms t.1.cls ic (thrC b) thN, w ∈ gw ∨ w ∈ tkC)
    (hthr : thrw t = true) (hhn : hnd t = []) (hfr : 5 < t.2.2.2.2.1) (hlo : (st.map fun v => v.category).sum + 82 ≤ t.2.2.2.2.2) (hk' : k = k' + 1) (hn' : n = n' + 6) (hq : Q (thrV b) M) : V l D tys t k n pc lv st M Q := fun A p e s m args below meth c C k0 n0 H locs cells slots ls hM hS hl hk hn => by
  subst hk'; subst hn'
  intro T hT X
  subst hT
  have hre := Stand_re X (R2 := { frames := t.2.2.2.2.1, cells := 1, slots := 6, locals := t.2.2.2.2.2 }) (Nat.le_refl _) (Nat.le_refl _) (show cells + 1 ≤ k0 by omega) (show slots + 6 ≤ n0 by omega)
  have hWT : s.WarmedH (T.setFrames (.invoking m args :: below)).vm := X.warmed
  have hw : ∀ w ∈ gw, w.before args (T.setFrames (.invoking m args :: below)) = true := fun w hw => word_at hWT (gw_good hw) (C.1.2.2.2.2 w hw)
  have hAC : AC D A (T.setFrames (.invoking m args :: below)) := AC_S C.2.2.2.2.2.1 hWT (show va_S A s.heap T.heap locs from hS)
  have hown : (T.setFrames (.invoking m args :: below)).vm.findClass t.1.cls = some m.cls := (X.warmed.alike.findClass _ _).trans C.1.2.2.2.1
  have hfc : ∀ nm, (T.setFrames (.invoking m args :: below)).vm.findClass nm = s.vm.findClass nm := fun nm => X.warmed.alike.findClass _ _
  have hheap : (T.setFrames (.invoking m args :: below)).heap = T.heap := rfl
  have hvm2 : (T.setFrames (.invoking m args :: below)).vm = T.vm := rfl
  have hout : ∀ x ∈ c.exceptionTable.toList, covers x (pc + 9) = false := by
    have h1 := C.2.2.2.2.2.2
    rw [hhn] at h1
    have h2 : c.exceptionTable.toList = [] := List.map_eq_nil_iff.mp h1
    rw [h2]
    intro x hx
    cases hx
  have hat : ∀ a ∈ Bundle.ownAtoms t.1.cls ic (thrC b) thN, a.before args (T.setFrames (.invoking m args :: below)) = true := fun w hw4 => by
    rcases w4 w hw4 with h | h
    · exact hw w h
    · exact AC_wC hAC h
  obtain ⟨q, hq9⟩ := AC_str hAC w3
  rw [← hcl9] at hq9
  have hrun : W p l e { frames := t.2.2.2.2.1, cells := 1, slots := 6, locals := t.2.2.2.2.2 } (T.setFrames (.invoking m args :: below)) m args below meth c T.heap [] 0 0 (fun U => U.status = .running ∧ Ended U below (.threw T.heap.size) ∧ (T.setFrames (.invoking m args :: below)).WarmedH U.vm ∧ (T.setFrames (.invoking m args :: below)).sameButNew ({ U with vm := (T.setFrames (.invoking m args :: below)).vm } : State) [] 1 6 ∧ ∃ ce, U.heap[T.heap.size]? = some ce ∧ (T.setFrames (.invoking m args :: below)).vm.findClass (thrC b) = some ce.cls ∧ ce.vm = .none) (F0 m pc ls st) := by
    refine W.newc C.1.1 C.1.2.1 hown (hw _ w0) (hw _ w1) (hw _ w2) rfl d0 (Nat.le_refl _) (Nat.le_refl _) (fun cC kC h1 h2 h3 h4 => ?_)
    refine lv_dup C.1.1 C.1.2.1 d1 rfl ?_
    refine va_ldcS C.1.1 C.1.2.1 hown hq9 d2 ?_
    intro T2 hT2 X2
    obtain ⟨U, g1, g2, g3, g4, g5, ce, g6, g7⟩ := X2.ctorThrowS (names := thN) (cls := thrC b) (ic := ic) C.1.1 (hno e X.admits) hown (by cases b <;> decide) (by decide) hat (fun x hx => by cases hx) (a := T.heap.size) h1 h2 (by rw [hT2]; simp [freshCell]) (Nat.le_refl _) (msg := .ref q) rfl (g := F0 m (pc + 6) ls (.ref q :: .ref T.heap.size :: .ref T.heap.size :: st)) rfl (hl.1.trans C.1.2.2.1.symm) rfl rfl rfl (by rw [C.1.2.1]; exact d3) (by rw [C.1.2.1]; exact d4) hout (show 2 + 3 < t.2.2.2.2.1 by omega) (by show 2 * 0 + (1 + (st.map fun v => v.category).sum) + (13 * 3 + 42) ≤ t.2.2.2.2.2; omega) C.2.2.1
    exact ⟨U, g1, g2, g3, g4, (by have := g5; simpa using this), ce, g6, g7.cls, g7.vm⟩
  obtain ⟨U, a1, g2, g3, g4, g5, ce, g6, g7, g8⟩ := hrun T rfl hre
  have g5' : T.sameButNew (U.setVm T.vm) [] 1 6 := same_re g5
  have hh : ∀ q, q < T.heap.size → U.heap[q]? = T.heap[q]? := fun q hq => same_heap (U := U.setVm T.vm) g5' hq
  refine ⟨U, a1, Or.inr ⟨hthr, T.heap.size, b, M, locs, ce, g2, g3, State.WarmedH.trans X.warmed g4, ?_, hS.2.2, hq, mw_kept hM hh, ⟨Nat.le_trans hS.1 g5'.2.1, fun q h1 h2 => by rw [hh q (Nat.lt_of_lt_of_le h1 hS.1)]; exact hS.2.1 q h1 h2⟩, g6, by rw [← hfc]; exact g7, g8⟩⟩
  have h := X.same.trans (g5'.setVm s.vm)
  rw [List.append_nil] at h
  exact h.mono (show cells + 1 ≤ k0 by omega) (show slots + 6 ≤ n0 by omega)
end VTh
section Ca
variable {p : Program} {l : Launch} {e : Env} {R : Room} {s : State} {m : MethodId} {args : Array Value} {below : List Frame} {meth : Method} {c : Code} {T : State} {locs : List Loc} {cells slots : Nat}
theorem go_cold {x : ExceptionTableEntry} {tl : List ExceptionTableEntry} {f : JFrame} {a : Addr} {cc : ClassId} {vm' : Vm} {S : State} {Q : Handler → Pre} {E : CtlPost} {d : Bool} {acts : List Action} (hx : covers x f.pc = true) (h0 : x.catchType ≠ 0) (hg : (Jvm.resolveClass f.method.cls x.catchType).Gives e.toSetting S.vm (.ok cc) vm') (hr : vm'.classReady f.method.cls x.catchType cc) (hsz : vm'.classes.size ≤ S.vm.classes.size) : Sem.wp (findHandler.go f a (x :: tl)) Q E e d acts S ↔ Sem.wp (findHandler.go f a (x :: tl)) Q E e d acts (S.setVm vm') := by
  simp only [covers] at hx
  obtain ⟨ha, ht⟩ := hg.op (op := VmOp.resolveClass f.method.cls x.catchType) rfl
  obtain ⟨k, hk, hres⟩ := hr
  have hm := resolveClass_memo e hk hres
  simp [findHandler.go, hx, h0, ha, ht, hsz, hm.1, hm.2, VmOp.dirties, VmOp.acts, State.setVm_twice]
theorem caught_to {tb : Tables} {S target : State} {g : JFrame} {a : Addr} {pc : Nat} {vm' : Vm} (h : At S g.method c below) (hfind : ∀ (Q : Handler → Pre) (E : CtlPost) (d : Bool) (acts : List Action), Sem.wp (findHandler g a) Q E e d acts ((S.setTop g).pushFrame (.throwing a)) ↔ Q (.found pc) d acts (((S.setTop g).pushFrame (.throwing a)).setVm vm')) (hrest : Steps tb e below ((S.setVm vm').setTop { g with pc := pc, stack := [.ref a] }) target) : Steps tb e below ((S.setTop g).pushFrame (.throwing a)) target := by
  obtain ⟨hgo, hw⟩ := h.throwing a
  refine Steps.head hgo hw ?_
  obtain ⟨g₀, hg⟩ := Option.isSome_iff_exists.mp h.top
  obtain ⟨r, hr⟩ := State.topJava?_eq_some.mp hg
  rw [stepThread_throwing (frames_entered h.top _)]
  have hst : ∀ r', (stepThrowing e ((S.setTop g).pushFrame (.throwing a)) a (.java g :: r')).Is ((((S.setTop g).pushFrame (.throwing a)).setVm vm').setFrames (.java { g with pc := pc, stack := [.ref a] } :: r')) [] := fun r' => by
    simp only [stepThrowing, searchFrame, vmDo]
    generalize hr9 : Sem.go _ e false [] _ = res
    obtain ⟨as, rfl, ha⟩ := Sem.eq_ok_of hr9 (a := Handler.found pc) (s' := ((S.setTop g).pushFrame (.throwing a)).setVm vm') (acts' := []) (by simp [hfind _ _ _ _])
    exact ⟨rfl, ha⟩
  rw [(hst _).1]
  show Steps tb e below ((((S.setTop g).pushFrame (.throwing a)).setFrames _).setVm vm') target
  rw [State.pushFrame, State.setFrames_setFrames, State.setTop_of_frames _ hr, State.setFrames_setFrames]
  rw [State.setTop_of_frames _ (show (S.setVm vm').frames = _ from hr)] at hrest
  rw [hr]
  exact hrest
theorem catch1 (X : Stand p l e R s m args below meth c T locs cells slots) {own : String} (hown : s.vm.findClass own = some m.cls) {g : JFrame} (hg : g.method = m) {a : Addr} {ce : Cell} (hce : T.heap[a]? = some ce) (hvm : ce.vm = .none) {x : ExceptionTableEntry} {tl : List ExceptionTableEntry} (htab : c.exceptionTable.toList = x :: tl) (hx : covers x g.pc = true) (h0 : x.catchType ≠ 0) {C : String} (hl : (Cond.classLink own x.catchType C).before args s = true) (hcls : s.vm.findClass C = some ce.cls) :
    ∃ vm', s.WarmedH vm' ∧ ∀ target, Steps p.tables e below ((T.setVm vm').setTop { g with pc := x.handlerPc, stack := [.ref a] }) target → Steps p.tables e below ((T.setTop g).pushFrame (.throwing a)) target := by
  subst hg
  have hpl : e.platform.magicAccessors = ({} : Platform).magicAccessors := by rw [X.admits.platform]
  obtain ⟨cC, hfc, hcl⟩ := Cond.classLink_spec hown hl e.platform hpl
  cases hfc.symm.trans hcls
  obtain ⟨hg1, hw1, hr1⟩ := State.classEntry (e := e) X.warmed hcl
  have hsz : (T.vm.noted g.method.cls x.catchType (.cls ce.cls)).classes.size ≤ T.vm.classes.size := by no_record
  generalize T.vm.noted g.method.cls x.catchType (.cls ce.cls) = vm1 at hg1 hw1 hr1 hsz
  have hex : ∃ k, vm1.classes[ce.cls]? = some k := Vm.classAt_of_findClass ((hw1.alike.findClass _ _).trans hcls)
  refine ⟨vm1, hw1, fun target hrest => caught_to X.here (fun Q E d acts => ?_) hrest⟩
  rw [W.findHandler_eq (meth := meth) (code := c) (by rw [Stand.throwing_vm]; exact X.method') X.code, htab, go_cold hx h0 (by rw [Stand.throwing_vm]; exact hg1) hr1 (by rw [Stand.throwing_vm]; exact hsz),
    W.findHandler_go_class hx h0 (show ((((T.setTop g).pushFrame (.throwing a)).setVm vm1).vm).classReady _ _ _ from hr1) (cell := ce) (by show ((T.setTop g).pushFrame (.throwing a)).heap[a]? = _; rw [Stand.throwing_heap]; exact hce) (fun k => by rw [hvm]; exact fun z => by cases z) hex hex, if_pos (va_asg _ _)]
theorem catch2 (X : Stand p l e R s m args below meth c T locs cells slots) {own : String} (hown : s.vm.findClass own = some m.cls) {g : JFrame} (hg : g.method = m) {a : Addr} {ce : Cell} (hce : T.heap[a]? = some ce) (hvm : ce.vm = .none) {x y : ExceptionTableEntry} {tl : List ExceptionTableEntry} (htab : c.exceptionTable.toList = x :: y :: tl) (hx : covers x g.pc = true) (h0 : x.catchType ≠ 0) (hy : covers y g.pc = true) (h1 : y.catchType ≠ 0) {C C2 : String} (hl : (Cond.classLink own x.catchType C2).before args s = true) (hl2 : (Cond.classLink own y.catchType C).before args s = true) (hcls : s.vm.findClass C = some ce.cls) (hno : ∀ c2, s.vm.findClass C2 = some c2 → s.vm.assignable ce.cls c2 = false) :
    ∃ vm', s.WarmedH vm' ∧ ∀ target, Steps p.tables e below ((T.setVm vm').setTop { g with pc := y.handlerPc, stack := [.ref a] }) target → Steps p.tables e below ((T.setTop g).pushFrame (.throwing a)) target := by
  subst hg
  have hpl : e.platform.magicAccessors = ({} : Platform).magicAccessors := by rw [X.admits.platform]
  obtain ⟨c2, hfc2, hcl2⟩ := Cond.classLink_spec hown hl e.platform hpl
  obtain ⟨cC, hfc, hcl⟩ := Cond.classLink_spec hown hl2 e.platform hpl
  cases hfc.symm.trans hcls
  obtain ⟨hg1, hw1, hr1⟩ := State.classEntry (e := e) X.warmed hcl2
  have hsz : (T.vm.noted g.method.cls x.catchType (.cls c2)).classes.size ≤ T.vm.classes.size := by no_record
  generalize T.vm.noted g.method.cls x.catchType (.cls c2) = vm1 at hg1 hw1 hr1 hsz
  have X1 := X.noted hw1
  obtain ⟨hg3, hw3, hr3⟩ := State.classEntry (e := e) X1.warmed hcl
  have hsz3 : ((T.setVm vm1).vm.noted g.method.cls y.catchType (.cls ce.cls)).classes.size ≤ (T.setVm vm1).vm.classes.size := by no_record
  generalize (T.setVm vm1).vm.noted g.method.cls y.catchType (.cls ce.cls) = vm3 at hg3 hw3 hr3 hsz3
  have hex : ∀ {w : Vm}, s.WarmedH w → ∃ k, w.classes[ce.cls]? = some k := fun hw => Vm.classAt_of_findClass ((hw.alike.findClass _ _).trans hcls)
  have hex2 : ∃ k, vm1.classes[c2]? = some k := Vm.classAt_of_findClass ((hw1.alike.findClass _ _).trans hfc2)
  refine ⟨vm3, hw3, fun target hrest => caught_to X.here (fun Q E d acts => ?_) hrest⟩
  rw [W.findHandler_eq (meth := meth) (code := c) (by rw [Stand.throwing_vm]; exact X.method') X.code, htab, go_cold hx h0 (by rw [Stand.throwing_vm]; exact hg1) hr1 (by rw [Stand.throwing_vm]; exact hsz),
    W.findHandler_go_class hx h0 (show ((((T.setTop g).pushFrame (.throwing a)).setVm vm1).vm).classReady _ _ _ from hr1) (cell := ce) (by show ((T.setTop g).pushFrame (.throwing a)).heap[a]? = _; rw [Stand.throwing_heap]; exact hce) (fun k => by rw [hvm]; exact fun z => by cases z) (hex hw1) hex2,
    if_neg (by show ¬ vm1.assignable ce.cls c2 = true; rw [hw1.alike.assignable, hno c2 hfc2]; decide),
    go_cold (S := ((T.setTop g).pushFrame (.throwing a)).setVm vm1) hy h1 (show (Jvm.resolveClass g.method.cls y.catchType).Gives e.toSetting vm1 (.ok ce.cls) vm3 from hg3) hr3 hsz3,
    W.findHandler_go_class hy h1 (show (((((T.setTop g).pushFrame (.throwing a)).setVm vm1).setVm vm3).vm).classReady _ _ _ from hr3) (cell := ce) (by show ((T.setTop g).pushFrame (.throwing a)).heap[a]? = _; rw [Stand.throwing_heap]; exact hce) (fun k => by rw [hvm]; exact fun z => by cases z) (hex hw3) (hex hw3), if_pos (va_asg _ _)]
  rfl
end Ca
