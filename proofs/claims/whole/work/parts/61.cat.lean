/-! A call of a method that may throw, in a method that catches; methods with an exception table -/
def CAT (l : Launch) (t : MT) (pc hp : Nat) (b : Bool) : Prop := ∀ {D : va_G} {tys : TY} {A : Nat → Prop} {p : Program} {e : Env} {s : State} {m : MethodId} {args : Array Value} {below : List Frame} {meth : Method} {c : Code} {R : Room} {T : State} {locs : List Loc} {cells slots : Nat} {ls : Array Slot} {rest : List Value} {a : Addr} {ce : Cell}, Cx D tys t A p s m args meth c → Stand p l e R s m args below meth c T locs cells slots → T.heap[a]? = some ce → s.vm.findClass (thrC b) = some ce.cls → ce.vm = .none → ∃ vm', s.WarmedH vm' ∧ ∀ target, Steps p.tables e below ((T.setVm vm').setTop (F0 m hp ls [.ref a])) target → Steps p.tables e below ((T.setTop (F0 m pc ls rest)).pushFrame (.throwing a)) target
section VCa
variable {l : Launch} {D : va_G} {tys : TY} {t t' : MT} {k n pc : Nat} {lv : List (Nat × Value)} {st rest : List Value} {M : MP} {Q : Option Value → MP → Prop}
set_option maxHeartbeats 1000000 in
theorem V_callT {i na : Nat} {As : List Value} {k' n' k2 n2 : Nat} {Q' : Option Value → MP → Prop} {b ci N : Nat} {T0 : u_T} {fs : List Value} (hp : Bool → Nat) (ha : M b = some (.inr (ci, fs))) (hcl : cls[ci]? = some (t'.1.cls, T0, N)) (hd : decode t.2.1 pc = .ok (.invokevirtual i, 3)) (ok : OKV t.1.cls i t' na) (hR : rmf t t') (hna : As.length = na) (hst : st = As.reverse ++ .ref b :: rest) (hW9 : (rest.map fun v => v.category).sum ≤ 8) (hk' : k = k' + k2) (hn' : n = n' + n2) (hpl : plainName t'.1.cls = true) (hlen : (lg_sl (.ref b :: As)).length ≤ t'.2.2.1) (hv : V l D tys t' k2 n2 0 (lv_args 0 (.ref b :: As)) [] M Q') (hthr : thrw t' = true) (hhn : hnd t' = []) (h : ∀ v M', Q' (some (.int v)) M' → V l D tys t k' n' (pc + 3) lv (.int v :: rest) M' Q) (hcat : ∀ b9 M', Q' (thrV b9) M' → CAT l t pc (hp b9) b9) (hc : ∀ b9 M' a, Q' (thrV b9) M' → V l D tys t k' n' (hp b9) lv [.ref a] M' Q) : V l D tys t k n pc lv st M Q := fun A p e s m args below meth c C k0 n0 H locs cells slots ls hM hS hl hk hn => by
  subst hk'; subst hn'
  obtain ⟨⟨o1, o2, o3⟩, o4, o5, o6⟩ := ok
  intro T hT X
  subst hT
  have W9 := C.1.2.2.2.2
  obtain ⟨cellB, b1, b2, b3⟩ := va_recv C.2.2.2.2.1.1 (mw_one hM ha) (ci := ci) (q0 := 0) hcl rfl
  obtain ⟨mk, methM, hnamed, hmethM, hstM, habM⟩ := Cond.instanceMethod_spec (gw_ts W9 o5)
  obtain ⟨methM', cM, hmethM', hcM, hbM, hmlM, hrM, hlkM, hexM, hsigM⟩ := Cond.code_spec hnamed (gw_ts W9 o1)
  cases hmethM.symm.trans hmethM'
  obtain ⟨c2, r2, m2, q1, q2, q3, q4, kP, hkP, hkPi⟩ := Cond.selects_spec (gw_ts W9 o6)
  cases b3.symm.trans q1
  have hy : t'.1.cls ≠ "java/lang/invoke/MethodHandle" ∧ t'.1.cls ≠ "java/lang/invoke/VarHandle" := ⟨o3.1, o3.2.1⟩
  cases (State.methodFound?_of_named hnamed hy).symm.trans q2
  cases hnamed.symm.trans q3
  have hselP : selectMethod e.platform s.vm cellB.cls mk = .method mk := by rw [Launch.admits_selectMethod X.admits]; exact q4
  have hlenA : As.length = methM.sig.parameters.length := by
    have h2 := o3.2.2
    rw [hsigM] at h2
    rw [hna]
    exact (Option.some.inj h2).symm
  have hdc : decode c.code pc = .ok (.invokevirtual i, 3) := by rw [C.1.2.1]; exact hd
  obtain ⟨vm₁, X₁, hstep₁⟩ := X.invokevirtual C.1.1 C.1.2.2.2.1 (gw_ts W9 o4) hnamed hmethM hstM hkP hkPi hy (a := b) (cell := cellB) b1 (fun z h => by rw [h] at b2; cases b2) hselP hmethM habM hkP hkPi (g := F0 m pc ls st) rfl (argsL := As) (rest := rest) hlenA hst hdc
  obtain ⟨kk9, hkk9, hnm9⟩ := className_of_methodNamed hnamed
  obtain ⟨Y, hdo⟩ := X₁.into (g := F0 m pc ls rest) rfl (hl.1.trans C.1.2.2.1.symm) (ig := .invokevirtual i) (len := 3) hdc (mk := mk) (methk := methM) (ck := cM) (.ref b :: As).toArray (R' := mt_rm t' k2 n2) ((X₁.warmed.alike.method? _).trans hmethM) hcM hlkM (X₁.warmed.plainAt (fun k9 hk9 => by cases hkk9.symm.trans hk9; rw [hnm9]; exact hpl)) hR.1 (by show 2 * 0 + (rest.map fun v => v.category).sum + (cM.maxLocals + 11) + t'.2.2.2.2.2 ≤ t.2.2.2.2.2; have := hR.2; rw [hmlM]; omega) (show cells + k2 ≤ k0 by omega) (show slots + n2 ≤ n0 by omega)
  have hW1 : s.WarmedH ((T.setVm vm₁).calling (F0 m pc ls rest) mk (.ref b :: As).toArray).vm := X₁.warmed
  have hCx : Cx D tys t' A p ((T.setVm vm₁).calling (F0 m pc ls rest) mk (.ref b :: As).toArray) mk (.ref b :: As).toArray methM cM := ⟨⟨C.1.1, hbM, hmlM, (hW1.alike.findClass _ _).trans (findClass_of_methodNamed hnamed), fun w hw => word_at hW1 (gw_good hw) (W9 w hw)⟩, hrM, hlkM, (name_of_methodNamed hnamed hmethM).1, KK_warm hW1 C.2.2.2.2.1, AC_S (locs := locs) C.2.2.2.2.2.1 hW1 hS, (ehd_nil hexM).trans hhn.symm⟩
  rw [hmlM, lg_entry_eq] at hdo
  rw [hmlM, lg_entry_eq] at Y
  obtain ⟨u, a1, b1⟩ := hv A p e _ mk _ (.java (F0 m pc ls rest) :: below) methM cM hCx k2 n2 T.heap [] 0 0 _ hM va_S.rf (lv_entry (.ref b :: As) hlen) (by omega) (by omega) (((T.setVm vm₁).setTop (F0 m pc ls rest)).pushFrame (.java (F0 mk 0 (lg_sl (Value.ref b :: As) ++ List.replicate (t'.2.2.1 - (lg_sl (Value.ref b :: As)).length) Slot.unset).toArray []))) rfl Y
  rcases b1 with ⟨o, r1, r2, ⟨⟨⟨r, M', e1, e2, e3⟩, e4⟩, e9⟩, L, ⟨fO, fW, fS⟩, hL⟩ | ⟨-, a, b', M', L, ce, g1, g2, g3, g4, g5, g6, g7, g8, g9, g10, g11⟩
  · obtain ⟨v, rfl⟩ := e9 hthr
    cases e1
    obtain ⟨T', X', w1, w2, w3⟩ := X₁.outOf (g := F0 m pc ls rest) rfl hdc r2 fW fS
    have hheap : T'.heap = u.heap := by rw [w3]; rfl
    obtain ⟨t2, z1, z2⟩ := h v M' e2 A p e s m args below meth c C k0 n0 T'.heap (locs ++ L) (cells + k2) (slots + n2) ls (by rw [hheap]; exact e3) ⟨Nat.le_trans hS.1 (by rw [hheap]; exact e4.1), fun q h1 h2 => by rw [hheap, e4.2 q (Nat.lt_of_lt_of_le h1 hS.1) h2]; exact hS.2.1 q h1 h2, fun q hq => by
      rcases List.mem_append.mp hq with z | z
      · exact hS.2.2 q z
      · exact hL q z⟩ hl (by omega) (by omega) T' rfl X'
    refine ⟨t2, hstep₁ _ (fun acts => ?_), z2⟩
    rw [hdo acts]
    refine (Steps.weaken (mid := [.java (F0 m pc ls rest)]) a1).trans ?_
    rw [w3]
    exact z1
  · obtain ⟨T', X', w1, w2, w3⟩ := X₁.outOfThrown (g := F0 m pc ls rest) rfl g2 g3 g4
    have hheap : T'.heap = u.heap := by rw [w3, Stand.throwing_heap]
    have hcls : s.vm.findClass (thrC b') = some ce.cls := (hW1.alike.findClass _ _).symm.trans g10
    obtain ⟨vm2, hw2, go⟩ := hcat b' M' g6 (ls := ls) (rest := rest) (a := a) C X' (by rw [hheap]; exact g9) hcls g11
    obtain ⟨t2, z1, z2⟩ := hc b' M' a g6 A p e s m args below meth c C k0 n0 T'.heap (locs ++ L) (cells + k2) (slots + n2) ls (by rw [hheap]; exact g7) ⟨Nat.le_trans hS.1 (by rw [hheap]; exact g8.1), fun q h1 h2 => by rw [hheap, g8.2 q (Nat.lt_of_lt_of_le h1 hS.1) h2]; exact hS.2.1 q h1 h2, fun q hq => by
      rcases List.mem_append.mp hq with z | z
      · exact hS.2.2 q z
      · exact g5 q z⟩ hl (by omega) (by omega) (T'.setVm vm2) rfl (X'.noted hw2)
    refine ⟨t2, hstep₁ _ (fun acts => ?_), z2⟩
    rw [hdo acts]
    refine (Steps.weaken (mid := [.java (F0 m pc ls rest)]) a1).trans ?_
    rw [w3]
    exact go _ z1
/-- a contract of a method with an exception table -/
def CtW (l : Launch) (D : va_G) (tys : TY) (t : MT) (k n : Nat) (av : List Value) (M : MP) (Q : Option Value → MP → Prop) : Prop := ∀ A : Nat → Prop, Met l t.1 (.codeWith t.1 t.2.1 t.2.2.1 t.2.2.2.1 (hnd t) :: gw) (mt_rm t k n) (va_Pc av (PreM D tys A M)) (QcM D A Q) k n A
theorem CtW_of {av : List Value} (hpl : plainName t.1.cls = true) (hlen : (lg_sl av).length ≤ t.2.2.1) (h : V l D tys t k n 0 (lv_args 0 av) [] M Q) (hnt : thrw t = false := by decide) : CtW l D tys t k n av M Q := by
  intro A
  refine va_MetW (cc := t.2.1) (maxL := t.2.2.1) (ret := t.2.2.2.1) (hh := hnd t) hpl rfl ?_
  intro p e s m args below meth c s₁ B hml hv
  obtain ⟨rfl, hA, hM, hK⟩ := hv
  rw [lg_entry_eq]
  refine W_mono (Q := VE D t A Q below av.toArray s k n) (fun u hu => hu.elim (fun z => by obtain ⟨o, z1, z2, z3, z4⟩ := z; exact ⟨o, z1, z2, z3.1, z4⟩) (fun z => by rw [hnt] at z; cases z.1)) ?_
  have hws := atoms_spec (ws := .codeWith t.1 t.2.1 t.2.2.1 t.2.2.2.1 (hnd t) :: gw) B.pre
  obtain ⟨m9, meth9, c9, n1, n2, n3, -, -, n6, -⟩ := Cond.codeWith_spec (hws _ List.mem_cons_self)
  cases B.named.symm.trans n1
  cases B.method.symm.trans n2
  cases (Stand.of_body B).code.symm.trans n3
  exact h A p e s m _ below meth c ⟨⟨B.exec, B.bytes, hml, findClass_of_methodNamed B.named, fun w hw => hws w (List.mem_cons_of_mem _ hw)⟩, B.returns, B.notSynchronized, (name_of_methodNamed B.named B.method).1, hK, hA, n6⟩ k n s.heap [] 0 0 _ hM va_S.rf (lv_entry av hlen) (by omega) (by omega)
/-- invokestatic of it -/
theorem V_callSW {i na : Nat} {As : List Value} {k' n' k2 n2 : Nat} {Q' : Option Value → MP → Prop} (hd : decode t.2.1 pc = .ok (.invokestatic i, 3)) (o1 : Cond.codeWith t'.1 t'.2.1 t'.2.2.1 t'.2.2.2.1 (hnd t') ∈ gw) (o2 : Cond.initialized t'.1.cls ∈ gw) (o3 : t'.1.cls ≠ "java/lang/invoke/MethodHandle" ∧ t'.1.cls ≠ "java/lang/invoke/VarHandle" ∧ (parseMethodDescriptor t'.1.desc).map (fun d => d.parameters.length) = some na) (o4 : Cond.methodLink t.1.cls i t'.1 ∈ gw) (o5 : Cond.static t'.1 ∈ gw) (hR : rmf t t') (hna : As.length = na) (hst : st = As.reverse ++ rest) (hW9 : (rest.map fun v => v.category).sum ≤ 8) (hk' : k = k' + k2) (hn' : n = n' + n2) (ct : CtW l D tys t' k2 n2 As M Q') (h : ∀ r M', Q' r M' → V l D tys t k' n' (pc + 3) lv (r.toList ++ rest) M' Q) : V l D tys t k n pc lv st M Q := fun A p e s m args below meth c C k0 n0 H locs cells slots ls hM hS hl hk hn => by
  subst hk'; subst hn'
  have W9 := C.1.2.2.2.2
  refine V_back (k2 := k2) (n2 := n2) (a := As.toArray) (rest := rest) (Q' := Q') ?_ hS (fun r M' H1 locs1 hq hM1 hS1 => h r M' hq A p e s m args below meth c C k0 n0 H1 locs1 (cells + k2) (slots + n2) ls hM1 hS1 hl (by omega) (by omega))
  intro T hT X
  have hK : Back l (mt_rm t k0 n0) p e below s args t'.1 3 8 (PreOf (mt_rm t k0 n0) k2 n2 (va_Pc As (PreM D tys A M))) (PostOf (QcM D A Q') k2 n2 A) := va_backW (hh := hnd t') (ct A) blind_M rfl rfl hR.1 hR.2 (fun w hw a' U hW => by
    rcases List.mem_cons.mp hw with rfl | hw
    · exact word_at hW (gw_good o1) (W9 _ o1)
    · exact word_at hW (gw_good hw) (W9 _ hw)) List.mem_cons_self (fun a' U hW => word_at hW (gw_good o2) (W9 _ o2))
  obtain ⟨mk, methM, cM, hnamed, hmethM, hcM, -, -, -, -, -, hsigM⟩ := Cond.codeWith_spec (W9 _ o1)
  have hstatic : methM.isStatic = true := Cond.static_spec hnamed hmethM (W9 _ o5)
  obtain ⟨kP, hkP, -⟩ := className_of_methodNamed hnamed
  have hinitP : kP.init = .initialized := Cond.initialized_spec (findClass_of_methodNamed hnamed) hkP (W9 _ o2)
  have hdc : decode c.code pc = .ok (.invokestatic i, 3) := by rw [C.1.2.1]; exact hd
  have hlenA : As.length = methM.sig.parameters.length := by
    have h2 := o3.2.2
    rw [hsigM] at h2
    rw [hna]
    exact (Option.some.inj h2).symm
  obtain ⟨vm₁, X₁, hstep₁⟩ := X.invokestatic C.1.1 C.1.2.2.2.1 (W9 _ o4) hnamed hmethM hstatic hkP hinitP ⟨o3.1, o3.2.1⟩ (g := F0 m pc ls st) rfl (argsL := As) (rest := rest) hlenA hst hdc
  obtain ⟨v, ⟨U', l2, c2, s2⟩, X', ⟨g', mk', t9, L, e1, e2, hq, h1, hL, h2, h3⟩, hsteps⟩ := hK m meth c ⟨T.setVm vm₁, locs, cells, slots⟩ (F0 m pc ls rest) (.invokestatic i) mk As.toArray X₁ rfl (hl.1.trans C.1.2.2.1.symm) hdc (by show 2 * 0 + (rest.map fun v => v.category).sum ≤ 8; omega) (X₁.named hnamed) ⟨show cells + k2 ≤ k0 by omega, show slots + n2 ≤ n0 by omega, pre_M C.2.2.2.2.1 C.2.2.2.2.2.1 hS hM (T.setVm vm₁) hT X₁.warmed⟩
  dsimp only [Pt.U, Pt.locs, Pt.cells, Pt.slots] at X' e1 e2 h1 h2 h3 hsteps
  subst h1; subst h2; subst h3
  exact ⟨v, (T.setVm vm₁).calling g' mk' As.toArray, t9, U', L, hT, X', hL, e1, e2, hq, fun target h => hstep₁ _ fun acts => by rw [doInvoke_state]; exact hsteps.trans h⟩
end VCa
