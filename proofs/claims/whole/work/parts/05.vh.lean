/-- the array classes of the worlds: int, byte, boolean, long, Box -/
def tyl (ac : Nat → ClassId) : TY := [(ac 0, .int), (ac 1, .byte), (ac 2, .boolean), (ac 3, .long), (ac 4, .object R_Box)]
/-- a field's site: pool entry i of class own is field kf of class number ci, of type FT, declared in dc; fin: it is final -/
def FL (own : String) (i ci kf : Nat) (FT : FieldType) (fin : Bool) (dc : String) : Prop := ∃ (C : String) (T : u_T) (N : Nat) (ty : Nat → FieldType), cls[ci]? = some (C, T, N) ∧ (∀ w ∈ u_ws C T N, w ∈ gw) ∧ (∀ k, k < N → parseFieldDescriptor (T k).2.2.1 = some (ty k)) ∧ (∀ a, a < N → ∀ b, b < N → a ≠ b → (T a).2.1 ≠ (T b).2.1) ∧ kf < N ∧ Cond.fieldLink own i (T kf).1 (T kf).2.1 (T kf).2.2.1 ∈ gw ∧ ty kf = FT ∧ (T kf).2.2.2 = fin ∧ (T kf).1 = dc
def FLN (own : String) (i ci kf : Nat) (FT : FieldType) (fin : Bool) (host : String) : Prop := ∃ (C : String) (T : u_T) (N : Nat) (ty : Nat → FieldType), cls[ci]? = some (C, T, N) ∧ (∀ w ∈ u_ws C T N, w ∈ gw) ∧ (∀ k, k < N → parseFieldDescriptor (T k).2.2.1 = some (ty k)) ∧ (∀ a, a < N → ∀ b, b < N → a ≠ b → (T a).2.1 ≠ (T b).2.1) ∧ kf < N ∧ Cond.fieldLinkNest own i (T kf).1 (T kf).2.1 (T kf).2.2.1 host ∈ nw ∧ ty kf = FT ∧ (T kf).2.2.2 = fin
/-- a class that a site makes -/
def NW (own : String) (i ci : Nat) (fs : List Value) (N : Nat) : Prop := ∃ (C : String) (T : u_T) (ty : Nat → FieldType), cls[ci]? = some (C, T, N) ∧ (∀ w ∈ u_ws C T N, w ∈ gw) ∧ (∀ k, k < N → parseFieldDescriptor (T k).2.2.1 = some (ty k)) ∧ Cond.classLink own i C ∈ gw ∧ Cond.instantiable C N ∈ gw ∧ Cond.initialized C ∈ gw ∧ ∀ j, j < N → defaultValue (ty j) = vp_V fs j
def okd (y : MethodName) (na : Nat) : Prop := y.cls ≠ "java/lang/invoke/MethodHandle" ∧ y.cls ≠ "java/lang/invoke/VarHandle" ∧ (parseMethodDescriptor y.desc).map (fun d => d.parameters.length) = some na
def okc (t : MT) (na : Nat) : Prop := Cond.code t.1 t.2.1 t.2.2.1 t.2.2.2.1 ∈ gw ∧ Cond.initialized t.1.cls ∈ gw ∧ okd t.1 na
/-- call sites: a method of the object, by a link of the tables or a nest mate's; a static one; a constructor -/
def OKV (own : String) (i : Nat) (t : MT) (na : Nat) : Prop := okc t na ∧ Cond.methodLink own i t.1 ∈ gw ∧ Cond.instanceMethod t.1 ∈ gw ∧ Cond.selects t.1.cls t.1 t.1 ∈ gw
def OKVN (own : String) (i : Nat) (t : MT) (na : Nat) : Prop := okc t na ∧ (∃ host, Cond.methodLinkNest own i t.1 host ∈ nw) ∧ Cond.instanceMethod t.1 ∈ gw ∧ Cond.selects t.1.cls t.1 t.1 ∈ gw
def OKS (own : String) (i : Nat) (t : MT) (na : Nat) : Prop := okc t na ∧ Cond.methodLink own i t.1 ∈ gw ∧ Cond.static t.1 ∈ gw
def OKSN (own : String) (i : Nat) (t : MT) (na : Nat) : Prop := okc t na ∧ (∃ host, Cond.methodLinkNest own i t.1 host ∈ nw) ∧ Cond.static t.1 ∈ gw
def OKI (own : String) (i : Nat) (t : MT) (na : Nat) : Prop := okc t na ∧ Cond.methodLink own i t.1 ∈ gw ∧ Cond.instanceMethod t.1 ∈ gw ∧ t.1.name = "<init>" ∧ t.2.2.2.1 = none
def OKIN (own : String) (i : Nat) (t : MT) (na : Nat) : Prop := okc t na ∧ (∃ host, Cond.methodLinkNest own i t.1 host ∈ nw) ∧ Cond.instanceMethod t.1 ∈ gw ∧ t.1.name = "<init>" ∧ t.2.2.2.1 = none
/-- the callee's frames and locals fit -/
def rmf (t t' : MT) : Prop := t'.2.2.2.2.1 + 1 ≤ t.2.2.2.2.1 ∧ 8 + (t'.2.2.1 + 11) + t'.2.2.2.2.2 ≤ t.2.2.2.2.2
theorem gi_ws {t' : MT} (h : Cond.code t'.1 t'.2.1 t'.2.2.1 t'.2.2.2.1 ∈ gw) : GoodIn gw (mt_ws t') := fun w hw => by
  rcases List.mem_cons.mp hw with rfl | hw
  · exact ⟨h, gw_good h⟩
  · exact ⟨hw, gw_good hw⟩
theorem blind_M {D : va_G} {tys : TY} {A : Nat → Prop} {M : MP} {av : List Value} : FrameBlind (va_Pc av (PreM D tys A M)) := fun a U g mk q => by
  obtain ⟨q0, q1, q2, q3⟩ := q
  exact ⟨q0, q1, q2, KK_call q3⟩
theorem pre_M {D : va_G} {tys : TY} {A : Nat → Prop} {M : MP} {av : List Value} {s : State} {H : Heap} {locs : List Loc} (hK : KK D tys s) (hA : AC D A s) (hS : va_S A s.heap H locs) (hM : mw D cls A M H) : ∀ U : State, U.heap = H → s.WarmedH U.vm → va_Pc av (PreM D tys A M) av.toArray U := fun U hU hW =>
  ⟨rfl, AC_S (locs := locs) hA hW (by rw [hU]; exact hS), by rw [hU]; exact hM, KK_warm hW hK⟩
section VH
variable {l : Launch} {D : va_G} {tys : TY} {ac : Nat → ClassId} {t t' : MT} {k n pc : Nat} {lv : List (Nat × Value)} {st rest : List Value} {M : MP} {Q : Option Value → MP → Prop} {x y : Nat}
/-- behind a call -/
theorem V_back {Q' : Option Value → MP → Prop} {p : Program} {e : Env} {s : State} {m : MethodId} {args a : Array Value} {below : List Frame} {meth : Method} {c : Code} {k0 n0 : Nat} {H H0 : Heap} {locs : List Loc} {cells slots k2 n2 : Nat} {ls : Array Slot} {A : Nat → Prop} {Z : State → Prop}
    (hr : va_Run p l e (mt_rm t k0 n0) s m args below meth c H locs cells slots k2 n2 (F0 m pc ls st) rest (QcM D A Q' a) A) (hS : va_S A H0 H locs)
    (h : ∀ (r : Option Value) (M' : MP) (H1 : Heap) (locs1 : List Loc), Q' r M' → mw D cls A M' H1 → va_S A H0 H1 locs1 → W p l e (mt_rm t k0 n0) s m args below meth c H1 locs1 (cells + k2) (slots + n2) Z (F0 m (pc + 3) ls (r.toList ++ rest))) : W p l e (mt_rm t k0 n0) s m args below meth c H locs cells slots Z (F0 m pc ls st) := by
  intro T hT X
  obtain ⟨v, st₀, u, T', L, h0, X', hL, e1, e2, ⟨⟨r, M', hv, hq, hm⟩, hz, hkk⟩, go⟩ := hr T hT X
  cases hv
  rw [h0] at hz hkk
  obtain ⟨t2, a1, b1⟩ := h v M' T'.heap (locs ++ L) hq (by rw [e1]; exact hm) ⟨Nat.le_trans hS.1 (by rw [e1]; exact hz), fun q h1 h2 => by rw [e1, hkk q (Nat.lt_of_lt_of_le h1 hS.1) h2]; exact hS.2.1 q h1 h2, fun q hq => by
      rcases List.mem_append.mp hq with h | h
      · exact hS.2.2 q h
      · exact hL q h⟩ T' rfl X'
  exact ⟨t2, go t2 a1, b1⟩
theorem V_ireturn {v : Int32} (hd : decode t.2.1 pc = .ok (.ireturn, 1)) (hr : t.2.2.2.1 = some .int) (hq : Q (some (.int v)) M) : V l D tys t k n pc lv [.int v] M Q := fun A p e s m args below meth c C k0 n0 H locs cells slots ls hM hS hl hk hn => by
  refine W_mono (fun _ z => Or.inl z) ?_
  refine W.widen (k := k0) (n := n0) (by omega) (by omega) ?_
  exact W.iret C.1.1 C.1.2.1 (C.2.1.trans hr) (fun u hu _ => ⟨⟨⟨_, M, rfl, hq, by rw [hu]; exact hM⟩, hS.F hu⟩, fun _ => ⟨_, rfl⟩⟩) hS.2.2 hd C.2.2.1
theorem V_zreturn {v : Int32} {ty : FieldType} (hd : decode t.2.1 pc = .ok (.ireturn, 1)) (hr : t.2.2.2.1 = some ty) (hn9 : narrow ty (.int v) = .int v) (hq : Q (some (.int v)) M) : V l D tys t k n pc lv [.int v] M Q := fun A p e s m args below meth c C k0 n0 H locs cells slots ls hM hS hl hk hn => by
  refine W_mono (fun _ z => Or.inl z) ?_
  refine W.widen (k := k0) (n := n0) (by omega) (by omega) ?_
  exact W.zret C.1.1 C.1.2.1 (C.2.1.trans hr) hn9 (fun u hu _ => ⟨⟨⟨_, M, rfl, hq, by rw [hu]; exact hM⟩, hS.F hu⟩, fun _ => ⟨_, rfl⟩⟩) hS.2.2 hd C.2.2.1
theorem V_return  (hd : decode t.2.1 pc = .ok (.return_, 1)) (hr : t.2.2.2.1 = none) (hq : Q none M) (hnt : thrw t = false := by decide) : V l D tys t k n pc lv [] M Q := fun A p e s m args below meth c C k0 n0 H locs cells slots ls hM hS hl hk hn => by
  refine W_mono (fun _ z => Or.inl z) ?_
  refine W.widen (k := k0) (n := n0) (by omega) (by omega) ?_
  exact W.vret C.1.1 C.1.2.1 (C.2.1.trans hr) (fun u hu _ => ⟨⟨⟨_, M, rfl, hq, by rw [hu]; exact hM⟩, hS.F hu⟩, fun z => by rw [hnt] at z; cases z⟩) hS.2.2 hd C.2.2.1
theorem V_lreturn {v : Int64} (hd : decode t.2.1 pc = .ok (.lreturn, 1)) (hr : t.2.2.2.1 = some .long) (hq : Q (some (.long v)) M) (hnt : thrw t = false := by decide) : V l D tys t k n pc lv [.long v] M Q := fun A p e s m args below meth c C k0 n0 H locs cells slots ls hM hS hl hk hn => by
  refine W_mono (fun _ z => Or.inl z) ?_
  refine W.widen (k := k0) (n := n0) (by omega) (by omega) ?_
  exact W.lret C.1.1 C.1.2.1 (C.2.1.trans hr) (fun u hu _ => ⟨⟨⟨_, M, rfl, hq, by rw [hu]; exact hM⟩, hS.F hu⟩, fun z => by rw [hnt] at z; cases z⟩) hS.2.2 hd C.2.2.1
theorem V_areturn {v : Value} {rt : FieldType} (hd : decode t.2.1 pc = .ok (.areturn, 1)) (hr : t.2.2.2.1 = some rt) (hrt : (∃ n, rt = .object n) ∨ ∃ t, rt = .array t) (hv : isr v) (hq : Q (some (v)) M) (hnt : thrw t = false := by decide) : V l D tys t k n pc lv [v] M Q := fun A p e s m args below meth c C k0 n0 H locs cells slots ls hM hS hl hk hn => by
  refine W_mono (fun _ z => Or.inl z) ?_
  refine W.widen (k := k0) (n := n0) (by omega) (by omega) ?_
  exact W.aret C.1.1 C.1.2.1 (C.2.1.trans hr) hrt hv (fun u hu _ => ⟨⟨⟨_, M, rfl, hq, by rw [hu]; exact hM⟩, hS.F hu⟩, fun z => by rw [hnt] at z; cases z⟩) hS.2.2 hd C.2.2.1
theorem V_getf {i ci kf a : Nat} {FT : FieldType} {fin : Bool} {dc : String} {fs : List Value} {v : Value} (hd : decode t.2.1 pc = .ok (.getfield i, 3)) (hf : FL t.1.cls i ci kf FT fin dc) (ha : M a = some (.inr (ci, fs))) (hv : fs[kf]? = some v) (h : V l D tys t k n (pc + 3) lv (v :: st) M Q) : V l D tys t k n pc lv (.ref a :: st) M Q := fun A p e s m args below meth c C k0 n0 H locs cells slots ls hM hS hl hk hn => by
  obtain ⟨Cn, T, N, ty, f1, f2, f3, f4, f5, f6, f7, f8, f9⟩ := hf
  exact mw_get C.1 C.2.2.2.2.1.1 hM (gw_sub f2) ha f1 kf f5 (gw_ts C.1.2.2.2.2 f6) (fun _ z => z) hv hd (h A p e s m args below meth c C k0 n0 H locs cells slots ls hM hS hl hk hn)
theorem V_getfN {i ci kf a : Nat} {FT : FieldType} {fin : Bool} {host : String} {fs : List Value} {v : Value} (hd : decode t.2.1 pc = .ok (.getfield i, 3)) (hf : FLN t.1.cls i ci kf FT fin host) (ha : M a = some (.inr (ci, fs))) (hv : fs[kf]? = some v) (h : V l D tys t k n (pc + 3) lv (v :: st) M Q) : V l D tys t k n pc lv (.ref a :: st) M Q := fun A p e s m args below meth c C k0 n0 H locs cells slots ls hM hS hl hk hn => by
  obtain ⟨Cn, T, N, ty, f1, f2, f3, f4, f5, f6, f7, f8⟩ := hf
  exact mw_getN C.1 C.2.2.2.2.1.1 hM (gw_sub f2) ha f1 kf f5 (va_Nw.use rfl (C.2.2.2.2.1.2 _ f6)) (fun _ z => z) hv hd (h A p e s m args below meth c C k0 n0 H locs cells slots ls hM hS hl hk hn)
theorem V_putf {i ci kf a : Nat} {FT : FieldType} {dc : String} {fs : List Value} {v : Value} (hd : decode t.2.1 pc = .ok (.putfield i, 3)) (hf : FL t.1.cls i ci kf FT false dc) (ha : M a = some (.inr (ci, fs))) (hn9 : narrow FT v = v) (hfit : fits FT v = true) (hlen : kf < fs.length) (h : V l D tys t k n (pc + 3) lv st (mu M a (.inr (ci, fs.set kf v))) Q) : V l D tys t k n pc lv (v :: .ref a :: st) M Q := fun A p e s m args below meth c C k0 n0 H locs cells slots ls hM hS hl hk hn => by
  obtain ⟨Cn, T, N, ty, f1, f2, f3, f4, f5, f6, f7, f8, f9⟩ := hf
  subst f7
  exact mw_put C.1 C.2.2.2.2.1.1 hM hS (gw_sub f2) ty f3 f4 ha f1 kf f5 (gw_ts C.1.2.2.2.2 f6) (fun _ z => z) f8 (f3 kf f5) hn9 hfit hlen hd (fun H locs hM hS => h A p e s m args below meth c C k0 n0 H locs cells slots ls hM hS hl hk hn)
theorem V_putfN {i ci kf a : Nat} {FT : FieldType} {host : String} {fs : List Value} {v : Value} (hd : decode t.2.1 pc = .ok (.putfield i, 3)) (hf : FLN t.1.cls i ci kf FT false host) (ha : M a = some (.inr (ci, fs))) (hn9 : narrow FT v = v) (hfit : fits FT v = true) (hlen : kf < fs.length) (h : V l D tys t k n (pc + 3) lv st (mu M a (.inr (ci, fs.set kf v))) Q) : V l D tys t k n pc lv (v :: .ref a :: st) M Q := fun A p e s m args below meth c C k0 n0 H locs cells slots ls hM hS hl hk hn => by
  obtain ⟨Cn, T, N, ty, f1, f2, f3, f4, f5, f6, f7, f8⟩ := hf
  subst f7
  exact mw_putN C.1 C.2.2.2.2.1.1 hM hS (gw_sub f2) ty f3 f4 ha f1 kf f5 (va_Nw.use rfl (C.2.2.2.2.1.2 _ f6)) (fun _ z => z) f8 (f3 kf f5) hn9 hfit hlen hd (fun H locs hM hS => h A p e s m args below meth c C k0 n0 H locs cells slots ls hM hS hl hk hn)
theorem V_putF {i ci kf a : Nat} {FT : FieldType} {fs : List Value} {v : Value} (hd : decode t.2.1 pc = .ok (.putfield i, 3)) (hf : FL t.1.cls i ci kf FT true t.1.cls) (hin : t.1.name = "<init>") (ha : M a = some (.inr (ci, fs))) (hn9 : narrow FT v = v) (hfit : fits FT v = true) (hlen : kf < fs.length) (h : V l D tys t k n (pc + 3) lv st (mu M a (.inr (ci, fs.set kf v))) Q) : V l D tys t k n pc lv (v :: .ref a :: st) M Q := fun A p e s m args below meth c C k0 n0 H locs cells slots ls hM hS hl hk hn => by
  obtain ⟨Cn, T, N, ty, f1, f2, f3, f4, f5, f6, f7, f8, f9⟩ := hf
  subst f7
  exact mw_putF C.1 C.2.2.2.2.1.1 hM hS (gw_sub f2) ty f3 f4 ha f1 kf f5 (gw_ts C.1.2.2.2.2 f6) (fun _ z => z) f8 (C.2.2.2.1.trans hin) f9 (f3 kf f5) hn9 hfit hlen hd (fun H locs hM hS => h A p e s m args below meth c C k0 n0 H locs cells slots ls hM hS hl hk hn)
theorem V_new {i ci N k' n' : Nat} {fs : List Value} (hd : decode t.2.1 pc = .ok (.new i, 3)) (hf : NW t.1.cls i ci fs N) (hk' : k = k' + 1) (hn' : n = n' + N) (h : ∀ q, M q = none → V l D tys t k' n' (pc + 3) lv (.ref q :: st) (mu M q (.inr (ci, fs))) Q) : V l D tys t k n pc lv st M Q := fun A p e s m args below meth c C k0 n0 H locs cells slots ls hM hS hl hk hn => by
  obtain ⟨Cn, T, ty, f1, f2, f3, f4, f5, f6, f7⟩ := hf
  subst hk'; subst hn'
  exact mw_new C.1 C.2.2.2.2.1.1 hM hS C.2.2.2.2.2.1.1.1 (gw_sub f2) ty f3 (gw_ts C.1.2.2.2.2 f4) (gw_ts C.1.2.2.2.2 f5) (gw_ts C.1.2.2.2.2 f6) f1 f7 (show cells + 1 ≤ k0 by omega) (show slots + N ≤ n0 by omega) hd (fun q H1 hq hM1 hS1 => h q hq A p e s m args below meth c C k0 n0 H1 locs (cells + 1) (slots + N) ls hM1 hS1 hl (by omega) (by omega))
theorem V_objInit {i a : Nat} (hd : decode t.2.1 pc = .ok (.invokespecial i, 3)) (h1 : Cond.methodLink t.1.cls i objectInit ∈ gw) (h2 : Cond.instanceMethod objectInit ∈ gw) (h3 : Cond.code objectInit ⟨#[0xb1]⟩ 1 none ∈ gw) (hfr : 1 ≤ t.2.2.2.2.1) (hlo : (st.map fun v => v.category).sum + 12 ≤ t.2.2.2.2.2) (h : V l D tys t k n (pc + 3) lv st M Q) : V l D tys t k n pc lv (.ref a :: st) M Q := fun A p e s m args below meth c C k0 n0 H locs cells slots ls hM hS hl hk hn =>
  W.objInit C.1.1 C.1.2.1 C.1.2.2.2.1 (gw_ts C.1.2.2.2.2 h1) (gw_ts C.1.2.2.2.2 h2) (gw_ts C.1.2.2.2.2 h3) rfl (hl.1.trans C.1.2.2.1.symm) rfl hd hfr (by show 2 * 0 + _ + 12 ≤ t.2.2.2.2.2; omega) (h A p e s m args below meth c C k0 n0 H locs cells slots ls hM hS hl hk hn)
theorem V_callV {i na : Nat} {As : List Value} {k' n' k2 n2 : Nat} {Q' : Option Value → MP → Prop} {b ci N : Nat} {T : u_T} {fs : List Value} (ha : M b = some (.inr (ci, fs))) (hcl : cls[ci]? = some (t'.1.cls, T, N)) (hd : decode t.2.1 pc = .ok (.invokevirtual i, 3)) (ok : OKV t.1.cls i t' na) (hR : rmf t t') (hna : As.length = na) (hst : st = As.reverse ++ .ref b :: rest) (hW9 : (rest.map fun v => v.category).sum ≤ 8) (hk' : k = k' + k2) (hn' : n = n' + n2) (ct : Ct l D tys t' k2 n2 (.ref b :: As) M Q') (h : ∀ r M', Q' r M' → V l D tys t k' n' (pc + 3) lv (r.toList ++ rest) M' Q) : V l D tys t k n pc lv st M Q := fun A p e s m args below meth c C k0 n0 H locs cells slots ls hM hS hl hk hn => by
  subst hk'; subst hn'
  obtain ⟨⟨o1, o2, o3⟩, o4, o5, o6⟩ := ok
  refine V_back (va_runV (As := As) (rest := rest) C.1 (ct A) ⟨(callB_of na C.1.2.2.2.2 (gi_ws o1) rfl rfl rfl (gw_ts C.1.2.2.2.2 o2) (gw_ts C.1.2.2.2.2 o4) o3 hR), gw_ts C.1.2.2.2.2 o5, gw_ts C.1.2.2.2.2 o6⟩ ⟨blind_M, va_recv C.2.2.2.2.1.1 (mw_one hM ha) (ci := ci) (q0 := 0) hcl rfl, pre_M C.2.2.2.2.1 C.2.2.2.2.2.1 hS hM⟩ rfl hna hl.1 hst (lv_room hW9) hd ⟨show cells + k2 ≤ k0 by omega, show slots + n2 ≤ n0 by omega⟩) hS (fun r M' H1 locs1 hq hM1 hS1 => h r M' hq A p e s m args below meth c C k0 n0 H1 locs1 (cells + k2) (slots + n2) ls hM1 hS1 hl (by omega) (by omega))
theorem V_callVN {i na : Nat} {As : List Value} {k' n' k2 n2 : Nat} {Q' : Option Value → MP → Prop} {b ci N : Nat} {T : u_T} {fs : List Value} (ha : M b = some (.inr (ci, fs))) (hcl : cls[ci]? = some (t'.1.cls, T, N)) (hd : decode t.2.1 pc = .ok (.invokevirtual i, 3)) (ok : OKVN t.1.cls i t' na) (hR : rmf t t') (hna : As.length = na) (hst : st = As.reverse ++ .ref b :: rest) (hW9 : (rest.map fun v => v.category).sum ≤ 8) (hk' : k = k' + k2) (hn' : n = n' + n2) (ct : Ct l D tys t' k2 n2 (.ref b :: As) M Q') (h : ∀ r M', Q' r M' → V l D tys t k' n' (pc + 3) lv (r.toList ++ rest) M' Q) : V l D tys t k n pc lv st M Q := fun A p e s m args below meth c C k0 n0 H locs cells slots ls hM hS hl hk hn => by
  subst hk'; subst hn'
  obtain ⟨⟨o1, o2, o3⟩, ⟨host, o4⟩, o5, o6⟩ := ok
  refine V_back (va_runVN (As := As) (rest := rest) C.1 (ct A) ⟨(va_cnB na C.1.2.2.2.2 (gi_ws o1) rfl rfl rfl (C.2.2.2.2.1.2 _ o4) (gw_ts C.1.2.2.2.2 o2) o3 hR), gw_ts C.1.2.2.2.2 o5, gw_ts C.1.2.2.2.2 o6⟩ ⟨blind_M, va_recv C.2.2.2.2.1.1 (mw_one hM ha) (ci := ci) (q0 := 0) hcl rfl, pre_M C.2.2.2.2.1 C.2.2.2.2.2.1 hS hM⟩ rfl hna hl.1 hst (lv_room hW9) hd ⟨show cells + k2 ≤ k0 by omega, show slots + n2 ≤ n0 by omega⟩) hS (fun r M' H1 locs1 hq hM1 hS1 => h r M' hq A p e s m args below meth c C k0 n0 H1 locs1 (cells + k2) (slots + n2) ls hM1 hS1 hl (by omega) (by omega))
theorem V_callS {i na : Nat} {As : List Value} {k' n' k2 n2 : Nat} {Q' : Option Value → MP → Prop} (hd : decode t.2.1 pc = .ok (.invokestatic i, 3)) (ok : OKS t.1.cls i t' na) (hR : rmf t t') (hna : As.length = na) (hst : st = As.reverse ++ rest) (hW9 : (rest.map fun v => v.category).sum ≤ 8) (hk' : k = k' + k2) (hn' : n = n' + n2) (ct : Ct l D tys t' k2 n2 (As) M Q') (h : ∀ r M', Q' r M' → V l D tys t k' n' (pc + 3) lv (r.toList ++ rest) M' Q) : V l D tys t k n pc lv st M Q := fun A p e s m args below meth c C k0 n0 H locs cells slots ls hM hS hl hk hn => by
  subst hk'; subst hn'
  obtain ⟨⟨o1, o2, o3⟩, o4, o5⟩ := ok
  refine V_back (va_runS (As := As) (rest := rest) C.1 (ct A) ⟨(callB_of na C.1.2.2.2.2 (gi_ws o1) rfl rfl rfl (gw_ts C.1.2.2.2.2 o2) (gw_ts C.1.2.2.2.2 o4) o3 hR), gw_ts C.1.2.2.2.2 o5⟩ ⟨blind_M, pre_M C.2.2.2.2.1 C.2.2.2.2.2.1 hS hM⟩ rfl hna hl.1 hst (lv_room hW9) hd ⟨show cells + k2 ≤ k0 by omega, show slots + n2 ≤ n0 by omega⟩) hS (fun r M' H1 locs1 hq hM1 hS1 => h r M' hq A p e s m args below meth c C k0 n0 H1 locs1 (cells + k2) (slots + n2) ls hM1 hS1 hl (by omega) (by omega))
theorem V_callSN {i na : Nat} {As : List Value} {k' n' k2 n2 : Nat} {Q' : Option Value → MP → Prop} (hd : decode t.2.1 pc = .ok (.invokestatic i, 3)) (ok : OKSN t.1.cls i t' na) (hR : rmf t t') (hna : As.length = na) (hst : st = As.reverse ++ rest) (hW9 : (rest.map fun v => v.category).sum ≤ 8) (hk' : k = k' + k2) (hn' : n = n' + n2) (ct : Ct l D tys t' k2 n2 (As) M Q') (h : ∀ r M', Q' r M' → V l D tys t k' n' (pc + 3) lv (r.toList ++ rest) M' Q) : V l D tys t k n pc lv st M Q := fun A p e s m args below meth c C k0 n0 H locs cells slots ls hM hS hl hk hn => by
  subst hk'; subst hn'
  obtain ⟨⟨o1, o2, o3⟩, ⟨host, o4⟩, o5⟩ := ok
  refine V_back (va_runSN (As := As) (rest := rest) C.1 (ct A) ⟨(va_cnB na C.1.2.2.2.2 (gi_ws o1) rfl rfl rfl (C.2.2.2.2.1.2 _ o4) (gw_ts C.1.2.2.2.2 o2) o3 hR), gw_ts C.1.2.2.2.2 o5, trivial⟩ ⟨blind_M, pre_M C.2.2.2.2.1 C.2.2.2.2.2.1 hS hM⟩ rfl hna hl.1 hst (lv_room hW9) hd ⟨show cells + k2 ≤ k0 by omega, show slots + n2 ≤ n0 by omega⟩) hS (fun r M' H1 locs1 hq hM1 hS1 => h r M' hq A p e s m args below meth c C k0 n0 H1 locs1 (cells + k2) (slots + n2) ls hM1 hS1 hl (by omega) (by omega))
theorem V_callI {i na : Nat} {As : List Value} {k' n' k2 n2 : Nat} {Q' : Option Value → MP → Prop} {b : Nat} (hd : decode t.2.1 pc = .ok (.invokespecial i, 3)) (ok : OKI t.1.cls i t' na) (hR : rmf t t') (hna : As.length = na) (hst : st = As.reverse ++ .ref b :: rest) (hW9 : (rest.map fun v => v.category).sum ≤ 8) (hk' : k = k' + k2) (hn' : n = n' + n2) (ct : Ct l D tys t' k2 n2 (.ref b :: As) M Q') (h : ∀ r M', Q' r M' → V l D tys t k' n' (pc + 3) lv (r.toList ++ rest) M' Q) : V l D tys t k n pc lv st M Q := fun A p e s m args below meth c C k0 n0 H locs cells slots ls hM hS hl hk hn => by
  subst hk'; subst hn'
  obtain ⟨⟨o1, o2, o3⟩, o4, o5, o6, o7⟩ := ok
  refine V_back (va_runI (As := As) (rest := rest) C.1 (ct A) ⟨by have z : CallB (mt_rm t k0 n0) s args t.1.cls i t'.1 t'.2.1 t'.2.2.1 t'.2.2.2.1 (mt_ws t') (mt_rm t' k2 n2) k2 n2 na := (callB_of na C.1.2.2.2.2 (gi_ws o1) rfl rfl rfl (gw_ts C.1.2.2.2.2 o2) (gw_ts C.1.2.2.2.2 o4) o3 hR); rw [o7] at z; exact z, o6, gw_ts C.1.2.2.2.2 o5⟩ ⟨blind_M, pre_M C.2.2.2.2.1 C.2.2.2.2.2.1 hS hM⟩ rfl hna hl.1 hst (lv_room hW9) hd ⟨show cells + k2 ≤ k0 by omega, show slots + n2 ≤ n0 by omega⟩) hS (fun r M' H1 locs1 hq hM1 hS1 => h r M' hq A p e s m args below meth c C k0 n0 H1 locs1 (cells + k2) (slots + n2) ls hM1 hS1 hl (by omega) (by omega))
theorem V_callIN {i na : Nat} {As : List Value} {k' n' k2 n2 : Nat} {Q' : Option Value → MP → Prop} {b : Nat} (hd : decode t.2.1 pc = .ok (.invokespecial i, 3)) (ok : OKIN t.1.cls i t' na) (hR : rmf t t') (hna : As.length = na) (hst : st = As.reverse ++ .ref b :: rest) (hW9 : (rest.map fun v => v.category).sum ≤ 8) (hk' : k = k' + k2) (hn' : n = n' + n2) (ct : Ct l D tys t' k2 n2 (.ref b :: As) M Q') (h : ∀ r M', Q' r M' → V l D tys t k' n' (pc + 3) lv (r.toList ++ rest) M' Q) : V l D tys t k n pc lv st M Q := fun A p e s m args below meth c C k0 n0 H locs cells slots ls hM hS hl hk hn => by
  subst hk'; subst hn'
  obtain ⟨⟨o1, o2, o3⟩, ⟨host, o4⟩, o5, o6, o7⟩ := ok
  refine V_back (va_runIN (As := As) (rest := rest) C.1 (ct A) ⟨by have z : va_CN (mt_rm t k0 n0) s args t.1.cls i t'.1 host t'.2.1 t'.2.2.1 t'.2.2.2.1 (mt_ws t') (mt_rm t' k2 n2) k2 n2 na := (va_cnB na C.1.2.2.2.2 (gi_ws o1) rfl rfl rfl (C.2.2.2.2.1.2 _ o4) (gw_ts C.1.2.2.2.2 o2) o3 hR); rw [o7] at z; exact z, o6, gw_ts C.1.2.2.2.2 o5⟩ ⟨blind_M, pre_M C.2.2.2.2.1 C.2.2.2.2.2.1 hS hM⟩ rfl hna hl.1 hst (lv_room hW9) hd ⟨show cells + k2 ≤ k0 by omega, show slots + n2 ≤ n0 by omega⟩) hS (fun r M' H1 locs1 hq hM1 hS1 => h r M' hq A p e s m args below meth c C k0 n0 H1 locs1 (cells + k2) (slots + n2) ls hM1 hS1 hl (by omega) (by omega))
end VH
