/-! The world as a map from addresses to cells: M a = some e, the cell at a is e. Over the kit's pools. -/
def mg (M : Nat → Option va_E) : Nat → va_E := fun a => (M a).getD (.inr (0, []))
def mw (D : va_G) (cl : List vw_C) (A : Nat → Prop) (M : Nat → Option va_E) (H : Heap) : Prop := ∃ L : List Nat, (∀ a, a ∈ L ↔ M a ≠ none) ∧ va_P D cl (va_pl L (mg M)) H ∧ va_D A (va_pl L (mg M))
def mu (M : Nat → Option va_E) (a : Nat) (e : va_E) : Nat → Option va_E := va_up M a (some e)
theorem mu_self (M : Nat → Option va_E) (a : Nat) (e : va_E) : mu M a e a = some e := va_up_self _ _ _
theorem mu_ne (M : Nat → Option va_E) {a b : Nat} (e : va_E) (h : b ≠ a) : mu M a e b = M b := va_up_ne _ _ h
theorem mg_mu (M : Nat → Option va_E) (a : Nat) (e : va_E) : mg (mu M a e) = va_up (mg M) a e := by
  funext b
  by_cases h : b = a
  · subst h; rw [va_up_self]; unfold mg; rw [mu_self]; rfl
  · rw [va_up_ne _ _ h]; unfold mg; rw [mu_ne _ _ h]
theorem mw_mu {M : Nat → Option va_E} {L : List Nat} {a : Nat} {e : va_E} (hL : ∀ b, b ∈ L ↔ M b ≠ none) (ha : a ∈ L) : ∀ b, b ∈ L ↔ mu M a e b ≠ none := by
  intro b
  by_cases h : b = a
  · subst h; rw [mu_self]; exact ⟨fun _ q => (by cases q), fun _ => ha⟩
  · rw [mu_ne _ _ h]; exact hL b
theorem mw_mu_new {M : Nat → Option va_E} {L : List Nat} {a : Nat} {e : va_E} (hL : ∀ b, b ∈ L ↔ M b ≠ none) : ∀ b, b ∈ L ++ [a] ↔ mu M a e b ≠ none := by
  intro b
  by_cases h : b = a
  · subst h; rw [mu_self]; exact ⟨fun _ q => (by cases q), fun _ => List.mem_append_right _ List.mem_cons_self⟩
  · rw [mu_ne _ _ h, ← hL b]
    constructor
    · intro q
      rcases List.mem_append.mp q with q | q
      · exact q
      · exact absurd (List.mem_singleton.mp q) h
    · exact fun q => List.mem_append_left _ q
theorem mw_in {D : va_G} {cl : List vw_C} {A : Nat → Prop} {M : Nat → Option va_E} {H : Heap} (h : mw D cl A M H) {a : Nat} {e : va_E} (ha : M a = some e) : A a := by
  obtain ⟨L, hL, hP, hD⟩ := h
  obtain ⟨k, hk⟩ := va_pl_get (X := []) (f := mg M) ((hL a).mpr (by rw [ha]; exact fun q => by cases q))
  exact hD.2 k _ hk
theorem mw_lt {D : va_G} {cl : List vw_C} {A : Nat → Prop} {M : Nat → Option va_E} {H : Heap} (h : mw D cl A M H) {a : Nat} {e : va_E} (ha : M a = some e) : a < H.size := by
  obtain ⟨L, hL, hP, hD⟩ := h
  exact va_pl_lt (X := []) hP ((hL a).mpr (by rw [ha]; exact fun q => by cases q))
/-- one cell of the world, as the kit's rows ask for it -/
theorem mw_one {D : va_G} {cl : List vw_C} {A : Nat → Prop} {M : Nat → Option va_E} {H : Heap} (h : mw D cl A M H) {a : Nat} {e : va_E} (ha : M a = some e) : va_P D cl [(a, e)] H := by
  obtain ⟨L, hL, hP, hD⟩ := h
  obtain ⟨k, hk⟩ := va_pl_get (X := []) (f := mg M) ((hL a).mpr (by rw [ha]; exact fun q => by cases q))
  have hk2 : (va_pl L (mg M))[k]? = some (a, e) := by
    have : mg M a = e := by unfold mg; rw [ha]; rfl
    rw [← this]; exact hk
  exact hP.by (fun _ => k) (fun j q hj => by
    match j, hj with
    | 0, hj => cases hj; exact hk2
    | j + 1, hj => simp at hj)
/-- as a list, with the place of one cell -/
theorem mw_open {D : va_G} {cl : List vw_C} {A : Nat → Prop} {M : Nat → Option va_E} {H : Heap} (h : mw D cl A M H) {a : Nat} {e : va_E} (ha : M a = some e) : ∃ (ws : va_W) (k : Nat), va_P D cl ws H ∧ va_D A ws ∧ ws[k]? = some (a, e) ∧ ∀ (e' : va_E) (H1 : Heap), va_P D cl (ws.set k (a, e')) H1 → va_D A (ws.set k (a, e')) → mw D cl A (mu M a e') H1 := by
  obtain ⟨L, hL, hP, hD⟩ := h
  have hm : a ∈ L := (hL a).mpr (by rw [ha]; exact fun q => by cases q)
  obtain ⟨k, hk⟩ := va_pl_get (X := []) (f := mg M) hm
  have hg : mg M a = e := by unfold mg; rw [ha]; rfl
  refine ⟨va_pl L (mg M), k, hP, hD, by rw [← hg]; exact hk, fun e' H1 hP1 hD1 => ⟨L, mw_mu hL hm, ?_, ?_⟩⟩
  · have h2 := va_pl_set (X := []) (f := mg M) (e := e') hD hm hk
    rw [mg_mu, ← (show (va_pl L (mg M)).set k (a, e') = va_pl L (va_up (mg M) a e') from h2)]; exact hP1
  · have h2 := va_pl_set (X := []) (f := mg M) (e := e') hD hm hk
    rw [mg_mu, ← (show (va_pl L (mg M)).set k (a, e') = va_pl L (va_up (mg M) a e') from h2)]; exact hD1
/-- as a list, for a cell to be made -/
theorem mw_open_new {D : va_G} {cl : List vw_C} {A : Nat → Prop} {M : Nat → Option va_E} {H : Heap} (h : mw D cl A M H) : ∃ ws : va_W, va_P D cl ws H ∧ va_D A ws ∧ ∀ (q : Nat) (e' : va_E) (H1 : Heap), va_P D cl (ws ++ [(q, e')]) H1 → va_D A (ws ++ [(q, e')]) → M q = none ∧ mw D cl A (mu M q e') H1 := by
  obtain ⟨L, hL, hP, hD⟩ := h
  refine ⟨va_pl L (mg M), hP, hD, fun q e' H1 hP1 hD1 => ?_⟩
  have hq : q ∉ L := va_pl_fresh2 (X := []) hD1
  refine ⟨Classical.byContradiction fun z => hq ((hL q).mpr z), L ++ [q], mw_mu_new hL, ?_, ?_⟩
  · rw [mg_mu, ← va_pl_push hq]; exact hP1
  · rw [mg_mu, ← va_pl_push hq]; exact hD1
section MW
variable {p : Program} {l : Launch} {e : Env} {R : Room} {s : State} {m : MethodId} {args : Array Value} {below : List Frame} {meth : Method} {c : Code} {H : Heap} {locs : List Loc} {cells slots : Nat} {Q : State → Prop}
variable {cc : ByteArray} {pc : Nat} {ls : Array Slot} {rest : List Value} {D : va_G} {cl : List vw_C} {A : Nat → Prop} {a : Nat} {tys : List (ClassId × FieldType)} {M : Nat → Option va_E} {H0 : Heap} {nL : Nat} {Ts : List Cond} {own : String}
theorem mw_get (S : CallFix p m c cc nL s args Ts own) (hK : va_K D cl tys s) (hM : mw D cl A M H) {C ref : String} {T : u_T} {N ci index : Nat} (hin : ∀ w ∈ u_ws C T N, w ∈ Ts) {fs : List Value} (he : M a = some (.inr (ci, fs))) (hc : cl[ci]? = some (C, T, N)) (k : Nat) (hk : k < N) (hlink : (Cond.fieldLink own index ref (T k).2.1 (T k).2.2.1).before args s = true) (hsame : ∀ x, s.fieldFound? (T k).1 (T k).2.1 (T k).2.2.1 = some x → s.fieldFound? ref (T k).2.1 (T k).2.2.1 = some x) {v : Value} (hv : fs[k]? = some v) (hdg : decode cc pc = .ok (.getfield index, 3))
    (kk : W p l e R s m args below meth c H locs cells slots Q (F0 m (pc + 3) ls (v :: rest))) : W p l e R s m args below meth c H locs cells slots Q (F0 m pc ls (.ref a :: rest)) :=
  va_get S.1 S.2.1 S.2.2.2.2 hin S.2.2.2.1 hK (mw_one hM he) 0 rfl hc k hk hlink hsame hv hdg kk
theorem mw_getN (S : CallFix p m c cc nL s args Ts own) (hK : va_K D cl tys s) (hM : mw D cl A M H) {C ref host : String} {T : u_T} {N ci index : Nat} (hin : ∀ w ∈ u_ws C T N, w ∈ Ts) {fs : List Value} (he : M a = some (.inr (ci, fs))) (hc : cl[ci]? = some (C, T, N)) (k : Nat) (hk : k < N) (hlink : (Cond.fieldLinkNest own index ref (T k).2.1 (T k).2.2.1 host).before args s = true) (hsame : ∀ x, s.fieldFound? (T k).1 (T k).2.1 (T k).2.2.1 = some x → s.fieldFound? ref (T k).2.1 (T k).2.2.1 = some x) {v : Value} (hv : fs[k]? = some v) (hdg : decode cc pc = .ok (.getfield index, 3))
    (kk : W p l e R s m args below meth c H locs cells slots Q (F0 m (pc + 3) ls (v :: rest))) : W p l e R s m args below meth c H locs cells slots Q (F0 m pc ls (.ref a :: rest)) :=
  va_getN S.1 S.2.1 S.2.2.2.2 hin S.2.2.2.1 hK (mw_one hM he) 0 rfl hc k hk hlink hsame hv hdg kk
theorem mw_put (S : CallFix p m c cc nL s args Ts own) (hK : va_K D cl tys s) (hM : mw D cl A M H) (hS : va_S A H0 H locs) {C ref : String} {T : u_T} {N ci index : Nat} (hin : ∀ w ∈ u_ws C T N, w ∈ Ts) (ty0 : Nat → FieldType) (hty : ∀ k, k < N → parseFieldDescriptor (T k).2.2.1 = some (ty0 k)) (hnm : ∀ a, a < N → ∀ b, b < N → a ≠ b → (T a).2.1 ≠ (T b).2.1) {fs : List Value} (he : M a = some (.inr (ci, fs))) (hc : cl[ci]? = some (C, T, N)) (k : Nat) (hk : k < N) (hlink : (Cond.fieldLink own index ref (T k).2.1 (T k).2.2.1).before args s = true) (hsame : ∀ x, s.fieldFound? (T k).1 (T k).2.1 (T k).2.2.1 = some x → s.fieldFound? ref (T k).2.1 (T k).2.2.1 = some x) (hfin : (T k).2.2.2 = false) {ty : FieldType} {v : Value} (hd : parseFieldDescriptor (T k).2.2.1 = some ty) (hn : narrow ty v = v) (hfit : fits ty v = true) (hl : k < fs.length) (hdg : decode cc pc = .ok (.putfield index, 3))
    (kk : ∀ (H1 : Heap) (locs1 : List Loc), mw D cl A (mu M a (.inr (ci, fs.set k v))) H1 → va_S A H0 H1 locs1 → W p l e R s m args below meth c H1 locs1 cells slots Q (F0 m (pc + 3) ls rest)) : W p l e R s m args below meth c H locs cells slots Q (F0 m pc ls (v :: .ref a :: rest)) := by
  obtain ⟨ws, j, hP, hD, hj, hb⟩ := mw_open hM he
  exact va_put S.1 S.2.1 S.2.2.2.2 hin ty0 hty hnm S.2.2.2.1 hK hP hD hS j hj hc k hk hlink hsame hfin hd hn hfit hl hdg (fun H1 locs1 hP1 hD1 hS1 => kk H1 locs1 (hb _ H1 hP1 hD1) hS1)
theorem mw_putF (S : CallFix p m c cc nL s args Ts own) (hK : va_K D cl tys s) (hM : mw D cl A M H) (hS : va_S A H0 H locs) {C ref : String} {T : u_T} {N ci index : Nat} (hin : ∀ w ∈ u_ws C T N, w ∈ Ts) (ty0 : Nat → FieldType) (hty : ∀ k, k < N → parseFieldDescriptor (T k).2.2.1 = some (ty0 k)) (hnm : ∀ a, a < N → ∀ b, b < N → a ≠ b → (T a).2.1 ≠ (T b).2.1) {fs : List Value} (he : M a = some (.inr (ci, fs))) (hc : cl[ci]? = some (C, T, N)) (k : Nat) (hk : k < N) (hlink : (Cond.fieldLink own index ref (T k).2.1 (T k).2.2.1).before args s = true) (hsame : ∀ x, s.fieldFound? (T k).1 (T k).2.1 (T k).2.2.1 = some x → s.fieldFound? ref (T k).2.1 (T k).2.2.1 = some x) (hfin : (T k).2.2.2 = true) (hin2 : meth.name = "<init>") (hdecl : (T k).1 = own) {ty : FieldType} {v : Value} (hd : parseFieldDescriptor (T k).2.2.1 = some ty) (hn : narrow ty v = v) (hfit : fits ty v = true) (hl : k < fs.length) (hdg : decode cc pc = .ok (.putfield index, 3))
    (kk : ∀ (H1 : Heap) (locs1 : List Loc), mw D cl A (mu M a (.inr (ci, fs.set k v))) H1 → va_S A H0 H1 locs1 → W p l e R s m args below meth c H1 locs1 cells slots Q (F0 m (pc + 3) ls rest)) : W p l e R s m args below meth c H locs cells slots Q (F0 m pc ls (v :: .ref a :: rest)) := by
  obtain ⟨ws, j, hP, hD, hj, hb⟩ := mw_open hM he
  exact va_putF S.1 S.2.1 S.2.2.2.2 hin ty0 hty hnm S.2.2.2.1 hK hP hD hS j hj hc k hk hlink hsame hfin hin2 hdecl hd hn hfit hl hdg (fun H1 locs1 hP1 hD1 hS1 => kk H1 locs1 (hb _ H1 hP1 hD1) hS1)
theorem mw_putN (S : CallFix p m c cc nL s args Ts own) (hK : va_K D cl tys s) (hM : mw D cl A M H) (hS : va_S A H0 H locs) {C ref host : String} {T : u_T} {N ci index : Nat} (hin : ∀ w ∈ u_ws C T N, w ∈ Ts) (ty0 : Nat → FieldType) (hty : ∀ k, k < N → parseFieldDescriptor (T k).2.2.1 = some (ty0 k)) (hnm : ∀ a, a < N → ∀ b, b < N → a ≠ b → (T a).2.1 ≠ (T b).2.1) {fs : List Value} (he : M a = some (.inr (ci, fs))) (hc : cl[ci]? = some (C, T, N)) (k : Nat) (hk : k < N) (hlink : (Cond.fieldLinkNest own index ref (T k).2.1 (T k).2.2.1 host).before args s = true) (hsame : ∀ x, s.fieldFound? (T k).1 (T k).2.1 (T k).2.2.1 = some x → s.fieldFound? ref (T k).2.1 (T k).2.2.1 = some x) (hfin : (T k).2.2.2 = false) {ty : FieldType} {v : Value} (hd : parseFieldDescriptor (T k).2.2.1 = some ty) (hn : narrow ty v = v) (hfit : fits ty v = true) (hl : k < fs.length) (hdg : decode cc pc = .ok (.putfield index, 3))
    (kk : ∀ (H1 : Heap) (locs1 : List Loc), mw D cl A (mu M a (.inr (ci, fs.set k v))) H1 → va_S A H0 H1 locs1 → W p l e R s m args below meth c H1 locs1 cells slots Q (F0 m (pc + 3) ls rest)) : W p l e R s m args below meth c H locs cells slots Q (F0 m pc ls (v :: .ref a :: rest)) := by
  obtain ⟨ws, j, hP, hD, hj, hb⟩ := mw_open hM he
  exact va_putN S.1 S.2.1 S.2.2.2.2 hin ty0 hty hnm S.2.2.2.1 hK hP hD hS j hj hc k hk hlink hsame hfin hd hn hfit hl hdg (fun H1 locs1 hP1 hD1 hS1 => kk H1 locs1 (hb _ H1 hP1 hD1) hS1)
theorem mw_iald (S : CallFix p m c cc nL s args Ts own) (hK : va_K D cl tys s) (hM : mw D cl A M H) (t0 : Nat) {cA : ClassId} {n : Nat} {f : Nat → Int32} (ha : M a = some (.inl (cA, n, .inl f))) (ht : tys[t0]? = some (cA, .int)) {i : Int32} (hin : vp_in i n) (hdg : decode cc pc = .ok (.iaload, 1))
    (kk : W p l e R s m args below meth c H locs cells slots Q (F0 m (pc + 1) ls (.int (f i.toNatClampNeg) :: rest))) : W p l e R s m args below meth c H locs cells slots Q (F0 m pc ls (.int i :: .ref a :: rest)) :=
  va_iald S.1 S.2.1 hK (mw_one hM ha) 0 t0 rfl ht hin hdg kk
theorem mw_bald (S : CallFix p m c cc nL s args Ts own) (hK : va_K D cl tys s) (hM : mw D cl A M H) (t0 : Nat) {cA : ClassId} {n : Nat} {f : Nat → Int32} (ha : M a = some (.inl (cA, n, .inl f))) (ht : tys[t0]? = some (cA, .byte)) {i : Int32} (hin : vp_in i n) (hdg : decode cc pc = .ok (.baload, 1))
    (kk : W p l e R s m args below meth c H locs cells slots Q (F0 m (pc + 1) ls (.int (f i.toNatClampNeg) :: rest))) : W p l e R s m args below meth c H locs cells slots Q (F0 m pc ls (.int i :: .ref a :: rest)) :=
  va_bald S.1 S.2.1 hK (mw_one hM ha) 0 t0 rfl ht hin hdg kk
theorem mw_zald (S : CallFix p m c cc nL s args Ts own) (hK : va_K D cl tys s) (hM : mw D cl A M H) (t0 : Nat) {cA : ClassId} {n : Nat} {f : Nat → Int32} (ha : M a = some (.inl (cA, n, .inl f))) (ht : tys[t0]? = some (cA, .boolean)) {i : Int32} (hin : vp_in i n) (hdg : decode cc pc = .ok (.baload, 1))
    (kk : W p l e R s m args below meth c H locs cells slots Q (F0 m (pc + 1) ls (.int (f i.toNatClampNeg) :: rest))) : W p l e R s m args below meth c H locs cells slots Q (F0 m pc ls (.int i :: .ref a :: rest)) :=
  va_zald S.1 S.2.1 hK (mw_one hM ha) 0 t0 rfl ht hin hdg kk
theorem mw_lald (S : CallFix p m c cc nL s args Ts own) (hK : va_K D cl tys s) (hM : mw D cl A M H) (t0 : Nat) {cA : ClassId} {n : Nat} {f : Nat → Int64} (ha : M a = some (.inl (cA, n, .inr (.inl f)))) (ht : tys[t0]? = some (cA, .long)) {i : Int32} (hin : vp_in i n) (hdg : decode cc pc = .ok (.laload, 1))
    (kk : W p l e R s m args below meth c H locs cells slots Q (F0 m (pc + 1) ls (.long (f i.toNatClampNeg) :: rest))) : W p l e R s m args below meth c H locs cells slots Q (F0 m pc ls (.int i :: .ref a :: rest)) :=
  va_lald S.1 S.2.1 hK (mw_one hM ha) 0 t0 rfl ht hin hdg kk
theorem mw_aldq (S : CallFix p m c cc nL s args Ts own) (hK : va_K D cl tys s) (hM : mw D cl A M H) (t0 : Nat) {cA : ClassId} {C : String} {n : Nat} {f : Nat → Option Nat} (ha : M a = some (.inl (cA, n, .inr (.inr (.inr (.inr f)))))) (ht : tys[t0]? = some (cA, .object C)) {i : Int32} (hin : vp_in i n) (hdg : decode cc pc = .ok (.aaload, 1))
    (kk : W p l e R s m args below meth c H locs cells slots Q (F0 m (pc + 1) ls (va_rf (f i.toNatClampNeg) :: rest))) : W p l e R s m args below meth c H locs cells slots Q (F0 m pc ls (.int i :: .ref a :: rest)) :=
  va_aldq S.1 S.2.1 hK (mw_one hM ha) 0 t0 rfl ht hin hdg kk
theorem mw_alen (S : CallFix p m c cc nL s args Ts own) (hK : va_K D cl tys s) (hM : mw D cl A M H) (t0 : Nat) {cA : ClassId} {x : vp_A} (ha : M a = some (.inl (cA, x))) {ty : FieldType} (ht : tys[t0]? = some (cA, ty)) {v : Int32} (hv : Int32.ofNat x.1 = v) (hdg : decode cc pc = .ok (.arraylength, 1))
    (kk : W p l e R s m args below meth c H locs cells slots Q (F0 m (pc + 1) ls (.int v :: rest))) : W p l e R s m args below meth c H locs cells slots Q (F0 m pc ls (.ref a :: rest)) :=
  va_alen S.1 S.2.1 hK (mw_one hM ha) 0 t0 rfl ht hv hdg kk
theorem mw_iast (S : CallFix p m c cc nL s args Ts own) (hK : va_K D cl tys s) (hM : mw D cl A M H) (hS : va_S A H0 H locs) (t0 : Nat) {cA : ClassId} {n : Nat} {f : Nat → Int32} (ha : M a = some (.inl (cA, n, .inl f))) (ht : tys[t0]? = some (cA, .int)) {i : Int32} {x : Int32} (hin : vp_in i n) (hdg : decode cc pc = .ok (.iastore, 1))
    (kk : ∀ (H1 : Heap) (locs1 : List Loc), mw D cl A (mu M a (.inl (cA, n, .inl (upd f i.toNatClampNeg (vp_nar .int x))))) H1 → va_S A H0 H1 locs1 → W p l e R s m args below meth c H1 locs1 cells slots Q (F0 m (pc + 1) ls rest)) : W p l e R s m args below meth c H locs cells slots Q (F0 m pc ls (.int x :: .int i :: .ref a :: rest)) := by
  obtain ⟨ws, j, hP, hD, hj, hb⟩ := mw_open hM ha
  exact va_iast S.1 S.2.1 hK hP hD hS j t0 hj ht hin hdg (fun H1 locs1 hP1 hD1 hS1 => kk H1 locs1 (hb _ H1 hP1 hD1) hS1)
theorem mw_bast (S : CallFix p m c cc nL s args Ts own) (hK : va_K D cl tys s) (hM : mw D cl A M H) (hS : va_S A H0 H locs) (t0 : Nat) {cA : ClassId} {n : Nat} {f : Nat → Int32} (ha : M a = some (.inl (cA, n, .inl f))) (ht : tys[t0]? = some (cA, .byte)) {i : Int32} {x : Int32} (hin : vp_in i n) (hdg : decode cc pc = .ok (.bastore, 1))
    (kk : ∀ (H1 : Heap) (locs1 : List Loc), mw D cl A (mu M a (.inl (cA, n, .inl (upd f i.toNatClampNeg (vp_nar .byte x))))) H1 → va_S A H0 H1 locs1 → W p l e R s m args below meth c H1 locs1 cells slots Q (F0 m (pc + 1) ls rest)) : W p l e R s m args below meth c H locs cells slots Q (F0 m pc ls (.int x :: .int i :: .ref a :: rest)) := by
  obtain ⟨ws, j, hP, hD, hj, hb⟩ := mw_open hM ha
  exact va_bast S.1 S.2.1 hK hP hD hS j t0 hj ht hin hdg (fun H1 locs1 hP1 hD1 hS1 => kk H1 locs1 (hb _ H1 hP1 hD1) hS1)
theorem mw_zast (S : CallFix p m c cc nL s args Ts own) (hK : va_K D cl tys s) (hM : mw D cl A M H) (hS : va_S A H0 H locs) (t0 : Nat) {cA : ClassId} {n : Nat} {f : Nat → Int32} (ha : M a = some (.inl (cA, n, .inl f))) (ht : tys[t0]? = some (cA, .boolean)) {i : Int32} {x : Int32} (hin : vp_in i n) (hdg : decode cc pc = .ok (.bastore, 1))
    (kk : ∀ (H1 : Heap) (locs1 : List Loc), mw D cl A (mu M a (.inl (cA, n, .inl (upd f i.toNatClampNeg (vp_nar .boolean x))))) H1 → va_S A H0 H1 locs1 → W p l e R s m args below meth c H1 locs1 cells slots Q (F0 m (pc + 1) ls rest)) : W p l e R s m args below meth c H locs cells slots Q (F0 m pc ls (.int x :: .int i :: .ref a :: rest)) := by
  obtain ⟨ws, j, hP, hD, hj, hb⟩ := mw_open hM ha
  exact va_zast S.1 S.2.1 hK hP hD hS j t0 hj ht hin hdg (fun H1 locs1 hP1 hD1 hS1 => kk H1 locs1 (hb _ H1 hP1 hD1) hS1)
theorem mw_astqN (S : CallFix p m c cc nL s args Ts own) (hK : va_K D cl tys s) (hM : mw D cl A M H) (hS : va_S A H0 H locs) (t0 : Nat) {cA : ClassId} {C : String} {n : Nat} {f : Nat → Option Nat} (ha : M a = some (.inl (cA, n, .inr (.inr (.inr (.inr f)))))) (ht : tys[t0]? = some (cA, .object C)) {i : Int32} (hin : vp_in i n) (hdg : decode cc pc = .ok (.aastore, 1))
    (kk : ∀ (H1 : Heap) (locs1 : List Loc), mw D cl A (mu M a (.inl (cA, n, .inr (.inr (.inr (.inr (va_up f i.toNatClampNeg none))))))) H1 → va_S A H0 H1 locs1 → W p l e R s m args below meth c H1 locs1 cells slots Q (F0 m (pc + 1) ls rest)) : W p l e R s m args below meth c H locs cells slots Q (F0 m pc ls (.null :: .int i :: .ref a :: rest)) := by
  obtain ⟨ws, j, hP, hD, hj, hb⟩ := mw_open hM ha
  exact va_astqN S.1 S.2.1 hK hP hD hS j t0 hj ht hin hdg (fun H1 locs1 hP1 hD1 hS1 => kk H1 locs1 (hb _ H1 hP1 hD1) hS1)
theorem mw_new (S : CallFix p m c cc nL s args Ts own) (hK : va_K D cl tys s) (hM : mw D cl A M H) (hS : va_S A H0 H locs) (hA : ∀ q, H0.size ≤ q → A q) {C : String} {T : u_T} {N ci index : Nat} (hin : ∀ w ∈ u_ws C T N, w ∈ Ts) (ty : Nat → FieldType) (hty : ∀ k, k < N → parseFieldDescriptor (T k).2.2.1 = some (ty k)) (hcl : (Cond.classLink own index C).before args s = true) (hinst : (Cond.instantiable C N).before args s = true) (hini : (Cond.initialized C).before args s = true) (hc : cl[ci]? = some (C, T, N)) {fs : List Value} (hfs : ∀ j, j < N → defaultValue (ty j) = vp_V fs j) (hcells : cells + 1 ≤ R.cells) (hslots : slots + N ≤ R.slots) (hdg : decode cc pc = .ok (.new index, 3))
    (kk : ∀ (q : Nat) (H1 : Heap), M q = none → mw D cl A (mu M q (.inr (ci, fs))) H1 → va_S A H0 H1 locs → W p l e R s m args below meth c H1 locs (cells + 1) (slots + N) Q (F0 m (pc + 3) ls (.ref q :: rest))) : W p l e R s m args below meth c H locs cells slots Q (F0 m pc ls rest) := by
  obtain ⟨ws, hP, hD, hb⟩ := mw_open_new hM
  exact va_new S.1 S.2.1 S.2.2.2.2 hin ty hty S.2.2.2.1 hcl hinst hini hK hP hD hS hA hc hfs hcells hslots hdg (fun q H1 hP1 hD1 hS1 => kk q H1 (hb q _ H1 hP1 hD1).1 (hb q _ H1 hP1 hD1).2 hS1)
end MW
