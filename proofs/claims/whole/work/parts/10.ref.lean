/-! THE REFERENCE's world: one object at o, its 21 arrays at ad k (k the field's number); r: what they hold. -/
abbrev RS : Type := (Nat → Int32) × Int64 × (Nat → Nat → Int32) × (Nat → Int64)
/-- its arrays: field, array class (place in tyl), length -/
def rt : List (Nat × Nat × Nat) := [(1, 0, 6200), (2, 0, 6200), (3, 0, 6200), (4, 0, 6200), (5, 0, 6200), (6, 0, 6200), (7, 0, 6200), (9, 0, 101), (10, 2, 101), (12, 0, 8), (13, 0, 32), (14, 0, 32), (15, 2, 32), (16, 2, 32), (17, 1, 320000), (25, 0, 3100), (26, 0, 3100), (28, 0, 102), (29, 3, 102), (30, 0, 816), (31, 0, 8)]
def rfv (ad : Nat → Nat) (r : RS) (k : Nat) : Value := if (rt.lookup k).isSome = true then .ref (ad k) else if k = 22 then .long r.2.1 else .int (r.1 k)
def rfs (ad : Nat → Nat) (r : RS) : List Value := (List.range 34).map (rfv ad r)
def rcl (ac : Nat → ClassId) (r : RS) (q : Nat × Nat × Nat) : va_E := if q.1 = 29 then .inl (ac q.2.1, q.2.2, .inr (.inl r.2.2.2)) else .inl (ac q.2.1, q.2.2, .inl (r.2.2.1 q.1))
def rM (ac : Nat → ClassId) (o : Nat) (ad : Nat → Nat) (r : RS) (M0 : MP) : MP := fun a => if a = o then some (.inr (9, rfs ad r)) else match rt.find? (fun q => ad q.1 == a) with
  | some q => some (rcl ac r q)
  | none => M0 a
def rAD (o : Nat) (ad : Nat → Nat) : Prop := (∀ p ∈ rt, ∀ q ∈ rt, ad p.1 = ad q.1 → p = q) ∧ ∀ q ∈ rt, ad q.1 ≠ o
def sF (r : RS) (k : Nat) (v : Int32) : RS := (va_up r.1 k v, r.2)
def sT (r : RS) (v : Int64) : RS := (r.1, v, r.2.2)
def sB (r : RS) (k : Nat) (f : Nat → Int32) : RS := (r.1, r.2.1, va_up r.2.2.1 k f, r.2.2.2)
def sL (r : RS) (f : Nat → Int64) : RS := (r.1, r.2.1, r.2.2.1, f)
def gF (r : RS) (k : Nat) : Int32 := r.1 k
def gB (r : RS) (k : Nat) : Nat → Int32 := r.2.2.1 k
theorem rt_look {k j N : Nat} (h : rt.lookup k = some (j, N)) : (k, j, N) ∈ rt := by
  have key : ∀ (L : List (Nat × Nat × Nat)), L.lookup k = some (j, N) → (k, j, N) ∈ L := by
    intro L
    induction L with
    | nil => intro h; cases h
    | cons q L ih =>
      intro h
      obtain ⟨i, w⟩ := q
      by_cases hj : k = i
      · subst hj
        rw [List.lookup_cons_self] at h
        cases h
        exact List.mem_cons_self
      · have hb : (k == i) = false := beq_eq_false_iff_ne.mpr hj
        rw [List.lookup_cons, hb] at h
        exact List.mem_cons_of_mem _ (ih h)
  exact key rt h
section RR
variable {ac : Nat → ClassId} {o : Nat} {ad : Nat → Nat} {r : RS} {M0 : MP}
theorem rM_o : rM ac o ad r M0 o = some (.inr (9, rfs ad r)) := if_pos rfl
theorem rM_a (h : rAD o ad) {q : Nat × Nat × Nat} (hq : q ∈ rt) : rM ac o ad r M0 (ad q.1) = some (rcl ac r q) := by
  unfold rM
  rw [if_neg (h.2 _ hq)]
  cases hf : rt.find? (fun p => ad p.1 == ad q.1) with
  | none => exact absurd (List.find?_eq_none.mp hf q hq) (by simp)
  | some p =>
    have h1 := List.find?_some hf
    have h2 := h.1 p (List.mem_of_find?_eq_some hf) q hq (by simpa using h1)
    rw [h2]
theorem rfs_get (k : Nat) (hk : k < 34) : (rfs ad r)[k]? = some (rfv ad r k) := by
  unfold rfs
  rw [List.getElem?_map, List.getElem?_range hk]
  rfl
theorem rfs_len : (rfs ad r).length = 34 := by simp [rfs]
theorem rfs_set {r' : RS} (k : Nat) (v : Value) (hv : rfv ad r' k = v) (ho : ∀ j, j < 34 → j ≠ k → rfv ad r' j = rfv ad r j) : (rfs ad r).set k v = rfs ad r' := by
  apply List.ext_getElem?
  intro j
  by_cases hj : j < 34
  · rw [rfs_get j hj, List.getElem?_set]
    by_cases hjk : k = j
    · subst hjk
      rw [if_pos rfl, if_pos (by rw [rfs_len]; exact hj), hv]
    · rw [if_neg hjk, rfs_get j hj, ho j hj (fun z => hjk z.symm)]
  · rw [List.getElem?_eq_none (by rw [List.length_set, rfs_len]; omega), List.getElem?_eq_none (by rw [rfs_len]; omega)]
theorem rM_set {r' : RS} {fs : List Value} (hf : fs = rfs ad r') (hr : r'.2.2 = r.2.2) : mu (rM ac o ad r M0) o (.inr (9, fs)) = rM ac o ad r' M0 := by
  funext a
  by_cases ha : a = o
  · subst ha
    rw [mu_self, rM_o, hf]
  · rw [mu_ne _ _ ha]
    unfold rM
    rw [if_neg ha, if_neg ha]
    cases rt.find? (fun q => ad q.1 == a) with
    | none => rfl
    | some q => simp only [rcl, hr]
theorem rfv_F {k : Nat} (h1 : rt.lookup k = none) (h2 : k ≠ 22) : rfv ad r k = .int (r.1 k) := by
  unfold rfv; rw [h1]; simp [h2]
theorem rfv_A {k : Nat} (h1 : (rt.lookup k).isSome = true) : rfv ad r k = .ref (ad k) := if_pos h1
theorem rM_sF {k : Nat} {v : Int32} (h1 : rt.lookup k = none) (h2 : k ≠ 22) : mu (rM ac o ad r M0) o (.inr (9, (rfs ad r).set k (.int v))) = rM ac o ad (sF r k v) M0 := by
  refine rM_set (rfs_set k _ ?_ ?_) rfl
  · rw [rfv_F h1 h2]; simp [sF, va_up_self]
  · intro j _ hj
    unfold rfv
    split
    · rfl
    · split
      · rfl
      · simp [sF, va_up_ne _ _ hj]
theorem rM_sT {v : Int64} : mu (rM ac o ad r M0) o (.inr (9, (rfs ad r).set 22 (.long v))) = rM ac o ad (sT r v) M0 := by
  refine rM_set (rfs_set 22 _ (by rfl) ?_) rfl
  intro j _ hj
  unfold rfv
  split
  · rfl
  · simp [hj, sT]
theorem rM_arr (h : rAD o ad) {q : Nat × Nat × Nat} (hq : q ∈ rt) {r' : RS} (h1 : r'.1 = r.1) (h2 : r'.2.1 = r.2.1) (h3 : ∀ p ∈ rt, p ≠ q → rcl ac r' p = rcl ac r p) : mu (rM ac o ad r M0) (ad q.1) (rcl ac r' q) = rM ac o ad r' M0 := by
  funext a
  by_cases ha : a = ad q.1
  · subst ha
    rw [mu_self, rM_a h hq]
  · rw [mu_ne _ _ ha]
    unfold rM
    by_cases hao : a = o
    · rw [if_pos hao, if_pos hao]
      congr 3
      unfold rfs
      refine List.map_congr_left (fun k _ => ?_)
      unfold rfv
      rw [h1, h2]
    · rw [if_neg hao, if_neg hao]
      cases hf : rt.find? (fun p => ad p.1 == a) with
      | none => rfl
      | some p =>
        have e1 := List.find?_some hf
        have e2 : ad p.1 = a := by simpa using e1
        simp only
        rw [h3 p (List.mem_of_find?_eq_some hf) (fun z => ha (by rw [← e2, z]))]
theorem rt_inj {p q : Nat × Nat × Nat} (hp : p ∈ rt) (hq : q ∈ rt) (h : p.1 = q.1) : p = q := (show ∀ p ∈ rt, ∀ q ∈ rt, p.1 = q.1 → p = q by decide) p hp q hq h
theorem rM_sB (h : rAD o ad) {k j N : Nat} {f : Nat → Int32} (hk : rt.lookup k = some (j, N)) (h29 : k ≠ 29) : mu (rM ac o ad r M0) (ad k) (.inl (ac j, N, .inl f)) = rM ac o ad (sB r k f) M0 := by
  have hq := rt_look hk
  have e := rM_arr (ac := ac) (r := r) (M0 := M0) h hq (r' := sB r k f) rfl rfl (fun p hp hpq => by
    have hne : p.1 ≠ k := fun z => hpq (rt_inj hp hq z)
    unfold rcl
    simp only [sB, va_up_ne _ _ hne])
  rw [← e]
  simp [rcl, h29, sB, va_up_self]
theorem rM_sL (h : rAD o ad) {f : Nat → Int64} : mu (rM ac o ad r M0) (ad 29) (.inl (ac 3, 102, .inr (.inl f))) = rM ac o ad (sL r f) M0 := by
  have hq : (29, 3, 102) ∈ rt := by decide
  have e := rM_arr (ac := ac) (r := r) (M0 := M0) h hq (r' := sL r f) rfl rfl (fun p hp hpq => by
    have hne : p.1 ≠ 29 := fun z => hpq (rt_inj hp hq z)
    unfold rcl
    rw [if_neg hne, if_neg hne]; rfl)
  rw [← e]
  rfl
end RR
