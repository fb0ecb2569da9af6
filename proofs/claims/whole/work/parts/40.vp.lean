/-! THE CLASS's world: fixed things stand at places (numbers): T the places that there are, adr their addresses, C what they hold; N all else (items, boxes, lists, the reference ..). -/
def pM (T : List Nat) (adr : Nat → Nat) (C : Nat → va_E) (N : MP) : MP := fun a => match T.find? (fun p => adr p == a) with
  | some p => some (C p)
  | none => N a
def pOK (T : List Nat) (adr : Nat → Nat) (N : MP) : Prop := (∀ p ∈ T, ∀ q ∈ T, adr p = adr q → p = q) ∧ ∀ p ∈ T, N (adr p) = none
section PM
variable {T : List Nat} {adr : Nat → Nat} {C : Nat → va_E} {N : MP}
theorem pM_p (h : pOK T adr N) {p : Nat} (hp : p ∈ T) : pM T adr C N (adr p) = some (C p) := by
  unfold pM
  cases hf : T.find? (fun q => adr q == adr p) with
  | none => exact absurd (List.find?_eq_none.mp hf p hp) (by simp)
  | some q =>
    have h1 := List.find?_some hf
    have h2 := h.1 q (List.mem_of_find?_eq_some hf) p hp (by simpa using h1)
    rw [h2]
theorem pM_out {a : Nat} (h : ∀ p ∈ T, adr p ≠ a) : pM T adr C N a = N a := by
  unfold pM
  have hf : T.find? (fun q => adr q == a) = none := List.find?_eq_none.mpr (fun p hp => by simpa using h p hp)
  rw [hf]
theorem pOK_ne (h : pOK T adr N) {a : Nat} {e : va_E} (ha : N a = some e) : ∀ p ∈ T, adr p ≠ a := fun p hp z => by
  have := h.2 p hp
  rw [z, ha] at this
  cases this
theorem pM_n (h : pOK T adr N) {a : Nat} {e : va_E} (ha : N a = some e) : pM T adr C N a = some e := by rw [pM_out (pOK_ne h ha), ha]
theorem pM_set (h : pOK T adr N) {p : Nat} (hp : p ∈ T) (e : va_E) : mu (pM T adr C N) (adr p) e = pM T adr (va_up C p e) N := by
  funext a
  by_cases ha : a = adr p
  · subst ha
    rw [mu_self, pM_p h hp, va_up_self]
  · rw [mu_ne _ _ ha]
    unfold pM
    cases hf : T.find? (fun q => adr q == a) with
    | none => rfl
    | some q =>
      have h1 := List.find?_some hf
      have hq : q ≠ p := fun z => ha (by have h2 : adr q = a := by simpa using h1
                                         rw [← h2, z])
      simp only
      rw [va_up_ne _ _ hq]
theorem pOK_mu (h : pOK T adr N) {a : Nat} (ha : ∀ p ∈ T, adr p ≠ a) (e : va_E) : pOK T adr (mu N a e) := ⟨h.1, fun p hp => by rw [mu_ne _ _ (ha p hp)]; exact h.2 p hp⟩
theorem pM_mu {a : Nat} (ha : ∀ p ∈ T, adr p ≠ a) (e : va_E) : mu (pM T adr C N) a e = pM T adr C (mu N a e) := by
  funext b
  by_cases hb : b = a
  · subst hb
    rw [mu_self, pM_out ha, mu_self]
  · rw [mu_ne _ _ hb]
    unfold pM
    cases T.find? (fun q => adr q == b) with
    | none => simp only; rw [mu_ne _ _ hb]
    | some q => rfl
theorem pM_none (h : pOK T adr N) {q : Nat} (hq : pM T adr C N q = none) : (∀ p ∈ T, adr p ≠ q) ∧ N q = none := by
  have h1 : ∀ p ∈ T, adr p ≠ q := fun p hp z => by rw [← z, pM_p h hp] at hq; cases hq
  exact ⟨h1, by rw [pM_out h1] at hq; exact hq⟩
/-- a new thing gets a place -/
theorem pM_push (h : pOK T adr N) {p q : Nat} (hp : p ∉ T) (hq : pM T adr C N q = none) (e : va_E) : mu (pM T adr C N) q e = pM (T ++ [p]) (va_up adr p q) (va_up C p e) N ∧ pOK (T ++ [p]) (va_up adr p q) N := by
  obtain ⟨h1, h2⟩ := pM_none h hq
  have hne : ∀ x ∈ T, x ≠ p := fun x hx z => hp (z ▸ hx)
  have hup : ∀ x ∈ T, va_up adr p q x = adr x := fun x hx => va_up_ne _ _ (hne x hx)
  have hok : pOK (T ++ [p]) (va_up adr p q) N := by
    refine ⟨?_, ?_⟩
    · intro x hx y hy hxy
      rcases List.mem_append.mp hx with hx | hx <;> rcases List.mem_append.mp hy with hy | hy
      · rw [hup x hx, hup y hy] at hxy; exact h.1 x hx y hy hxy
      · rw [List.mem_singleton.mp hy, va_up_self, hup x hx] at hxy; exact absurd hxy (h1 x hx)
      · rw [List.mem_singleton.mp hx, va_up_self, hup y hy] at hxy; exact absurd hxy.symm (h1 y hy)
      · rw [List.mem_singleton.mp hx, List.mem_singleton.mp hy]
    · intro x hx
      rcases List.mem_append.mp hx with hx | hx
      · rw [hup x hx]; exact h.2 x hx
      · rw [List.mem_singleton.mp hx, va_up_self]; exact h2
  refine ⟨?_, hok⟩
  funext a
  by_cases ha : a = q
  · subst ha
    rw [mu_self]
    have := pM_p (C := va_up C p e) hok (p := p) (List.mem_append_right _ List.mem_cons_self)
    rw [va_up_self, va_up_self] at this
    exact this.symm
  · rw [mu_ne _ _ ha]
    by_cases hin : ∃ x ∈ T, adr x = a
    · obtain ⟨x, hx, rfl⟩ := hin
      have := pM_p (C := va_up C p e) hok (p := x) (List.mem_append_left _ hx)
      rw [hup x hx, va_up_ne _ _ (hne x hx)] at this
      rw [this, pM_p h hx]
    · have hout : ∀ x ∈ T, adr x ≠ a := fun x hx z => hin ⟨x, hx, z⟩
      rw [pM_out hout, pM_out (fun x hx => by
        rcases List.mem_append.mp hx with hx | hx
        · rw [hup x hx]; exact hout x hx
        · rw [List.mem_singleton.mp hx, va_up_self]; exact fun z => ha z.symm)]
/-- place p moves to q, where N has e; what it held stays where it was, as a thing of N -/
def nHome (N : MP) (q b : Nat) (e : va_E) : MP := fun a => if a = q then none else if a = b then some e else N a
theorem pM_home (h : pOK T adr N) {p q : Nat} {e : va_E} (hp : p ∈ T) (hq : N q = some e) : pM T adr C N = pM T (va_up adr p q) (va_up C p e) (nHome N q (adr p) (C p)) ∧ pOK T (va_up adr p q) (nHome N q (adr p) (C p)) := by
  have hnq := pOK_ne h hq
  have hok : pOK T (va_up adr p q) (nHome N q (adr p) (C p)) := by
    refine ⟨?_, ?_⟩
    · intro x hx y hy hxy
      by_cases h1 : x = p <;> by_cases h2 : y = p
      · rw [h1, h2]
      · rw [h1, va_up_self, va_up_ne _ _ h2] at hxy; exact absurd hxy.symm (hnq y hy)
      · rw [h2, va_up_self, va_up_ne _ _ h1] at hxy; exact absurd hxy (hnq x hx)
      · rw [va_up_ne _ _ h1, va_up_ne _ _ h2] at hxy; exact h.1 x hx y hy hxy
    · intro x hx
      unfold nHome
      by_cases h1 : x = p
      · rw [h1, va_up_self, if_pos rfl]
      · rw [va_up_ne _ _ h1, if_neg (hnq x hx), if_neg (fun z => h1 (h.1 x hx p hp z))]; exact h.2 x hx
  refine ⟨?_, hok⟩
  funext a
  by_cases hin : ∃ x ∈ T, va_up adr p q x = a
  · obtain ⟨x, hx, rfl⟩ := hin
    rw [pM_p hok hx]
    by_cases h1 : x = p
    · rw [h1, va_up_self, va_up_self]; exact pM_n h hq
    · rw [va_up_ne _ _ h1, va_up_ne _ _ h1]; exact pM_p h hx
  · have hout : ∀ x ∈ T, va_up adr p q x ≠ a := fun x hx z => hin ⟨x, hx, z⟩
    have haq : a ≠ q := fun z => hout p hp (by rw [va_up_self, z])
    rw [pM_out hout]
    unfold nHome
    rw [if_neg haq]
    by_cases hap : a = adr p
    · rw [if_pos hap, hap]; exact pM_p h hp
    · rw [if_neg hap]
      exact pM_out (fun x hx z => by
        by_cases h1 : x = p
        · rw [h1] at z; exact hap z.symm
        · exact hout x hx (by rw [va_up_ne _ _ h1]; exact z))
end PM
section VP
variable {l : Launch} {D : va_G} {ac : Nat → ClassId} {t t' : MT} {k n pc : Nat} {lv : List (Nat × Value)} {st rest : List Value} {Q : Option Value → MP → Prop} {T : List Nat} {adr : Nat → Nat} {C : Nat → va_E} {N : MP} {p i ci f a : Nat} {FT : FieldType} {fin : Bool} {dc : String} {fs : List Value} {v : Value}
theorem VP_get (h0 : pOK T adr N) (hp : p ∈ T) (hd : decode t.2.1 pc = .ok (.getfield i, 3)) (hf : FL t.1.cls i ci f FT fin dc) (hC : C p = .inr (ci, fs)) (hv : fs[f]? = some v) (h : V l D (tyl ac) t k n (pc + 3) lv (v :: st) (pM T adr C N) Q) : V l D (tyl ac) t k n pc lv (.ref (adr p) :: st) (pM T adr C N) Q := V_getf hd hf ((pM_p h0 hp).trans (congrArg some hC)) hv h
theorem VN_get (h0 : pOK T adr N) (hd : decode t.2.1 pc = .ok (.getfield i, 3)) (hf : FL t.1.cls i ci f FT fin dc) (ha : N a = some (.inr (ci, fs))) (hv : fs[f]? = some v) (h : V l D (tyl ac) t k n (pc + 3) lv (v :: st) (pM T adr C N) Q) : V l D (tyl ac) t k n pc lv (.ref a :: st) (pM T adr C N) Q := V_getf hd hf (pM_n h0 ha) hv h
theorem VP_put (h0 : pOK T adr N) (hp : p ∈ T) (hd : decode t.2.1 pc = .ok (.putfield i, 3)) (hf : FL t.1.cls i ci f FT false dc) (hC : C p = .inr (ci, fs)) (hn9 : narrow FT v = v) (hfit : fits FT v = true) (hl : f < fs.length) (h : V l D (tyl ac) t k n (pc + 3) lv st (pM T adr (va_up C p (.inr (ci, fs.set f v))) N) Q) : V l D (tyl ac) t k n pc lv (v :: .ref (adr p) :: st) (pM T adr C N) Q := V_putf hd hf ((pM_p h0 hp).trans (congrArg some hC)) hn9 hfit hl (by rw [pM_set h0 hp]; exact h)
theorem VN_put (h0 : pOK T adr N) (hd : decode t.2.1 pc = .ok (.putfield i, 3)) (hf : FL t.1.cls i ci f FT false dc) (ha : N a = some (.inr (ci, fs))) (hn9 : narrow FT v = v) (hfit : fits FT v = true) (hl : f < fs.length) (h : V l D (tyl ac) t k n (pc + 3) lv st (pM T adr C (mu N a (.inr (ci, fs.set f v)))) Q) : V l D (tyl ac) t k n pc lv (v :: .ref a :: st) (pM T adr C N) Q := V_putf hd hf (pM_n h0 ha) hn9 hfit hl (by rw [pM_mu (pOK_ne h0 ha)]; exact h)
theorem VP_getN (h0 : pOK T adr N) (hp : p ∈ T) (hd : decode t.2.1 pc = .ok (.getfield i, 3)) (hf : FLN t.1.cls i ci f FT fin dc) (hC : C p = .inr (ci, fs)) (hv : fs[f]? = some v) (h : V l D (tyl ac) t k n (pc + 3) lv (v :: st) (pM T adr C N) Q) : V l D (tyl ac) t k n pc lv (.ref (adr p) :: st) (pM T adr C N) Q := V_getfN hd hf ((pM_p h0 hp).trans (congrArg some hC)) hv h
theorem VN_getN (h0 : pOK T adr N) (hd : decode t.2.1 pc = .ok (.getfield i, 3)) (hf : FLN t.1.cls i ci f FT fin dc) (ha : N a = some (.inr (ci, fs))) (hv : fs[f]? = some v) (h : V l D (tyl ac) t k n (pc + 3) lv (v :: st) (pM T adr C N) Q) : V l D (tyl ac) t k n pc lv (.ref a :: st) (pM T adr C N) Q := V_getfN hd hf (pM_n h0 ha) hv h
theorem VP_putN (h0 : pOK T adr N) (hp : p ∈ T) (hd : decode t.2.1 pc = .ok (.putfield i, 3)) (hf : FLN t.1.cls i ci f FT false dc) (hC : C p = .inr (ci, fs)) (hn9 : narrow FT v = v) (hfit : fits FT v = true) (hl : f < fs.length) (h : V l D (tyl ac) t k n (pc + 3) lv st (pM T adr (va_up C p (.inr (ci, fs.set f v))) N) Q) : V l D (tyl ac) t k n pc lv (v :: .ref (adr p) :: st) (pM T adr C N) Q := V_putfN hd hf ((pM_p h0 hp).trans (congrArg some hC)) hn9 hfit hl (by rw [pM_set h0 hp]; exact h)
theorem VN_putN (h0 : pOK T adr N) (hd : decode t.2.1 pc = .ok (.putfield i, 3)) (hf : FLN t.1.cls i ci f FT false dc) (ha : N a = some (.inr (ci, fs))) (hn9 : narrow FT v = v) (hfit : fits FT v = true) (hl : f < fs.length) (h : V l D (tyl ac) t k n (pc + 3) lv st (pM T adr C (mu N a (.inr (ci, fs.set f v)))) Q) : V l D (tyl ac) t k n pc lv (v :: .ref a :: st) (pM T adr C N) Q := V_putfN hd hf (pM_n h0 ha) hn9 hfit hl (by rw [pM_mu (pOK_ne h0 ha)]; exact h)
end VP
