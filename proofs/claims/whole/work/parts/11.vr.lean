section VR
variable {l : Launch} {D : va_G} {ac : Nat → ClassId} {t : MT} {k n pc : Nat} {lv : List (Nat × Value)} {st : List Value} {Q : Option Value → MP → Prop} {o : Nat} {ad : Nat → Nat} {r : RS} {M0 M : MP}
/-- the number on top, by another name -/
theorem V_eqi {x y : Int32} (e : x = y) (h : V l D (tyl ac) t k n pc lv (.int y :: st) M Q) : V l D (tyl ac) t k n pc lv (.int x :: st) M Q := by rw [e]; exact h
theorem V_eql {x y : Int64} (e : x = y) (h : V l D (tyl ac) t k n pc lv (.long y :: st) M Q) : V l D (tyl ac) t k n pc lv (.long x :: st) M Q := by rw [e]; exact h
theorem V_topi {x : Int32} (h : ∀ y, y = x → V l D (tyl ac) t k n pc lv (.int y :: st) M Q) : V l D (tyl ac) t k n pc lv (.int x :: st) M Q := h x rfl
theorem V_topl {x : Int64} (h : ∀ y, y = x → V l D (tyl ac) t k n pc lv (.long y :: st) M Q) : V l D (tyl ac) t k n pc lv (.long x :: st) M Q := h x rfl
theorem V_eqM {M' : MP} (e : M = M') (h : V l D (tyl ac) t k n pc lv st M' Q) : V l D (tyl ac) t k n pc lv st M Q := by rw [e]; exact h
theorem V_less {k' n' : Nat} (hk' : k' ≤ k) (hn' : n' ≤ n) (h : V l D (tyl ac) t k' n' pc lv st M Q) : V l D (tyl ac) t k n pc lv st M Q := fun A p e s m args below meth c C k0 n0 H locs cells slots ls hM hS hl hk hn => h A p e s m args below meth c C k0 n0 H locs cells slots ls hM hS hl (by omega) (by omega)
theorem VR_geti {i f : Nat} {FT : FieldType} {fin : Bool} {dc : String} (hd : decode t.2.1 pc = .ok (.getfield i, 3)) (hf : FL t.1.cls i 9 f FT fin dc) (hk : f < 34 ∧ rt.lookup f = none ∧ f ≠ 22) (h : V l D (tyl ac) t k n (pc + 3) lv (.int (gF r f) :: st) (rM ac o ad r M0) Q) : V l D (tyl ac) t k n pc lv (.ref o :: st) (rM ac o ad r M0) Q := V_getf hd hf rM_o (v := .int (gF r f)) (by rw [rfs_get f hk.1, rfv_F hk.2.1 hk.2.2]; rfl) h
theorem VR_geta {i f : Nat} {FT : FieldType} {fin : Bool} {dc : String} (hd : decode t.2.1 pc = .ok (.getfield i, 3)) (hf : FL t.1.cls i 9 f FT fin dc) (hk : f < 34 ∧ (rt.lookup f).isSome = true) (h : V l D (tyl ac) t k n (pc + 3) lv (.ref (ad f) :: st) (rM ac o ad r M0) Q) : V l D (tyl ac) t k n pc lv (.ref o :: st) (rM ac o ad r M0) Q := V_getf hd hf rM_o (v := .ref (ad f)) (by rw [rfs_get f hk.1, rfv_A hk.2]) h
theorem VR_getT {i : Nat} {FT : FieldType} {fin : Bool} {dc : String} (hd : decode t.2.1 pc = .ok (.getfield i, 3)) (hf : FL t.1.cls i 9 22 FT fin dc) (h : V l D (tyl ac) t k n (pc + 3) lv (.long r.2.1 :: st) (rM ac o ad r M0) Q) : V l D (tyl ac) t k n pc lv (.ref o :: st) (rM ac o ad r M0) Q := V_getf hd hf rM_o (v := .long r.2.1) (by rw [rfs_get 22 (by decide)]; rfl) h
theorem VR_puti {i f : Nat} {x : Int32} {dc : String} (hd : decode t.2.1 pc = .ok (.putfield i, 3)) (hf : FL t.1.cls i 9 f .int false dc) (hk : f < 34 ∧ rt.lookup f = none ∧ f ≠ 22) (h : V l D (tyl ac) t k n (pc + 3) lv st (rM ac o ad (sF r f x) M0) Q) : V l D (tyl ac) t k n pc lv (.int x :: .ref o :: st) (rM ac o ad r M0) Q := V_putf hd hf rM_o rfl rfl (by rw [rfs_len]; exact hk.1) (by rw [rM_sF hk.2.1 hk.2.2]; exact h)
theorem VR_putz {i f : Nat} {x : Int32} {dc : String} (hd : decode t.2.1 pc = .ok (.putfield i, 3)) (hf : FL t.1.cls i 9 f .boolean false dc) (hk : f < 34 ∧ rt.lookup f = none ∧ f ≠ 22) (hx : narrow .boolean (.int x) = .int x ∧ fits .boolean (.int x) = true) (h : V l D (tyl ac) t k n (pc + 3) lv st (rM ac o ad (sF r f x) M0) Q) : V l D (tyl ac) t k n pc lv (.int x :: .ref o :: st) (rM ac o ad r M0) Q := V_putf hd hf rM_o hx.1 hx.2 (by rw [rfs_len]; exact hk.1) (by rw [rM_sF hk.2.1 hk.2.2]; exact h)
theorem VR_putT {i : Nat} {x : Int64} {dc : String} (hd : decode t.2.1 pc = .ok (.putfield i, 3)) (hf : FL t.1.cls i 9 22 .long false dc) (h : V l D (tyl ac) t k n (pc + 3) lv st (rM ac o ad (sT r x) M0) Q) : V l D (tyl ac) t k n pc lv (.long x :: .ref o :: st) (rM ac o ad r M0) Q := V_putf hd hf rM_o rfl rfl (by rw [rfs_len]; decide) (by rw [rM_sT]; exact h)
theorem VR_iald (hA : rAD o ad) {f N m : Nat} (hd : decode t.2.1 pc = .ok (.iaload, 1)) (hk : rt.lookup f = some (0, N)) (hm : m < N) (hN : N < 2 ^ 31) (h : V l D (tyl ac) t k n (pc + 1) lv (.int (gB r f m) :: st) (rM ac o ad r M0) Q) : V l D (tyl ac) t k n pc lv (.int (nI m) :: .ref (ad f) :: st) (rM ac o ad r M0) Q := by
  have h29 : f ≠ 29 := fun z => by rw [z, show rt.lookup 29 = some (3, 102) from rfl] at hk; simp at hk
  refine V_iald hd (f := gB r f) ((rM_a hA (rt_look hk)).trans (by unfold rcl; rw [if_neg h29]; rfl)) (vp_in_nI hm hN) ?_
  rw [nI_clamp (Nat.lt_trans hm hN)]
  exact h
theorem VR_bald (hA : rAD o ad) {f N m : Nat} (hd : decode t.2.1 pc = .ok (.baload, 1)) (hk : rt.lookup f = some (1, N)) (hm : m < N) (hN : N < 2 ^ 31) (h : V l D (tyl ac) t k n (pc + 1) lv (.int (gB r f m) :: st) (rM ac o ad r M0) Q) : V l D (tyl ac) t k n pc lv (.int (nI m) :: .ref (ad f) :: st) (rM ac o ad r M0) Q := by
  have h29 : f ≠ 29 := fun z => by rw [z, show rt.lookup 29 = some (3, 102) from rfl] at hk; simp at hk
  refine V_bald hd (f := gB r f) ((rM_a hA (rt_look hk)).trans (by unfold rcl; rw [if_neg h29]; rfl)) (vp_in_nI hm hN) ?_
  rw [nI_clamp (Nat.lt_trans hm hN)]
  exact h
theorem VR_zald (hA : rAD o ad) {f N m : Nat} (hd : decode t.2.1 pc = .ok (.baload, 1)) (hk : rt.lookup f = some (2, N)) (hm : m < N) (hN : N < 2 ^ 31) (h : V l D (tyl ac) t k n (pc + 1) lv (.int (gB r f m) :: st) (rM ac o ad r M0) Q) : V l D (tyl ac) t k n pc lv (.int (nI m) :: .ref (ad f) :: st) (rM ac o ad r M0) Q := by
  have h29 : f ≠ 29 := fun z => by rw [z, show rt.lookup 29 = some (3, 102) from rfl] at hk; simp at hk
  refine V_zald hd (f := gB r f) ((rM_a hA (rt_look hk)).trans (by unfold rcl; rw [if_neg h29]; rfl)) (vp_in_nI hm hN) ?_
  rw [nI_clamp (Nat.lt_trans hm hN)]
  exact h
theorem VR_lald (hA : rAD o ad) {m : Nat} (hd : decode t.2.1 pc = .ok (.laload, 1)) (hm : m < 102) (h : V l D (tyl ac) t k n (pc + 1) lv (.long (r.2.2.2 m) :: st) (rM ac o ad r M0) Q) : V l D (tyl ac) t k n pc lv (.int (nI m) :: .ref (ad 29) :: st) (rM ac o ad r M0) Q := by
  refine V_lald hd (f := r.2.2.2) (rM_a hA (q := (29, 3, 102)) (by decide)) (vp_in_nI hm (by decide)) ?_
  rw [nI_clamp (by omega)]
  exact h
theorem VR_iast (hA : rAD o ad) {f N m : Nat} {x : Int32} (hd : decode t.2.1 pc = .ok (.iastore, 1)) (hk : rt.lookup f = some (0, N)) (hm : m < N) (hN : N < 2 ^ 31) (h : V l D (tyl ac) t k n (pc + 1) lv st (rM ac o ad (sB r f (upd (gB r f) m x)) M0) Q) : V l D (tyl ac) t k n pc lv (.int x :: .int (nI m) :: .ref (ad f) :: st) (rM ac o ad r M0) Q := by
  have h29 : f ≠ 29 := fun z => by rw [z, show rt.lookup 29 = some (3, 102) from rfl] at hk; simp at hk
  refine V_iast hd (f := gB r f) ((rM_a hA (rt_look hk)).trans (by unfold rcl; rw [if_neg h29]; rfl)) (vp_in_nI hm hN) ?_
  rw [nI_clamp (Nat.lt_trans hm hN), rM_sB hA hk h29]
  exact h
theorem VR_bast (hA : rAD o ad) {f N m : Nat} {x : Int32} (hd : decode t.2.1 pc = .ok (.bastore, 1)) (hk : rt.lookup f = some (1, N)) (hm : m < N) (hN : N < 2 ^ 31) (h : V l D (tyl ac) t k n (pc + 1) lv st (rM ac o ad (sB r f (upd (gB r f) m (vp_nar .byte x))) M0) Q) : V l D (tyl ac) t k n pc lv (.int x :: .int (nI m) :: .ref (ad f) :: st) (rM ac o ad r M0) Q := by
  have h29 : f ≠ 29 := fun z => by rw [z, show rt.lookup 29 = some (3, 102) from rfl] at hk; simp at hk
  refine V_bast hd (f := gB r f) ((rM_a hA (rt_look hk)).trans (by unfold rcl; rw [if_neg h29]; rfl)) (vp_in_nI hm hN) ?_
  rw [nI_clamp (Nat.lt_trans hm hN), rM_sB hA hk h29]
  exact h
theorem VR_zast (hA : rAD o ad) {f N m : Nat} {x : Int32} (hd : decode t.2.1 pc = .ok (.bastore, 1)) (hk : rt.lookup f = some (2, N)) (hm : m < N) (hN : N < 2 ^ 31) (h : V l D (tyl ac) t k n (pc + 1) lv st (rM ac o ad (sB r f (upd (gB r f) m (vp_nar .boolean x))) M0) Q) : V l D (tyl ac) t k n pc lv (.int x :: .int (nI m) :: .ref (ad f) :: st) (rM ac o ad r M0) Q := by
  have h29 : f ≠ 29 := fun z => by rw [z, show rt.lookup 29 = some (3, 102) from rfl] at hk; simp at hk
  refine V_zast hd (f := gB r f) ((rM_a hA (rt_look hk)).trans (by unfold rcl; rw [if_neg h29]; rfl)) (vp_in_nI hm hN) ?_
  rw [nI_clamp (Nat.lt_trans hm hN), rM_sB hA hk h29]
  exact h
theorem VR_last (hA : rAD o ad) {m : Nat} {x : Int64} (hd : decode t.2.1 pc = .ok (.lastore, 1)) (hm : m < 102) (h : V l D (tyl ac) t k n (pc + 1) lv st (rM ac o ad (sL r (vp_updL r.2.2.2 m x)) M0) Q) : V l D (tyl ac) t k n pc lv (.long x :: .int (nI m) :: .ref (ad 29) :: st) (rM ac o ad r M0) Q := by
  refine V_last hd (f := r.2.2.2) (rM_a hA (q := (29, 3, 102)) (by decide)) (vp_in_nI hm (by decide)) ?_
  rw [nI_clamp (by omega), rM_sL hA]
  exact h
theorem VR_call {i na : Nat} {t' : MT} {As rest : List Value} {k' n' k2 n2 : Nat} {Q' : Option Value → MP → Prop} (hd : decode t.2.1 pc = .ok (.invokevirtual i, 3)) (ok : OKV t.1.cls i t' na) (hR : rmf t t') (hcl : t'.1.cls = R_Mod) (hna : As.length = na) (hst : st = As.reverse ++ .ref o :: rest) (hW9 : (rest.map fun v => v.category).sum ≤ 8) (hk' : k = k' + k2) (hn' : n = n' + n2) (ct : Ct l D (tyl ac) t' k2 n2 (.ref o :: As) (rM ac o ad r M0) Q') (h : ∀ x M', Q' x M' → V l D (tyl ac) t k' n' (pc + 3) lv (x.toList ++ rest) M' Q) : V l D (tyl ac) t k n pc lv st (rM ac o ad r M0) Q := V_callV (T := T_Mod) (N := 34) rM_o (by rw [hcl]; rfl) hd ok hR hna hst hW9 hk' hn' ct h
end VR
