/-! PageFileLaw.ship, PageFileLaw.finish -/
theorem cat_s1 (l : Launch) : CAT l t_Law_ship 4 12 true := by
  intro D tys A p e s m args below meth c R T locs cells slots ls rest a ce C X h1 h2 h3
  have he : ehd c = [(0, 9, 12, 13), (0, 9, 15, 15)] := C.2.2.2.2.2.2
  unfold ehd at he
  obtain ⟨x, tl, e1, e2, e3⟩ := List.map_eq_cons_iff.mp he
  simp only [Prod.mk.injEq] at e2
  have hc := catch1 X C.1.2.2.2.1 (g := F0 m 4 ls rest) rfl h1 h3 e1 (by show covers x 4 = true; simp [covers, e2.1, e2.2.1]) (by rw [e2.2.2.2]; decide) (C := thrC true) (by rw [e2.2.2.2]; exact C.1.2.2.2.2 _ lwI) h2
  rw [e2.2.2.1] at hc
  exact hc
theorem cat_s2 (l : Launch) : CAT l t_Law_ship 4 15 false := by
  intro D tys A p e s m args below meth c R T locs cells slots ls rest a ce C X h1 h2 h3
  have he : ehd c = [(0, 9, 12, 13), (0, 9, 15, 15)] := C.2.2.2.2.2.2
  unfold ehd at he
  obtain ⟨x, tl, e1, e2, e3⟩ := List.map_eq_cons_iff.mp he
  obtain ⟨y, tl2, e4, e5, e6⟩ := List.map_eq_cons_iff.mp e3
  subst e4
  simp only [Prod.mk.injEq] at e2 e5
  have hc := catch2 X C.1.2.2.2.1 (g := F0 m 4 ls rest) rfl h1 h3 e1 (by show covers x 4 = true; simp [covers, e2.1, e2.2.1]) (by rw [e2.2.2.2]; decide) (by show covers y 4 = true; simp [covers, e5.1, e5.2.1]) (by rw [e5.2.2.2]; decide) (C := thrC false) (C2 := thrC true) (by rw [e2.2.2.2]; exact C.1.2.2.2.2 _ lwI) (by rw [e5.2.2.2]; exact C.1.2.2.2.2 _ lwU) h2 (fun c2 hc2 => AC_N C.2.2.2.2.2.1 ce.cls c2 h2 hc2)
  rw [e5.2.2.1] at hc
  exact hc
theorem cat_f (l : Launch) : CAT l t_Law_finish 3 11 true := by
  intro D tys A p e s m args below meth c R T locs cells slots ls rest a ce C X h1 h2 h3
  have he : ehd c = [(0, 8, 11, 13)] := C.2.2.2.2.2.2
  unfold ehd at he
  obtain ⟨x, tl, e1, e2, e3⟩ := List.map_eq_cons_iff.mp he
  simp only [Prod.mk.injEq] at e2
  have hc := catch1 X C.1.2.2.2.1 (g := F0 m 3 ls rest) rfl h1 h3 e1 (by show covers x 3 = true; simp [covers, e2.1, e2.2.1]) (by rw [e2.2.2.2]; decide) (C := thrC true) (by rw [e2.2.2.2]; exact C.1.2.2.2.2 _ lwI) h2
  rw [e2.2.2.1] at hc
  exact hc
abbrev oLg (ac : Nat → ClassId) (f : Nat → Int64) : va_E := .inl (ac 3, 1, .inr (.inl f))
/-- what law.ship and law.finish answer: 0 and the answer kept, or which throw -/
def lsQ (ac : Nat → ClassId) (ol : Nat) (Q' : Option Value → MP → Prop) : Option Value → MP → Prop := fun r M' => (∃ v M1 f, Q' (some (.int v)) M1 ∧ M1 ol = some (oLg ac f) ∧ r = some (.int 0) ∧ M' = mu M1 ol (oLg ac (vp_updL f 0 v.toInt64))) ∨ (Q' none M' ∧ r = some (.int 1)) ∨ (Q' (some .null) M' ∧ r = some (.int 2))
set_option maxRecDepth 100000 in
set_option maxHeartbeats 4000000 in
theorem Law_ship {l : Launch} {D : va_G} {ac : Nat → ClassId} {M : MP} {x : Int32} {k n a ol : Nat} {fs : List Value} {Q' : Option Value → MP → Prop} (ha : M a = some (.inr (0, fs))) (hv : V l D (tyl ac) t_PF_ship k n 0 (lv_args 0 [.ref a, .int x]) [] M Q') (ho : ∀ v M', Q' (some (.int v)) M' → ∃ f, M' ol = some (oLg ac f)) : CtW l D (tyl ac) t_Law_ship k n [.ref a, .int x, .ref ol] M (lsQ ac ol Q') := by
  refine CtW_of (by decide) (Nat.le_of_ble_eq_true rfl) ?_
  refine V_aload_n d_Law_ship_0 rfl (isr_ref _) ?_
  refine V_iconst (v := 0) d_Law_ship_1 (by decide) ?_
  refine V_aload_n d_Law_ship_2 rfl (isr_ref _) ?_
  refine V_iload_n d_Law_ship_3 rfl ?_
  refine V_callT (As := [.int x]) (rest := [.int 0, .ref ol]) (k' := 0) (n' := 0) (fun b => if b then 12 else 15) ha rfl d_Law_ship_4 c_Law_7 ⟨by decide, by decide⟩ rfl rfl (Nat.le_of_ble_eq_true rfl) (Nat.zero_add _).symm (Nat.zero_add _).symm (by decide) (Nat.le_of_ble_eq_true rfl) hv (by decide) (by decide) (fun v M' hq => ?_) (fun b M' hq => ?_) (fun b M' a' hq => ?_)
  · obtain ⟨f, hf⟩ := ho v M' hq
    refine V_i2l d_Law_ship_7 ?_
    refine V_last (N := 1) d_Law_ship_8 hf (show ¬ ((0 : Int32) < 0 ∨ 1 ≤ Int32.toNatClampNeg 0) by decide) ?_
    refine V_goto 18 d_Law_ship_9 (by decide) ?_
    refine V_iconst (v := 0) d_Law_ship_18 (by decide) ?_
    exact V_ireturn d_Law_ship_19 rfl (Or.inl ⟨v, M', f, hq, hf, rfl, rfl⟩)
  · cases b
    · exact cat_s2 l
    · exact cat_s1 l
  · cases b
    · refine V_astore_n (lv' := [(3, .ref a'), (0, .ref a), (1, .int x), (2, .ref ol)]) d_Law_ship_15 (isr_ref _) (by decide) rfl ?_
      refine V_iconst (v := 2) d_Law_ship_16 (by decide) ?_
      exact V_ireturn d_Law_ship_17 rfl (Or.inr (Or.inr ⟨hq, rfl⟩))
    · refine V_astore_n (lv' := [(3, .ref a'), (0, .ref a), (1, .int x), (2, .ref ol)]) d_Law_ship_12 (isr_ref _) (by decide) rfl ?_
      refine V_iconst (v := 1) d_Law_ship_13 (by decide) ?_
      exact V_ireturn d_Law_ship_14 rfl (Or.inr (Or.inl ⟨hq, rfl⟩))
set_option maxRecDepth 100000 in
set_option maxHeartbeats 4000000 in
theorem Law_finish {l : Launch} {D : va_G} {ac : Nat → ClassId} {M : MP} {k n a ol : Nat} {fs : List Value} {Q' : Option Value → MP → Prop} (ha : M a = some (.inr (0, fs))) (hv : V l D (tyl ac) t_PF_finish k n 0 (lv_args 0 [.ref a]) [] M Q') (ho : ∀ v M', Q' (some (.int v)) M' → ∃ f, M' ol = some (oLg ac f)) (hn : ∀ M', ¬ Q' (some .null) M') : CtW l D (tyl ac) t_Law_finish k n [.ref a, .ref ol] M (lsQ ac ol Q') := by
  refine CtW_of (by decide) (Nat.le_of_ble_eq_true rfl) ?_
  refine V_aload_n d_Law_finish_0 rfl (isr_ref _) ?_
  refine V_iconst (v := 0) d_Law_finish_1 (by decide) ?_
  refine V_aload_n d_Law_finish_2 rfl (isr_ref _) ?_
  refine V_callT (As := []) (rest := [.int 0, .ref ol]) (k' := 0) (n' := 0) (fun _ => 11) ha rfl d_Law_finish_3 c_Law_17 ⟨by decide, by decide⟩ rfl rfl (Nat.le_of_ble_eq_true rfl) (Nat.zero_add _).symm (Nat.zero_add _).symm (by decide) (Nat.le_of_ble_eq_true rfl) hv (by decide) (by decide) (fun v M' hq => ?_) (fun b M' hq => ?_) (fun b M' a' hq => ?_)
  · obtain ⟨f, hf⟩ := ho v M' hq
    refine V_i2l d_Law_finish_6 ?_
    refine V_last (N := 1) d_Law_finish_7 hf (show ¬ ((0 : Int32) < 0 ∨ 1 ≤ Int32.toNatClampNeg 0) by decide) ?_
    refine V_goto 14 d_Law_finish_8 (by decide) ?_
    refine V_iconst (v := 0) d_Law_finish_14 (by decide) ?_
    exact V_ireturn d_Law_finish_15 rfl (Or.inl ⟨v, M', f, hq, hf, rfl, rfl⟩)
  · cases b
    · exact absurd hq (hn M')
    · exact cat_f l
  · cases b
    · exact absurd hq (hn M')
    · refine V_astore_n (lv' := [(2, .ref a'), (0, .ref a), (1, .ref ol)]) d_Law_finish_11 (isr_ref _) (by decide) rfl ?_
      refine V_iconst (v := 1) d_Law_finish_12 (by decide) ?_
      exact V_ireturn d_Law_finish_13 rfl (Or.inr (Or.inl ⟨hq, rfl⟩))
