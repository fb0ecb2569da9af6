/-! Arrays.copyOf over bytes; Bytes.add -/
section CP
variable {l : Launch} {D : va_G} {ac : Nat → ClassId} {t : MT} {k n pc : Nat} {lv : List (Nat × Value)} {st : List Value} {M : MP} {Q : Option Value → MP → Prop}
theorem V_mini {i : Nat} {x y : Int32} (hd : decode t.2.1 pc = .ok (.invokestatic i, 3)) (h1 : Cond.methodLink t.1.cls i Lib.Math.min.name ∈ gw) (h2 : Cond.static Lib.Math.min.name ∈ gw) (h3 : Cond.initialized "java/lang/Math" ∈ gw) (h4 : Cond.code Lib.Math.min.name Lib.Math.min.code 2 (some .int) ∈ gw) (hfr : 1 ≤ t.2.2.2.2.1) (hlo : (st.map fun v => v.category).sum + 13 ≤ t.2.2.2.2.2) (h : V l D (tyl ac) t k n (pc + 3) lv (.int (if y < x then y else x) :: st) M Q) : V l D (tyl ac) t k n pc lv (.int y :: .int x :: st) M Q := fun A p e s m args below meth c C k0 n0 H locs cells slots ls hM hS hl hk hn => va_mmin C.1.1 C.1.2.1 (C.1.2.2.1.trans hl.1.symm) C.1.2.2.2.1 (gw_ts C.1.2.2.2.2 h1) (gw_ts C.1.2.2.2.2 h2) (gw_ts C.1.2.2.2.2 h3) (gw_ts C.1.2.2.2.2 h4) hfr hlo (show cells ≤ k0 by omega) (show slots ≤ n0 by omega) hd (h A p e s m args below meth c C k0 n0 H locs cells slots ls hM hS hl hk hn)
theorem V_copyb {i a0 a1 N0 N1 : Nat} {f g : Nat → Int32} {sp dp x : Int32} (hd : decode t.2.1 pc = .ok (.invokestatic i, 3)) (h1 : Cond.methodLink t.1.cls i arraycopyName ∈ gw) (h2 : Cond.native arraycopyName ∈ gw) (h3 : Cond.static arraycopyName ∈ gw) (h4 : Cond.initialized "java/lang/System" ∈ gw) (ha0 : M a0 = some (.inl (ac 1, N0, .inl f))) (ha1 : M a1 = some (.inl (ac 1, N1, .inl g))) (q1 : ¬ sp < 0) (q2 : ¬ dp < 0) (q3 : ¬ x < 0) (q4 : sp.toNatClampNeg + x.toNatClampNeg ≤ N0) (q5 : dp.toNatClampNeg + x.toNatClampNeg ≤ N1) (hfit : ∀ j, j < x.toNatClampNeg → fits .byte (.int (f (sp.toNatClampNeg + j))) = true) (hfr : 1 ≤ t.2.2.2.2.1) (hlo : (st.map fun v => v.category).sum + (nativeFrameWords "java/lang/System" "arraycopy" 5 + 11) ≤ t.2.2.2.2.2) (h : V l D (tyl ac) t k n (pc + 3) lv st (mu M a1 (.inl (ac 1, N1, .inl (va_cpy f g sp.toNatClampNeg dp.toNatClampNeg x.toNatClampNeg)))) Q) : V l D (tyl ac) t k n pc lv (.int x :: .int dp :: .ref a1 :: .int sp :: .ref a0 :: st) M Q := fun A p e s m args below meth c C k0 n0 H locs cells slots ls hM hS hl hk hn => by
  obtain ⟨ws, j, j2, hP, hD, hj, hj2, hb⟩ := mw_open2 hM ha1 ha0
  exact va_copyi C.1.1 C.1.2.1 (C.1.2.2.1.trans hl.1.symm) C.1.2.2.2.1 (gw_ts C.1.2.2.2.2 h1) (gw_ts C.1.2.2.2.2 h2) (gw_ts C.1.2.2.2.2 h3) (gw_ts C.1.2.2.2.2 h4) C.2.2.2.2.1.1 hP hD hS j2 j 1 1 hj2 hj rfl rfl rfl q1 q2 q3 q4 q5 hfit hfr hlo hd (fun H1 locs1 hP1 hD1 hS1 => h A p e s m args below meth c C k0 n0 H1 locs1 cells slots ls (hb _ H1 hP1 hD1) hS1 hl hk hn)
end CP
abbrev b_Arr_copyOf : ByteArray := prog_21_method_121_code
def y_Arr_copyOf : MethodName := ⟨"java/util/Arrays", "copyOf", "([BI)[B"⟩
abbrev t_Arr_copyOf : MT := (y_Arr_copyOf, b_Arr_copyOf, 3, some (.array .byte), 1, 18)
theorem d_Arr_copyOf_0 : decode b_Arr_copyOf 0 = .ok (.iload_n 1, 1) := by decide +kernel
theorem d_Arr_copyOf_1 : decode b_Arr_copyOf 1 = .ok (.aload_n 0, 1) := by decide +kernel
theorem d_Arr_copyOf_2 : decode b_Arr_copyOf 2 = .ok (.arraylength, 1) := by decide +kernel
theorem d_Arr_copyOf_3 : decode b_Arr_copyOf 3 = .ok (.if_icmp .ne 11, 3) := by decide +kernel
theorem d_Arr_copyOf_14 : decode b_Arr_copyOf 14 = .ok (.iload_n 1, 1) := by decide +kernel
theorem d_Arr_copyOf_15 : decode b_Arr_copyOf 15 = .ok (.newarray .byte, 2) := by decide +kernel
theorem d_Arr_copyOf_17 : decode b_Arr_copyOf 17 = .ok (.astore_n 2, 1) := by decide +kernel
theorem d_Arr_copyOf_18 : decode b_Arr_copyOf 18 = .ok (.aload_n 0, 1) := by decide +kernel
theorem d_Arr_copyOf_19 : decode b_Arr_copyOf 19 = .ok (.iconst 0, 1) := by decide +kernel
theorem d_Arr_copyOf_20 : decode b_Arr_copyOf 20 = .ok (.aload_n 2, 1) := by decide +kernel
theorem d_Arr_copyOf_21 : decode b_Arr_copyOf 21 = .ok (.iconst 0, 1) := by decide +kernel
theorem d_Arr_copyOf_22 : decode b_Arr_copyOf 22 = .ok (.aload_n 0, 1) := by decide +kernel
theorem d_Arr_copyOf_23 : decode b_Arr_copyOf 23 = .ok (.arraylength, 1) := by decide +kernel
theorem d_Arr_copyOf_24 : decode b_Arr_copyOf 24 = .ok (.iload_n 1, 1) := by decide +kernel
theorem d_Arr_copyOf_25 : decode b_Arr_copyOf 25 = .ok (.invokestatic 304, 3) := by decide +kernel
theorem d_Arr_copyOf_28 : decode b_Arr_copyOf 28 = .ok (.invokestatic 150, 3) := by decide +kernel
theorem d_Arr_copyOf_31 : decode b_Arr_copyOf 31 = .ok (.aload_n 2, 1) := by decide +kernel
theorem d_Arr_copyOf_32 : decode b_Arr_copyOf 32 = .ok (.areturn, 1) := by decide +kernel
theorem cp_1 : Cond.methodLink "java/util/Arrays" 304 Lib.Math.min.name ∈ gw := gw_in 561 (by decide +kernel) (by decide +kernel)
theorem cp_2 : Cond.static Lib.Math.min.name ∈ gw := gw_in 562 (by decide +kernel) (by decide +kernel)
theorem cp_3 : Cond.code Lib.Math.min.name Lib.Math.min.code 2 (some .int) ∈ gw := gw_in 563 (by decide +kernel) (by decide +kernel)
theorem cp_4 : Cond.methodLink "java/util/Arrays" 150 arraycopyName ∈ gw := gw_in 564 (by decide +kernel) (by decide +kernel)
theorem cp_5 : Cond.static arraycopyName ∈ gw := gw_in 565 (by decide +kernel) (by decide +kernel)
theorem cp_6 : Cond.native arraycopyName ∈ gw := gw_in 566 (by decide +kernel) (by decide +kernel)
theorem cp_7 : Cond.initialized "java/lang/System" ∈ gw := gw_in 18 (by decide +kernel) (by decide +kernel)
theorem c_Byt_19 : OKS R_Byt 19 t_Arr_copyOf 2 := ⟨⟨gw_in 553 (by decide +kernel) (by decide +kernel), gw_in 17 (by decide +kernel) (by decide +kernel), by decide +kernel, by decide +kernel, by decide +kernel⟩, gw_in 551 (by decide +kernel) (by decide +kernel), gw_in 552 (by decide +kernel) (by decide +kernel)⟩
theorem mu_mu (M : MP) (a : Nat) (e e' : va_E) : mu (mu M a e) a e' = mu M a e' := bx_uu M a _ _
set_option maxRecDepth 100000 in
set_option maxHeartbeats 4000000 in
theorem Arr_copyOf {l : Launch} {D : va_G} {ac : Nat → ClassId} {M : MP} {a n m : Nat} {f : Nat → Int32} (ha : M a = some (.inl (ac 1, n, .inl f))) (hnm1 : n < m) (hm : m ≤ 60000000) (hfit : ∀ j, j < n → fits .byte (.int (f j)) = true) : Ct l D (tyl ac) t_Arr_copyOf 1 m [.ref a, .int (nI m)] M (fun x M' => ∃ q, M q = none ∧ x = some (.ref q) ∧ M' = mu M q (.inl (ac 1, m, .inl (va_cpy f (fun _ => 0) 0 0 n)))) := by
  refine Ct_of (by decide) (Nat.le_of_ble_eq_true rfl) ?_
  have hnm : n ≤ m := Nat.le_of_lt hnm1
  refine V_iload_n d_Arr_copyOf_0 rfl ?_
  refine V_ar_n d_Arr_copyOf_1 rfl ?_
  refine V_alen (j := 1) (v := nI n) d_Arr_copyOf_2 rfl ha rfl ?_
  refine V_icmp_ne 14 d_Arr_copyOf_3 (by decide) (fun _ => ?_) (fun h3 => absurd (show ¬ nI m = nI n from fun z => absurd ((nI_eq (by omega) (by omega)).mp z) (by omega)) h3)
  refine V_iload_n d_Arr_copyOf_14 rfl ?_
  refine V_newb (N := m) (k' := 0) (n' := 0) d_Arr_copyOf_15 aw_byte (nI_pos (by omega)) (nI_clamp (by omega)) (by omega) rfl (by omega) (fun q hq => ?_)
  have hqa : a ≠ q := fun z => by rw [← z, ha] at hq; cases hq
  refine V_astore_n (lv' := [(2, .ref q), (0, .ref a), (1, .int (nI m))]) d_Arr_copyOf_17 (isr_ref _) (by decide) rfl ?_
  refine V_ar_n d_Arr_copyOf_18 rfl ?_
  refine V_iconst (v := nI 0) d_Arr_copyOf_19 (by decide) ?_
  refine V_ar_n d_Arr_copyOf_20 rfl ?_
  refine V_iconst (v := nI 0) d_Arr_copyOf_21 (by decide) ?_
  refine V_ar_n d_Arr_copyOf_22 rfl ?_
  refine V_alen (j := 1) (v := nI n) d_Arr_copyOf_23 rfl ((mu_ne _ _ hqa).trans ha) rfl ?_
  refine V_iload_n d_Arr_copyOf_24 rfl ?_
  refine V_mini d_Arr_copyOf_25 cp_1 cp_2 mx0 cp_3 (by decide) (Nat.le_of_ble_eq_true rfl) ?_
  refine V_eqi (show _ = nI n from if_neg (nI_nlt hnm (by omega))) ?_
  have c0 : (nI 0).toNatClampNeg = 0 := nI_clamp (by decide)
  have cn : (nI n).toNatClampNeg = n := nI_clamp (by omega)
  refine V_copyb d_Arr_copyOf_28 cp_4 cp_6 cp_5 cp_7 ((mu_ne _ _ hqa).trans ha) (mu_self _ _ _) (by decide) (by decide) (nI_pos (by omega)) (by rw [c0, cn]; omega) (by rw [c0, cn]; omega) (fun j hj => by rw [c0, Nat.zero_add]; rw [cn] at hj; exact hfit j hj) (by decide) (Nat.le_of_ble_eq_true rfl) ?_
  refine V_ar_n d_Arr_copyOf_31 rfl ?_
  rw [c0, cn]
  exact V_areturn d_Arr_copyOf_32 rfl (Or.inr ⟨_, rfl⟩) (isr_ref _) ⟨q, hq, rfl, by rw [mu_mu]⟩
/-- c bytes of v from place n on -/
def bwr : Nat → (Nat → Int32) → Nat → Int32 → (Nat → Int32)
  | 0, f, _, _ => f
  | m + 1, f, n, v => bwr m (upd f n (byt v m)) (n + 1) v
def fitb (f : Nat → Int32) : Prop := ∀ j, fits .byte (.int (f j)) = true
theorem fitb_up {f : Nat → Int32} (h : fitb f) (n : Nat) (x : Int32) : fitb (upd f n x.toInt8.toInt32) := by
  intro j
  unfold upd
  split
  · exact pk_fb x
  · exact h j
theorem bwr_fit : ∀ (m : Nat) {f : Nat → Int32} (n : Nat) (v : Int32), fitb f → fitb (bwr m f n v) := by
  intro m
  induction m with
  | zero => intro f n v h; exact h
  | succ m ih => intro f n v h; exact ih _ _ (fitb_up h n _)
/-- the file's bytes: the object at place p says where the row is (in N) and how long the file is -/
def byO (ra n : Nat) : va_E := .inr (2, [.ref ra, .int (nI n)])
def byR (ac : Nat → ClassId) (cap : Nat) (f : Nat → Int32) : va_E := .inl (ac 1, cap, .inl f)
/-- N' is N with the row ra's content replaced, perhaps at another address ra' -/
def rowN (N : MP) (ra : Nat) (N' : MP) (ra' : Nat) : Prop := ∀ (a : Nat) (e : va_E), a ≠ ra → N a = some e → a ≠ ra' ∧ N' a = some e
theorem rowN_rf (N : MP) (ra : Nat) (e : va_E) : rowN N ra (mu N ra e) ra := fun a x ha hx => ⟨ha, by rw [mu_ne _ _ ha]; exact hx⟩
theorem rowN_tr {N N' N2 : MP} {ra rb rc : Nat} (h1 : rowN N ra N' rb) (h2 : rowN N' rb N2 rc) : rowN N ra N2 rc := fun a e ha hx => by
  obtain ⟨k1, k2⟩ := h1 a e ha hx
  exact h2 a e k1 k2
def bcap (cap n c : Nat) : Nat := if cap - n < c then 2 * cap else cap
def bfun (cap n c : Nat) (f : Nat → Int32) : Nat → Int32 := if cap - n < c then va_cpy f (fun _ => 0) 0 0 cap else f
def bcel (cap n c : Nat) : Nat := if cap - n < c then 1 else 0
def bslo (cap n c : Nat) : Nat := if cap - n < c then 2 * cap else 0
theorem mu_up {M : MP} {a : Nat} {e : va_E} (h : M a = some e) : mu M a e = M := by
  funext b
  by_cases hb : b = a
  · subst hb; rw [mu_self, h]
  · rw [mu_ne _ _ hb]
set_option maxRecDepth 100000 in
set_option maxHeartbeats 4000000 in
theorem Byt_add_36 {l : Launch} {D : va_G} {ac : Nat → ClassId} {T : List Nat} {adr : Nat → Nat} {p c ra cap : Nat} {v : Int32} (hp : p ∈ T) (hcap : cap < 2 ^ 31) : ∀ (m n : Nat) (C : Nat → va_E) (N : MP) (f : Nat → Int32), pOK T adr N → C p = byO ra n → N ra = some (byR ac cap f) → m ≤ 4 ∧ n + m ≤ cap → V l D (tyl ac) t_Byt_add 0 0 36 [(3, .int (nI m - 1)), (0, .ref (adr p)), (1, .int v), (2, .int (nI c))] [] (pM T adr C N) (PQ none (pM T adr (va_up C p (byO ra (n + m))) (mu N ra (byR ac cap (bwr m f n v))))) := by
  intro m
  induction m with
  | zero =>
    intro n C N f h0 hC hR hb
    refine V_iload_n d_Byt_add_36 rfl ?_
    refine V_if_lt 72 d_Byt_add_37 (by decide) (fun h37 => ?_) (fun h37 => ?_)
    · exact V_return d_Byt_add_72 rfl ⟨rfl, by rw [upup C (show C p = byO ra (n + 0) from hC)]; show _ = pM T adr C (mu N ra (byR ac cap f)); rw [show mu N ra (byR ac cap f) = N from mu_up hR]⟩
    · exact absurd (by decide) h37
  | succ m ih =>
    intro n C N f h0 hC hR hb
    rw [nI_pred m]
    refine V_iload_n d_Byt_add_36 rfl ?_
    refine V_if_lt 72 d_Byt_add_37 (by decide) (fun h37 => ?_) (fun h37 => ?_)
    · exact absurd h37 (nI_pos (by omega))
    · refine V_aload_n d_Byt_add_40 rfl (isr_ref _) ?_
      refine VP_get h0 hp d_Byt_add_41 f_Byt_9 (hC) rfl ?_
      refine V_aload_n d_Byt_add_44 rfl (isr_ref _) ?_
      refine VP_get h0 hp d_Byt_add_45 f_Byt_15 (hC) rfl ?_
      refine V_iload_n d_Byt_add_48 rfl ?_
      refine V_bipush (v := nI 8) d_Byt_add_49 (by decide) ?_
      refine V_iload_n d_Byt_add_51 rfl ?_
      refine V_imul d_Byt_add_52 ?_
      refine V_eqi (pk_mul 8 m) ?_
      refine V_ishr d_Byt_add_53 ?_
      refine V_i2b d_Byt_add_54 ?_
      refine V_bast d_Byt_add_55 (pM_n h0 hR) (vp_in_nI (by omega) (by omega)) ?_
      rw [pM_mu (pOK_ne h0 hR), nI_clamp (by omega), pk_vb]
      have h0b := pOK_mu h0 (pOK_ne h0 hR) (byR ac cap (upd f n (byt v m)))
      have h0 := h0b
      refine V_aload_n d_Byt_add_56 rfl (isr_ref _) ?_
      refine V_dup d_Byt_add_57 rfl ?_
      refine VP_get h0 hp d_Byt_add_58 f_Byt_15 (hC) rfl ?_
      refine V_iconst (v := 1) d_Byt_add_61 (by decide) ?_
      refine V_iadd d_Byt_add_62 ?_
      refine V_eqi (nI_1 n) ?_
      refine VP_put h0 hp d_Byt_add_63 f_Byt_15 (hC) (rfl) (rfl) (Nat.le_of_ble_eq_true rfl) ?_
      refine V_iinc (v := nI m - 1) (lv' := [(3, .int (nI m - 1)), (0, .ref (adr p)), (1, .int v), (2, .int (nI c))]) 0 d_Byt_add_66 rfl (sub_ad _ (by decide)) (by decide) rfl ?_
      refine V_goto 36 d_Byt_add_69 (by decide) ?_
      have hs := ih (n + 1) (va_up C p (byO ra (n + 1))) (mu N ra (byR ac cap (upd f n (byt v m)))) (upd f n (byt v m)) h0b (va_up_self _ _ _) (mu_self _ _ _) (by omega)
      rw [upuf, mu_mu, show n + 1 + m = n + (m + 1) by omega] at hs
      exact hs
theorem V_post {l : Launch} {D : va_G} {tys : TY} {t : MT} {k n pc : Nat} {lv : List (Nat × Value)} {st : List Value} {M : MP} {Q Q' : Option Value → MP → Prop} (hq : ∀ x M', Q x M' → Q' x M') (h : V l D tys t k n pc lv st M Q) : V l D tys t k n pc lv st M Q' := fun A p e s m args below meth c C k0 n0 H locs cells slots ls hM hS hl hk hn => by
  intro T hT X
  obtain ⟨u, h1, hz⟩ := h A p e s m args below meth c C k0 n0 H locs cells slots ls hM hS hl hk hn T hT X
  rcases hz with ⟨o, h2, h3, ⟨⟨⟨r, M', e1, e2, e3⟩, e4⟩, e9⟩, e5⟩ | ⟨z, a, b, M', L, ce, g1, g2, g3, g4, g5, g6, g7⟩
  · exact ⟨u, h1, Or.inl ⟨o, h2, h3, ⟨⟨⟨r, M', e1, hq r M' e2, e3⟩, e4⟩, e9⟩, e5⟩⟩
  · exact ⟨u, h1, Or.inr ⟨z, a, b, M', L, ce, g1, g2, g3, g4, g5, hq _ M' g6, g7⟩⟩
/-- what Bytes.add comes to -/
def addQ (ac : Nat → ClassId) (T : List Nat) (adr : Nat → Nat) (C : Nat → va_E) (N : MP) (p ra n cap : Nat) (f : Nat → Int32) (v : Int32) (c : Nat) : Option Value → MP → Prop := fun x M' => x = none ∧ ∃ (ra' : Nat) (N' : MP), pOK T adr N' ∧ N' ra' = some (byR ac (bcap cap n c) (bwr c (bfun cap n c f) n v)) ∧ rowN N ra N' ra' ∧ M' = pM T adr (va_up C p (byO ra' (n + c))) N'
set_option maxRecDepth 100000 in
set_option maxHeartbeats 4000000 in
theorem Byt_add {l : Launch} {D : va_G} {ac : Nat → ClassId} {T : List Nat} {adr : Nat → Nat} {C : Nat → va_E} {N : MP} (h0 : pOK T adr N) {p c ra n cap : Nat} {f : Nat → Int32} (hp : p ∈ T) (hC : C p = byO ra n) (hR : N ra = some (byR ac cap f)) (hfit : fitb f) (hn : n ≤ cap) (hc : c ≤ 4) (hc4 : 4 ≤ cap) (hcap : cap ≤ 30000000) (v : Int32) : Ct l D (tyl ac) t_Byt_add (bcel cap n c) (bslo cap n c) [.ref (adr p), .int v, .int (nI c)] (pM T adr C N) (addQ ac T adr C N p ra n cap f v c) := by
  refine Ct_of (by decide) (Nat.le_of_ble_eq_true rfl) ?_
  have key : ∀ (k9 n9 : Nat) (C1 : Nat → va_E) (N1 : MP) (ra1 cap1 : Nat) (f1 : Nat → Int32), pOK T adr N1 → C1 p = byO ra1 n → N1 ra1 = some (byR ac cap1 f1) → n + c ≤ cap1 → cap1 < 2 ^ 31 → V l D (tyl ac) t_Byt_add k9 n9 32 [(0, .ref (adr p)), (1, .int v), (2, .int (nI c))] [] (pM T adr C1 N1) (PQ none (pM T adr (va_up C1 p (byO ra1 (n + c))) (mu N1 ra1 (byR ac cap1 (bwr c f1 n v))))) := by
    intro k9 n9 C1 N1 ra1 cap1 f1 g0 g1 g2 g3 g4
    refine V_iload_n d_Byt_add_32 rfl ?_
    refine V_iconst (v := 1) d_Byt_add_33 (by decide) ?_
    refine V_isub d_Byt_add_34 ?_
    refine V_istore_n (lv' := [(3, .int (nI c - 1)), (0, .ref (adr p)), (1, .int v), (2, .int (nI c))]) d_Byt_add_35 (by decide) rfl ?_
    exact V_less (Nat.zero_le _) (Nat.zero_le _) (Byt_add_36 hp g4 c n C1 N1 f1 g0 g1 g2 ⟨hc, g3⟩)
  refine V_aload_n d_Byt_add_0 rfl (isr_ref _) ?_
  refine VP_get h0 hp d_Byt_add_1 f_Byt_9 (hC) rfl ?_
  refine V_alen (j := 1) (v := nI cap) d_Byt_add_4 rfl (pM_n h0 hR) rfl ?_
  refine V_aload_n d_Byt_add_5 rfl (isr_ref _) ?_
  refine VP_get h0 hp d_Byt_add_6 f_Byt_15 (hC) rfl ?_
  refine V_isub d_Byt_add_9 ?_
  refine V_eqi (pk_sub hn) ?_
  refine V_iload_n d_Byt_add_10 rfl ?_
  refine V_icmp_ge 32 d_Byt_add_11 (by decide) (fun h11 => ?_) (fun h11 => ?_)
  · have hg : ¬ cap - n < c := fun z => absurd h11 (nI_ge z (by omega))
    have hs := key (bcel cap n c) (bslo cap n c) C N ra cap f h0 hC hR (by omega) (by omega)
    refine V_post (fun x M1 hq => ?_) hs
    obtain ⟨rfl, rfl⟩ := hq
    refine ⟨rfl, ra, mu N ra (byR ac (bcap cap n c) (bwr c (bfun cap n c f) n v)), pOK_mu h0 (pOK_ne h0 hR) _, mu_self _ _ _, rowN_rf N ra _, ?_⟩
    rw [bcap, bfun, if_neg hg, if_neg hg]
  · have hg : cap - n < c := by
      rcases Nat.lt_or_ge (cap - n) c with z | z
      · exact z
      · exact absurd (nI_le z (by omega)) h11
    rw [bcel, bslo, if_pos hg, if_pos hg]
    refine V_aload_n d_Byt_add_14 rfl (isr_ref _) ?_
    refine V_aload_n d_Byt_add_15 rfl (isr_ref _) ?_
    refine VP_get h0 hp d_Byt_add_16 f_Byt_9 (hC) rfl ?_
    refine V_iconst (v := nI 2) d_Byt_add_19 (by decide) ?_
    refine V_aload_n d_Byt_add_20 rfl (isr_ref _) ?_
    refine VP_get h0 hp d_Byt_add_21 f_Byt_9 (hC) rfl ?_
    refine V_alen (j := 1) (v := nI cap) d_Byt_add_24 rfl (pM_n h0 hR) rfl ?_
    refine V_imul d_Byt_add_25 ?_
    refine V_eqi (pk_mul 2 cap) ?_
    refine V_callS (As := [.ref ra, .int (nI (2 * cap))]) (rest := [.ref (adr p)]) (k' := 0) (n' := 0) d_Byt_add_26 c_Byt_19 ⟨by decide, by decide⟩ rfl rfl (Nat.le_of_ble_eq_true rfl) (by omega) (by omega) (Arr_copyOf (pM_n h0 hR) (by omega) (by omega) (fun j _ => hfit j)) (fun x M1 hq => ?_)
    obtain ⟨q, hq1, rfl, rfl⟩ := hq
    obtain ⟨hqT, hqN⟩ := pM_none h0 hq1
    rw [pM_mu hqT]
    have h0q := pOK_mu h0 hqT (byR ac (2 * cap) (va_cpy f (fun _ => 0) 0 0 cap))
    refine VP_put h0q hp d_Byt_add_29 f_Byt_9 hC rfl rfl (Nat.le_of_ble_eq_true rfl) ?_
    have hs := key 0 0 (va_up C p (byO q n)) (mu N q (byR ac (2 * cap) (va_cpy f (fun _ => 0) 0 0 cap))) q (2 * cap) (va_cpy f (fun _ => 0) 0 0 cap) h0q (va_up_self _ _ _) (mu_self _ _ _) (by omega) (by omega)
    refine V_post (fun x M1 hq => ?_) hs
    obtain ⟨rfl, rfl⟩ := hq
    refine ⟨rfl, q, mu N q (byR ac (bcap cap n c) (bwr c (bfun cap n c f) n v)), pOK_mu h0 hqT _, mu_self _ _ _, fun a e _ hx => ?_, ?_⟩
    · have haq : a ≠ q := fun z => by rw [z, hqN] at hx; cases hx
      exact ⟨haq, by rw [mu_ne _ _ haq]; exact hx⟩
    · rw [bcap, bfun, if_pos hg, if_pos hg, upuf, mu_mu]
