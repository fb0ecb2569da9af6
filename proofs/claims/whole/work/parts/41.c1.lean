/-! The class's leaves. -/
abbrev PQ (v : Option Value) (M1 : MP) : Option Value → MP → Prop := fun x M' => x = v ∧ M' = M1
def ifn (x : Int32) : Int32 := if ¬ x < 0 ∧ ¬ 32 ≤ x then 1 else 0
def irg (x : Int32) : Int32 := if ¬ x < 0 ∧ ¬ 8 ≤ x then 1 else 0
def asz (x y z : Int64) : Int32 := if ¬ iszl x = 0 ∧ ¬ iszl y = 0 ∧ ¬ iszl z = 0 then 1 else 0
set_option maxRecDepth 100000 in
set_option maxHeartbeats 4000000 in
theorem PF_isSize {l : Launch} {D : va_G} {ac : Nat → ClassId} (x : Int64) : SCi l D ac t_PF_isSize [.long x] (iszl x) := fun M => by
  refine Ct_of (by decide) (Nat.le_of_ble_eq_true rfl) ?_
  refine V_lload_n d_PF_isSize_0 rfl ?_
  refine V_ldc2 d_PF_isSize_1 k_PF_188 ?_
  refine V_lcmp d_PF_isSize_4 ?_
  refine V_if_lt 20 d_PF_isSize_5 (by decide) (fun h5 => ?_) (fun h5 => ?_)
  · refine V_iconst (v := 0) d_PF_isSize_20 (by decide) ?_
    exact V_zreturn d_PF_isSize_21 rfl nz0 ⟨by rw [iszl, if_neg (fun z => absurd ((lg_cmp_lt _ _).mp h5) (Int64.not_lt.mpr z.1))], rfl⟩
  · refine V_lload_n d_PF_isSize_8 rfl ?_
    refine V_ldc2 d_PF_isSize_9 k_PF_190 ?_
    refine V_lcmp d_PF_isSize_12 ?_
    refine V_if_gt 20 d_PF_isSize_13 (by decide) (fun h13 => ?_) (fun h13 => ?_)
    · refine V_iconst (v := 0) d_PF_isSize_20 (by decide) ?_
      exact V_zreturn d_PF_isSize_21 rfl nz0 ⟨by rw [iszl, if_neg (fun z => absurd ((lg_cmp_gt _ _).mp h13) (Int64.not_lt.mpr z.2))], rfl⟩
    · refine V_iconst (v := 1) d_PF_isSize_16 (by decide) ?_
      refine V_goto 21 d_PF_isSize_17 (by decide) ?_
      exact V_zreturn d_PF_isSize_21 rfl nz1 ⟨by rw [iszl, if_pos ⟨Int64.not_lt.mp (fun z => h5 ((lg_cmp_lt _ _).mpr z)), Int64.not_lt.mp (fun z => h13 ((lg_cmp_gt _ _).mpr z))⟩], rfl⟩
set_option maxRecDepth 100000 in
set_option maxHeartbeats 4000000 in
theorem PF_areSizes {l : Launch} {D : va_G} {ac : Nat → ClassId} (x y z : Int64) : SCi l D ac t_PF_areSizes [.long x, .long y, .long z] (asz x y z) := fun M => by
  refine Ct_of (by decide) (Nat.le_of_ble_eq_true rfl) ?_
  refine V_lload_n d_PF_areSizes_0 rfl ?_
  refine VS_ci1 d_PF_areSizes_1 c_PF_87 (PF_isSize x) ⟨by decide, by decide⟩ (Nat.le_of_ble_eq_true rfl) ?_
  refine V_if_eq 26 d_PF_areSizes_4 (by decide) (fun h4 => ?_) (fun h4 => ?_)
  · refine V_iconst (v := 0) d_PF_areSizes_26 (by decide) ?_
    exact V_zreturn d_PF_areSizes_27 rfl nz0 ⟨by rw [asz, if_neg (fun q => q.1 h4)], rfl⟩
  · refine V_lload_n d_PF_areSizes_7 rfl ?_
    refine VS_ci1 d_PF_areSizes_8 c_PF_87 (PF_isSize y) ⟨by decide, by decide⟩ (Nat.le_of_ble_eq_true rfl) ?_
    refine V_if_eq 26 d_PF_areSizes_11 (by decide) (fun h11 => ?_) (fun h11 => ?_)
    · refine V_iconst (v := 0) d_PF_areSizes_26 (by decide) ?_
      exact V_zreturn d_PF_areSizes_27 rfl nz0 ⟨by rw [asz, if_neg (fun q => q.2.1 h11)], rfl⟩
    · refine V_lload d_PF_areSizes_14 rfl ?_
      refine VS_ci1 d_PF_areSizes_16 c_PF_87 (PF_isSize z) ⟨by decide, by decide⟩ (Nat.le_of_ble_eq_true rfl) ?_
      refine V_if_eq 26 d_PF_areSizes_19 (by decide) (fun h19 => ?_) (fun h19 => ?_)
      · refine V_iconst (v := 0) d_PF_areSizes_26 (by decide) ?_
        exact V_zreturn d_PF_areSizes_27 rfl nz0 ⟨by rw [asz, if_neg (fun q => q.2.2 h19)], rfl⟩
      · refine V_iconst (v := 1) d_PF_areSizes_22 (by decide) ?_
        refine V_goto 27 d_PF_areSizes_23 (by decide) ?_
        exact V_zreturn d_PF_areSizes_27 rfl nz1 ⟨by rw [asz, if_pos ⟨h4, h11, h19⟩], rfl⟩
set_option maxRecDepth 100000 in
set_option maxHeartbeats 4000000 in
theorem PF_isFont {l : Launch} {D : va_G} {ac : Nat → ClassId} (x : Int32) : SCi l D ac t_PF_isFont [.int x] (ifn x) := fun M => by
  refine Ct_of (by decide) (Nat.le_of_ble_eq_true rfl) ?_
  refine V_iload_n d_PF_isFont_0 rfl ?_
  refine V_if_lt 14 d_PF_isFont_1 (by decide) (fun h1 => ?_) (fun h1 => ?_)
  · refine V_iconst (v := 0) d_PF_isFont_14 (by decide) ?_
    exact V_zreturn d_PF_isFont_15 rfl nz0 ⟨by rw [ifn, if_neg (fun q => q.1 h1)], rfl⟩
  · refine V_iload_n d_PF_isFont_4 rfl ?_
    refine V_bipush (v := 32) d_PF_isFont_5 (by decide) ?_
    refine V_icmp_ge 14 d_PF_isFont_7 (by decide) (fun h7 => ?_) (fun h7 => ?_)
    · refine V_iconst (v := 0) d_PF_isFont_14 (by decide) ?_
      exact V_zreturn d_PF_isFont_15 rfl nz0 ⟨by rw [ifn, if_neg (fun q => q.2 h7)], rfl⟩
    · refine V_iconst (v := 1) d_PF_isFont_10 (by decide) ?_
      refine V_goto 15 d_PF_isFont_11 (by decide) ?_
      exact V_zreturn d_PF_isFont_15 rfl nz1 ⟨by rw [ifn, if_pos ⟨h1, h7⟩], rfl⟩
set_option maxRecDepth 100000 in
set_option maxHeartbeats 4000000 in
theorem PF_isRegister {l : Launch} {D : va_G} {ac : Nat → ClassId} (x : Int32) : SCi l D ac t_PF_isRegister [.int x] (irg x) := fun M => by
  refine Ct_of (by decide) (Nat.le_of_ble_eq_true rfl) ?_
  refine V_iload_n d_PF_isRegister_0 rfl ?_
  refine V_if_lt 14 d_PF_isRegister_1 (by decide) (fun h1 => ?_) (fun h1 => ?_)
  · refine V_iconst (v := 0) d_PF_isRegister_14 (by decide) ?_
    exact V_zreturn d_PF_isRegister_15 rfl nz0 ⟨by rw [irg, if_neg (fun q => q.1 h1)], rfl⟩
  · refine V_iload_n d_PF_isRegister_4 rfl ?_
    refine V_bipush (v := 8) d_PF_isRegister_5 (by decide) ?_
    refine V_icmp_ge 14 d_PF_isRegister_7 (by decide) (fun h7 => ?_) (fun h7 => ?_)
    · refine V_iconst (v := 0) d_PF_isRegister_14 (by decide) ?_
      exact V_zreturn d_PF_isRegister_15 rfl nz0 ⟨by rw [irg, if_neg (fun q => q.2 h7)], rfl⟩
    · refine V_iconst (v := 1) d_PF_isRegister_10 (by decide) ?_
      refine V_goto 15 d_PF_isRegister_11 (by decide) ?_
      exact V_zreturn d_PF_isRegister_15 rfl nz1 ⟨by rw [irg, if_pos ⟨h1, h7⟩], rfl⟩
/-- an item's fields; a frame's -/
abbrev itv (I : Nat → Int32) (bx nx : Value) : List Value := [.int (I 0), .int (I 1), .int (I 2), .int (I 3), .int (I 4), .int (I 5), .int (I 6), .int (I 7), bx, nx]
abbrev frv (F : Nat → Int32) (ou : Value) (sa sd : Nat) (inn nx : Value) : List Value := [ou, .int (F 1), .ref sa, .ref sd, inn, .int (F 5), .int (F 6), .int (F 7), .int (F 8), .int (F 9), .int (F 10), .int (F 11), nx]
def selF (I : Nat → Int32) (bit : Int32) (own fr : Int32) : Int32 := if I 6 &&& bit = 0 then own else fr
def wOf (F I : Nat → Int32) : Int32 := selF I 1 (I 1) (F 6)
def hOf (F I : Nat → Int32) : Int32 := selF I 2 (I 2) (F 7)
def dOf (F I : Nat → Int32) : Int32 := selF I 4 (I 3) (F 8)
def exO (F I : Nat → Int32) : Int64 := (hOf F I).toInt64 + (dOf F I).toInt64
def rgO (F I : Nat → Int32) : Int64 := if F 5 = 0 then (F 11).toInt64 else (F 9).toInt64 + (I 7).toInt64
def dnO (F I : Nat → Int32) : Int64 := if F 5 = 0 then (F 10).toInt64 + (if I 0 = 1 then dOf F I else I 7).toInt64 else (F 11).toInt64 + (if I 0 = 1 then exO F I else (I 2).toInt64)
def beO (F I : Nat → Int32) : Int64 := if ¬ F 5 = 0 ∧ ¬ I 0 = 2 then (F 11).toInt64 + exO F I else (F 11).toInt64 + (I 1).toInt64
section VP2
variable {l : Launch} {D : va_G} {ac : Nat → ClassId} {t t' : MT} {k n pc : Nat} {lv : List (Nat × Value)} {rest : List Value} {Q : Option Value → MP → Prop} {T : List Nat} {adr : Nat → Nat} {C : Nat → va_E} {N M1 : MP} {p i ci Nn : Nat} {T' : u_T} {fs : List Value} {v : Int32} {u : Int64} {v1 v2 v3 : Value} {y : Value}
theorem VP_call {na : Nat} {As st : List Value} {k' n' k2 n2 : Nat} {Q' : Option Value → MP → Prop} (h0 : pOK T adr N) (hp : p ∈ T) (hd : decode t.2.1 pc = .ok (.invokevirtual i, 3)) (ok : OKV t.1.cls i t' na) (hR : rmf t t') (hC : C p = .inr (ci, fs)) (hcl : cls[ci]? = some (t'.1.cls, T', Nn)) (hna : As.length = na) (hst : st = As.reverse ++ .ref (adr p) :: rest) (hW9 : (rest.map fun v => v.category).sum ≤ 8) (hk' : k = k' + k2) (hn' : n = n' + n2) (ct : Ct l D (tyl ac) t' k2 n2 (.ref (adr p) :: As) (pM T adr C N) Q') (h : ∀ x M', Q' x M' → V l D (tyl ac) t k' n' (pc + 3) lv (x.toList ++ rest) M' Q) : V l D (tyl ac) t k n pc lv st (pM T adr C N) Q := V_callV ((pM_p h0 hp).trans (congrArg some hC)) hcl hd ok hR hna hst hW9 hk' hn' ct h
theorem VP_ci0 (h0 : pOK T adr N) (hp : p ∈ T) (hd : decode t.2.1 pc = .ok (.invokevirtual i, 3)) (ok : OKV t.1.cls i t' 0) (ct : Ct l D (tyl ac) t' 0 0 (.ref (adr p) :: []) (pM T adr C N) (PQ (some (.int v)) M1)) (hR : rmf t t') (hC : C p = .inr (ci, fs)) (hcl : cls[ci]? = some (t'.1.cls, T', Nn)) (hW9 : (rest.map fun v => v.category).sum ≤ 8) (h : V l D (tyl ac) t k n (pc + 3) lv (.int v :: rest) M1 Q) : V l D (tyl ac) t k n pc lv (.ref (adr p) :: rest) (pM T adr C N) Q := VP_call h0 hp hd ok hR hC hcl rfl rfl hW9 rfl rfl ct (fun x M' hq => by obtain ⟨rfl, rfl⟩ := hq; exact h)
theorem VP_cl0 (h0 : pOK T adr N) (hp : p ∈ T) (hd : decode t.2.1 pc = .ok (.invokevirtual i, 3)) (ok : OKV t.1.cls i t' 0) (ct : Ct l D (tyl ac) t' 0 0 (.ref (adr p) :: []) (pM T adr C N) (PQ (some (.long u)) M1)) (hR : rmf t t') (hC : C p = .inr (ci, fs)) (hcl : cls[ci]? = some (t'.1.cls, T', Nn)) (hW9 : (rest.map fun v => v.category).sum ≤ 8) (h : V l D (tyl ac) t k n (pc + 3) lv (.long u :: rest) M1 Q) : V l D (tyl ac) t k n pc lv (.ref (adr p) :: rest) (pM T adr C N) Q := VP_call h0 hp hd ok hR hC hcl rfl rfl hW9 rfl rfl ct (fun x M' hq => by obtain ⟨rfl, rfl⟩ := hq; exact h)
theorem VP_cv0 (h0 : pOK T adr N) (hp : p ∈ T) (hd : decode t.2.1 pc = .ok (.invokevirtual i, 3)) (ok : OKV t.1.cls i t' 0) (ct : Ct l D (tyl ac) t' 0 0 (.ref (adr p) :: []) (pM T adr C N) (PQ none M1)) (hR : rmf t t') (hC : C p = .inr (ci, fs)) (hcl : cls[ci]? = some (t'.1.cls, T', Nn)) (hW9 : (rest.map fun v => v.category).sum ≤ 8) (h : V l D (tyl ac) t k n (pc + 3) lv (rest) M1 Q) : V l D (tyl ac) t k n pc lv (.ref (adr p) :: rest) (pM T adr C N) Q := VP_call h0 hp hd ok hR hC hcl rfl rfl hW9 rfl rfl ct (fun x M' hq => by obtain ⟨rfl, rfl⟩ := hq; exact h)
theorem VP_cr0 (h0 : pOK T adr N) (hp : p ∈ T) (hd : decode t.2.1 pc = .ok (.invokevirtual i, 3)) (ok : OKV t.1.cls i t' 0) (ct : Ct l D (tyl ac) t' 0 0 (.ref (adr p) :: []) (pM T adr C N) (PQ (some y) M1)) (hR : rmf t t') (hC : C p = .inr (ci, fs)) (hcl : cls[ci]? = some (t'.1.cls, T', Nn)) (hW9 : (rest.map fun v => v.category).sum ≤ 8) (h : V l D (tyl ac) t k n (pc + 3) lv (y :: rest) M1 Q) : V l D (tyl ac) t k n pc lv (.ref (adr p) :: rest) (pM T adr C N) Q := VP_call h0 hp hd ok hR hC hcl rfl rfl hW9 rfl rfl ct (fun x M' hq => by obtain ⟨rfl, rfl⟩ := hq; exact h)
theorem VP_ci1 (h0 : pOK T adr N) (hp : p ∈ T) (hd : decode t.2.1 pc = .ok (.invokevirtual i, 3)) (ok : OKV t.1.cls i t' 1) (ct : Ct l D (tyl ac) t' 0 0 (.ref (adr p) :: [v1]) (pM T adr C N) (PQ (some (.int v)) M1)) (hR : rmf t t') (hC : C p = .inr (ci, fs)) (hcl : cls[ci]? = some (t'.1.cls, T', Nn)) (hW9 : (rest.map fun v => v.category).sum ≤ 8) (h : V l D (tyl ac) t k n (pc + 3) lv (.int v :: rest) M1 Q) : V l D (tyl ac) t k n pc lv (v1 :: .ref (adr p) :: rest) (pM T adr C N) Q := VP_call h0 hp hd ok hR hC hcl rfl rfl hW9 rfl rfl ct (fun x M' hq => by obtain ⟨rfl, rfl⟩ := hq; exact h)
theorem VP_cl1 (h0 : pOK T adr N) (hp : p ∈ T) (hd : decode t.2.1 pc = .ok (.invokevirtual i, 3)) (ok : OKV t.1.cls i t' 1) (ct : Ct l D (tyl ac) t' 0 0 (.ref (adr p) :: [v1]) (pM T adr C N) (PQ (some (.long u)) M1)) (hR : rmf t t') (hC : C p = .inr (ci, fs)) (hcl : cls[ci]? = some (t'.1.cls, T', Nn)) (hW9 : (rest.map fun v => v.category).sum ≤ 8) (h : V l D (tyl ac) t k n (pc + 3) lv (.long u :: rest) M1 Q) : V l D (tyl ac) t k n pc lv (v1 :: .ref (adr p) :: rest) (pM T adr C N) Q := VP_call h0 hp hd ok hR hC hcl rfl rfl hW9 rfl rfl ct (fun x M' hq => by obtain ⟨rfl, rfl⟩ := hq; exact h)
theorem VP_cv1 (h0 : pOK T adr N) (hp : p ∈ T) (hd : decode t.2.1 pc = .ok (.invokevirtual i, 3)) (ok : OKV t.1.cls i t' 1) (ct : Ct l D (tyl ac) t' 0 0 (.ref (adr p) :: [v1]) (pM T adr C N) (PQ none M1)) (hR : rmf t t') (hC : C p = .inr (ci, fs)) (hcl : cls[ci]? = some (t'.1.cls, T', Nn)) (hW9 : (rest.map fun v => v.category).sum ≤ 8) (h : V l D (tyl ac) t k n (pc + 3) lv (rest) M1 Q) : V l D (tyl ac) t k n pc lv (v1 :: .ref (adr p) :: rest) (pM T adr C N) Q := VP_call h0 hp hd ok hR hC hcl rfl rfl hW9 rfl rfl ct (fun x M' hq => by obtain ⟨rfl, rfl⟩ := hq; exact h)
theorem VP_cr1 (h0 : pOK T adr N) (hp : p ∈ T) (hd : decode t.2.1 pc = .ok (.invokevirtual i, 3)) (ok : OKV t.1.cls i t' 1) (ct : Ct l D (tyl ac) t' 0 0 (.ref (adr p) :: [v1]) (pM T adr C N) (PQ (some y) M1)) (hR : rmf t t') (hC : C p = .inr (ci, fs)) (hcl : cls[ci]? = some (t'.1.cls, T', Nn)) (hW9 : (rest.map fun v => v.category).sum ≤ 8) (h : V l D (tyl ac) t k n (pc + 3) lv (y :: rest) M1 Q) : V l D (tyl ac) t k n pc lv (v1 :: .ref (adr p) :: rest) (pM T adr C N) Q := VP_call h0 hp hd ok hR hC hcl rfl rfl hW9 rfl rfl ct (fun x M' hq => by obtain ⟨rfl, rfl⟩ := hq; exact h)
theorem VP_ci2 (h0 : pOK T adr N) (hp : p ∈ T) (hd : decode t.2.1 pc = .ok (.invokevirtual i, 3)) (ok : OKV t.1.cls i t' 2) (ct : Ct l D (tyl ac) t' 0 0 (.ref (adr p) :: [v1, v2]) (pM T adr C N) (PQ (some (.int v)) M1)) (hR : rmf t t') (hC : C p = .inr (ci, fs)) (hcl : cls[ci]? = some (t'.1.cls, T', Nn)) (hW9 : (rest.map fun v => v.category).sum ≤ 8) (h : V l D (tyl ac) t k n (pc + 3) lv (.int v :: rest) M1 Q) : V l D (tyl ac) t k n pc lv (v2 :: v1 :: .ref (adr p) :: rest) (pM T adr C N) Q := VP_call h0 hp hd ok hR hC hcl rfl rfl hW9 rfl rfl ct (fun x M' hq => by obtain ⟨rfl, rfl⟩ := hq; exact h)
theorem VP_cl2 (h0 : pOK T adr N) (hp : p ∈ T) (hd : decode t.2.1 pc = .ok (.invokevirtual i, 3)) (ok : OKV t.1.cls i t' 2) (ct : Ct l D (tyl ac) t' 0 0 (.ref (adr p) :: [v1, v2]) (pM T adr C N) (PQ (some (.long u)) M1)) (hR : rmf t t') (hC : C p = .inr (ci, fs)) (hcl : cls[ci]? = some (t'.1.cls, T', Nn)) (hW9 : (rest.map fun v => v.category).sum ≤ 8) (h : V l D (tyl ac) t k n (pc + 3) lv (.long u :: rest) M1 Q) : V l D (tyl ac) t k n pc lv (v2 :: v1 :: .ref (adr p) :: rest) (pM T adr C N) Q := VP_call h0 hp hd ok hR hC hcl rfl rfl hW9 rfl rfl ct (fun x M' hq => by obtain ⟨rfl, rfl⟩ := hq; exact h)
theorem VP_cv2 (h0 : pOK T adr N) (hp : p ∈ T) (hd : decode t.2.1 pc = .ok (.invokevirtual i, 3)) (ok : OKV t.1.cls i t' 2) (ct : Ct l D (tyl ac) t' 0 0 (.ref (adr p) :: [v1, v2]) (pM T adr C N) (PQ none M1)) (hR : rmf t t') (hC : C p = .inr (ci, fs)) (hcl : cls[ci]? = some (t'.1.cls, T', Nn)) (hW9 : (rest.map fun v => v.category).sum ≤ 8) (h : V l D (tyl ac) t k n (pc + 3) lv (rest) M1 Q) : V l D (tyl ac) t k n pc lv (v2 :: v1 :: .ref (adr p) :: rest) (pM T adr C N) Q := VP_call h0 hp hd ok hR hC hcl rfl rfl hW9 rfl rfl ct (fun x M' hq => by obtain ⟨rfl, rfl⟩ := hq; exact h)
theorem VP_cr2 (h0 : pOK T adr N) (hp : p ∈ T) (hd : decode t.2.1 pc = .ok (.invokevirtual i, 3)) (ok : OKV t.1.cls i t' 2) (ct : Ct l D (tyl ac) t' 0 0 (.ref (adr p) :: [v1, v2]) (pM T adr C N) (PQ (some y) M1)) (hR : rmf t t') (hC : C p = .inr (ci, fs)) (hcl : cls[ci]? = some (t'.1.cls, T', Nn)) (hW9 : (rest.map fun v => v.category).sum ≤ 8) (h : V l D (tyl ac) t k n (pc + 3) lv (y :: rest) M1 Q) : V l D (tyl ac) t k n pc lv (v2 :: v1 :: .ref (adr p) :: rest) (pM T adr C N) Q := VP_call h0 hp hd ok hR hC hcl rfl rfl hW9 rfl rfl ct (fun x M' hq => by obtain ⟨rfl, rfl⟩ := hq; exact h)
theorem VP_ci3 (h0 : pOK T adr N) (hp : p ∈ T) (hd : decode t.2.1 pc = .ok (.invokevirtual i, 3)) (ok : OKV t.1.cls i t' 3) (ct : Ct l D (tyl ac) t' 0 0 (.ref (adr p) :: [v1, v2, v3]) (pM T adr C N) (PQ (some (.int v)) M1)) (hR : rmf t t') (hC : C p = .inr (ci, fs)) (hcl : cls[ci]? = some (t'.1.cls, T', Nn)) (hW9 : (rest.map fun v => v.category).sum ≤ 8) (h : V l D (tyl ac) t k n (pc + 3) lv (.int v :: rest) M1 Q) : V l D (tyl ac) t k n pc lv (v3 :: v2 :: v1 :: .ref (adr p) :: rest) (pM T adr C N) Q := VP_call h0 hp hd ok hR hC hcl rfl rfl hW9 rfl rfl ct (fun x M' hq => by obtain ⟨rfl, rfl⟩ := hq; exact h)
theorem VP_cl3 (h0 : pOK T adr N) (hp : p ∈ T) (hd : decode t.2.1 pc = .ok (.invokevirtual i, 3)) (ok : OKV t.1.cls i t' 3) (ct : Ct l D (tyl ac) t' 0 0 (.ref (adr p) :: [v1, v2, v3]) (pM T adr C N) (PQ (some (.long u)) M1)) (hR : rmf t t') (hC : C p = .inr (ci, fs)) (hcl : cls[ci]? = some (t'.1.cls, T', Nn)) (hW9 : (rest.map fun v => v.category).sum ≤ 8) (h : V l D (tyl ac) t k n (pc + 3) lv (.long u :: rest) M1 Q) : V l D (tyl ac) t k n pc lv (v3 :: v2 :: v1 :: .ref (adr p) :: rest) (pM T adr C N) Q := VP_call h0 hp hd ok hR hC hcl rfl rfl hW9 rfl rfl ct (fun x M' hq => by obtain ⟨rfl, rfl⟩ := hq; exact h)
theorem VP_cv3 (h0 : pOK T adr N) (hp : p ∈ T) (hd : decode t.2.1 pc = .ok (.invokevirtual i, 3)) (ok : OKV t.1.cls i t' 3) (ct : Ct l D (tyl ac) t' 0 0 (.ref (adr p) :: [v1, v2, v3]) (pM T adr C N) (PQ none M1)) (hR : rmf t t') (hC : C p = .inr (ci, fs)) (hcl : cls[ci]? = some (t'.1.cls, T', Nn)) (hW9 : (rest.map fun v => v.category).sum ≤ 8) (h : V l D (tyl ac) t k n (pc + 3) lv (rest) M1 Q) : V l D (tyl ac) t k n pc lv (v3 :: v2 :: v1 :: .ref (adr p) :: rest) (pM T adr C N) Q := VP_call h0 hp hd ok hR hC hcl rfl rfl hW9 rfl rfl ct (fun x M' hq => by obtain ⟨rfl, rfl⟩ := hq; exact h)
theorem VP_cr3 (h0 : pOK T adr N) (hp : p ∈ T) (hd : decode t.2.1 pc = .ok (.invokevirtual i, 3)) (ok : OKV t.1.cls i t' 3) (ct : Ct l D (tyl ac) t' 0 0 (.ref (adr p) :: [v1, v2, v3]) (pM T adr C N) (PQ (some y) M1)) (hR : rmf t t') (hC : C p = .inr (ci, fs)) (hcl : cls[ci]? = some (t'.1.cls, T', Nn)) (hW9 : (rest.map fun v => v.category).sum ≤ 8) (h : V l D (tyl ac) t k n (pc + 3) lv (y :: rest) M1 Q) : V l D (tyl ac) t k n pc lv (v3 :: v2 :: v1 :: .ref (adr p) :: rest) (pM T adr C N) Q := VP_call h0 hp hd ok hR hC hcl rfl rfl hW9 rfl rfl ct (fun x M' hq => by obtain ⟨rfl, rfl⟩ := hq; exact h)
end VP2
set_option maxRecDepth 100000 in
set_option maxHeartbeats 4000000 in
theorem Fra_widthOf {l : Launch} {D : va_G} {ac : Nat → ClassId} {T : List Nat} {adr : Nat → Nat} {C : Nat → va_E} {N : MP} (h0 : pOK T adr N) {p a : Nat} (hp : p ∈ T) {F I : Nat → Int32} {ou inn nx bx inx : Value} {sa sd : Nat} (hC : C p = .inr (4, frv F ou sa sd inn nx)) (hI : N a = some (.inr (5, itv I bx inx))) : Ct l D (tyl ac) t_Fra_widthOf 0 0 [.ref (adr p), .ref a] (pM T adr C N) (PQ (some (.int (wOf F I))) (pM T adr C N)) := by
  refine Ct_of (by decide) (Nat.le_of_ble_eq_true rfl) ?_
  refine V_aload_n d_Fra_widthOf_0 rfl (isr_ref _) ?_
  refine VN_get h0 d_Fra_widthOf_1 f_Fra_79 (hI) rfl ?_
  refine V_iconst (v := 1) d_Fra_widthOf_4 (by decide) ?_
  refine V_iand d_Fra_widthOf_5 ?_
  refine V_if_eq 16 d_Fra_widthOf_6 (by decide) (fun h6 => ?_) (fun h6 => ?_)
  · refine V_aload_n d_Fra_widthOf_16 rfl (isr_ref _) ?_
    refine VN_get h0 d_Fra_widthOf_17 f_Fra_84 (hI) rfl ?_
    exact V_ireturn d_Fra_widthOf_20 rfl ⟨by rw [wOf, selF, if_pos h6], rfl⟩
  · refine V_aload_n d_Fra_widthOf_9 rfl (isr_ref _) ?_
    refine VP_get h0 hp d_Fra_widthOf_10 f_Fra_51 (hC) rfl ?_
    refine V_goto 20 d_Fra_widthOf_13 (by decide) ?_
    exact V_ireturn d_Fra_widthOf_20 rfl ⟨by rw [wOf, selF, if_neg h6], rfl⟩
set_option maxRecDepth 100000 in
set_option maxHeartbeats 4000000 in
theorem Fra_heightOf {l : Launch} {D : va_G} {ac : Nat → ClassId} {T : List Nat} {adr : Nat → Nat} {C : Nat → va_E} {N : MP} (h0 : pOK T adr N) {p a : Nat} (hp : p ∈ T) {F I : Nat → Int32} {ou inn nx bx inx : Value} {sa sd : Nat} (hC : C p = .inr (4, frv F ou sa sd inn nx)) (hI : N a = some (.inr (5, itv I bx inx))) : Ct l D (tyl ac) t_Fra_heightOf 0 0 [.ref (adr p), .ref a] (pM T adr C N) (PQ (some (.int (hOf F I))) (pM T adr C N)) := by
  refine Ct_of (by decide) (Nat.le_of_ble_eq_true rfl) ?_
  refine V_aload_n d_Fra_heightOf_0 rfl (isr_ref _) ?_
  refine VN_get h0 d_Fra_heightOf_1 f_Fra_79 (hI) rfl ?_
  refine V_iconst (v := 2) d_Fra_heightOf_4 (by decide) ?_
  refine V_iand d_Fra_heightOf_5 ?_
  refine V_if_eq 16 d_Fra_heightOf_6 (by decide) (fun h6 => ?_) (fun h6 => ?_)
  · refine V_aload_n d_Fra_heightOf_16 rfl (isr_ref _) ?_
    refine VN_get h0 d_Fra_heightOf_17 f_Fra_85 (hI) rfl ?_
    exact V_ireturn d_Fra_heightOf_20 rfl ⟨by rw [hOf, selF, if_pos h6], rfl⟩
  · refine V_aload_n d_Fra_heightOf_9 rfl (isr_ref _) ?_
    refine VP_get h0 hp d_Fra_heightOf_10 f_Fra_55 (hC) rfl ?_
    refine V_goto 20 d_Fra_heightOf_13 (by decide) ?_
    exact V_ireturn d_Fra_heightOf_20 rfl ⟨by rw [hOf, selF, if_neg h6], rfl⟩
set_option maxRecDepth 100000 in
set_option maxHeartbeats 4000000 in
theorem Fra_depthOf {l : Launch} {D : va_G} {ac : Nat → ClassId} {T : List Nat} {adr : Nat → Nat} {C : Nat → va_E} {N : MP} (h0 : pOK T adr N) {p a : Nat} (hp : p ∈ T) {F I : Nat → Int32} {ou inn nx bx inx : Value} {sa sd : Nat} (hC : C p = .inr (4, frv F ou sa sd inn nx)) (hI : N a = some (.inr (5, itv I bx inx))) : Ct l D (tyl ac) t_Fra_depthOf 0 0 [.ref (adr p), .ref a] (pM T adr C N) (PQ (some (.int (dOf F I))) (pM T adr C N)) := by
  refine Ct_of (by decide) (Nat.le_of_ble_eq_true rfl) ?_
  refine V_aload_n d_Fra_depthOf_0 rfl (isr_ref _) ?_
  refine VN_get h0 d_Fra_depthOf_1 f_Fra_79 (hI) rfl ?_
  refine V_iconst (v := 4) d_Fra_depthOf_4 (by decide) ?_
  refine V_iand d_Fra_depthOf_5 ?_
  refine V_if_eq 16 d_Fra_depthOf_6 (by decide) (fun h6 => ?_) (fun h6 => ?_)
  · refine V_aload_n d_Fra_depthOf_16 rfl (isr_ref _) ?_
    refine VN_get h0 d_Fra_depthOf_17 f_Fra_86 (hI) rfl ?_
    exact V_ireturn d_Fra_depthOf_20 rfl ⟨by rw [dOf, selF, if_pos h6], rfl⟩
  · refine V_aload_n d_Fra_depthOf_9 rfl (isr_ref _) ?_
    refine VP_get h0 hp d_Fra_depthOf_10 f_Fra_59 (hC) rfl ?_
    refine V_goto 20 d_Fra_depthOf_13 (by decide) ?_
    exact V_ireturn d_Fra_depthOf_20 rfl ⟨by rw [dOf, selF, if_neg h6], rfl⟩
set_option maxRecDepth 100000 in
set_option maxHeartbeats 4000000 in
theorem Fra_extentOf {l : Launch} {D : va_G} {ac : Nat → ClassId} {T : List Nat} {adr : Nat → Nat} {C : Nat → va_E} {N : MP} (h0 : pOK T adr N) {p a : Nat} (hp : p ∈ T) {F I : Nat → Int32} {ou inn nx bx inx : Value} {sa sd : Nat} (hC : C p = .inr (4, frv F ou sa sd inn nx)) (hI : N a = some (.inr (5, itv I bx inx))) : Ct l D (tyl ac) t_Fra_extentOf 0 0 [.ref (adr p), .ref a] (pM T adr C N) (PQ (some (.long (exO F I))) (pM T adr C N)) := by
  refine Ct_of (by decide) (Nat.le_of_ble_eq_true rfl) ?_
  refine V_aload_n d_Fra_extentOf_0 rfl (isr_ref _) ?_
  refine V_aload_n d_Fra_extentOf_1 rfl (isr_ref _) ?_
  refine VP_ci1 h0 hp d_Fra_extentOf_2 c_Fra_87 (Fra_heightOf h0 hp hC hI) ⟨by decide, by decide⟩ hC rfl (Nat.le_of_ble_eq_true rfl) ?_
  refine V_i2l d_Fra_extentOf_5 ?_
  refine V_aload_n d_Fra_extentOf_6 rfl (isr_ref _) ?_
  refine V_aload_n d_Fra_extentOf_7 rfl (isr_ref _) ?_
  refine VP_ci1 h0 hp d_Fra_extentOf_8 c_Fra_91 (Fra_depthOf h0 hp hC hI) ⟨by decide, by decide⟩ hC rfl (Nat.le_of_ble_eq_true rfl) ?_
  refine V_i2l d_Fra_extentOf_11 ?_
  refine V_ladd d_Fra_extentOf_12 ?_
  exact V_lreturn d_Fra_extentOf_13 rfl ⟨rfl, rfl⟩
set_option maxRecDepth 100000 in
set_option maxHeartbeats 4000000 in
theorem Fra_rightOf {l : Launch} {D : va_G} {ac : Nat → ClassId} {T : List Nat} {adr : Nat → Nat} {C : Nat → va_E} {N : MP} (h0 : pOK T adr N) {p a : Nat} (hp : p ∈ T) {F I : Nat → Int32} {ou inn nx bx inx : Value} {sa sd : Nat} (hC : C p = .inr (4, frv F ou sa sd inn nx)) (hI : N a = some (.inr (5, itv I bx inx))) : Ct l D (tyl ac) t_Fra_rightOf 0 0 [.ref (adr p), .ref a] (pM T adr C N) (PQ (some (.long (rgO F I))) (pM T adr C N)) := by
  refine Ct_of (by decide) (Nat.le_of_ble_eq_true rfl) ?_
  refine V_aload_n d_Fra_rightOf_0 rfl (isr_ref _) ?_
  refine VP_get h0 hp d_Fra_rightOf_1 f_Fra_47 (hC) rfl ?_
  refine V_if_eq 21 d_Fra_rightOf_4 (by decide) (fun h4 => ?_) (fun h4 => ?_)
  · refine V_aload_n d_Fra_rightOf_21 rfl (isr_ref _) ?_
    refine VP_get h0 hp d_Fra_rightOf_22 f_Fra_69 (hC) rfl ?_
    refine V_i2l d_Fra_rightOf_25 ?_
    exact V_lreturn d_Fra_rightOf_26 rfl ⟨by rw [rgO, if_pos h4], rfl⟩
  · refine V_aload_n d_Fra_rightOf_7 rfl (isr_ref _) ?_
    refine VP_get h0 hp d_Fra_rightOf_8 f_Fra_63 (hC) rfl ?_
    refine V_i2l d_Fra_rightOf_11 ?_
    refine V_aload_n d_Fra_rightOf_12 rfl (isr_ref _) ?_
    refine VN_get h0 d_Fra_rightOf_13 f_Fra_94 (hI) rfl ?_
    refine V_i2l d_Fra_rightOf_16 ?_
    refine V_ladd d_Fra_rightOf_17 ?_
    refine V_goto 26 d_Fra_rightOf_18 (by decide) ?_
    exact V_lreturn d_Fra_rightOf_26 rfl ⟨by rw [rgO, if_neg h4], rfl⟩
set_option maxRecDepth 100000 in
set_option maxHeartbeats 4000000 in
theorem Fra_downOf {l : Launch} {D : va_G} {ac : Nat → ClassId} {T : List Nat} {adr : Nat → Nat} {C : Nat → va_E} {N : MP} (h0 : pOK T adr N) {p a : Nat} (hp : p ∈ T) {F I : Nat → Int32} {ou inn nx bx inx : Value} {sa sd : Nat} (hC : C p = .inr (4, frv F ou sa sd inn nx)) (hI : N a = some (.inr (5, itv I bx inx))) : Ct l D (tyl ac) t_Fra_downOf 0 0 [.ref (adr p), .ref a] (pM T adr C N) (PQ (some (.long (dnO F I))) (pM T adr C N)) := by
  refine Ct_of (by decide) (Nat.le_of_ble_eq_true rfl) ?_
  refine V_aload_n d_Fra_downOf_0 rfl (isr_ref _) ?_
  refine VP_get h0 hp d_Fra_downOf_1 f_Fra_47 (hC) rfl ?_
  refine V_if_eq 35 d_Fra_downOf_4 (by decide) (fun h4 => ?_) (fun h4 => ?_)
  · refine V_aload_n d_Fra_downOf_35 rfl (isr_ref _) ?_
    refine VP_get h0 hp d_Fra_downOf_36 f_Fra_66 (hC) rfl ?_
    refine V_i2l d_Fra_downOf_39 ?_
    refine V_aload_n d_Fra_downOf_40 rfl (isr_ref _) ?_
    refine VN_get h0 d_Fra_downOf_41 f_Fra_97 (hI) rfl ?_
    refine V_iconst (v := 1) d_Fra_downOf_44 (by decide) ?_
    refine V_icmp_ne 56 d_Fra_downOf_45 (by decide) (fun h45 => ?_) (fun h45 => ?_)
    · refine V_aload_n d_Fra_downOf_56 rfl (isr_ref _) ?_
      refine VN_get h0 d_Fra_downOf_57 f_Fra_94 (hI) rfl ?_
      refine V_i2l d_Fra_downOf_60 ?_
      refine V_ladd d_Fra_downOf_61 ?_
      exact V_lreturn d_Fra_downOf_62 rfl ⟨by rw [dnO, if_pos h4, if_neg h45], rfl⟩
    · refine V_aload_n d_Fra_downOf_48 rfl (isr_ref _) ?_
      refine V_aload_n d_Fra_downOf_49 rfl (isr_ref _) ?_
      refine VP_ci1 h0 hp d_Fra_downOf_50 c_Fra_91 (Fra_depthOf h0 hp hC hI) ⟨by decide, by decide⟩ hC rfl (Nat.le_of_ble_eq_true rfl) ?_
      refine V_goto 60 d_Fra_downOf_53 (by decide) ?_
      refine V_i2l d_Fra_downOf_60 ?_
      refine V_ladd d_Fra_downOf_61 ?_
      exact V_lreturn d_Fra_downOf_62 rfl ⟨by rw [dnO, if_pos h4, if_pos (Classical.not_not.mp h45)], rfl⟩
  · refine V_aload_n d_Fra_downOf_7 rfl (isr_ref _) ?_
    refine VP_get h0 hp d_Fra_downOf_8 f_Fra_69 (hC) rfl ?_
    refine V_i2l d_Fra_downOf_11 ?_
    refine V_aload_n d_Fra_downOf_12 rfl (isr_ref _) ?_
    refine VN_get h0 d_Fra_downOf_13 f_Fra_97 (hI) rfl ?_
    refine V_iconst (v := 1) d_Fra_downOf_16 (by decide) ?_
    refine V_icmp_ne 28 d_Fra_downOf_17 (by decide) (fun h17 => ?_) (fun h17 => ?_)
    · refine V_aload_n d_Fra_downOf_28 rfl (isr_ref _) ?_
      refine VN_get h0 d_Fra_downOf_29 f_Fra_85 (hI) rfl ?_
      refine V_i2l d_Fra_downOf_32 ?_
      refine V_ladd d_Fra_downOf_33 ?_
      exact V_lreturn d_Fra_downOf_34 rfl ⟨by rw [dnO, if_neg h4, if_neg h17], rfl⟩
    · refine V_aload_n d_Fra_downOf_20 rfl (isr_ref _) ?_
      refine V_aload_n d_Fra_downOf_21 rfl (isr_ref _) ?_
      refine VP_cl1 h0 hp d_Fra_downOf_22 c_Fra_100 (Fra_extentOf h0 hp hC hI) ⟨by decide, by decide⟩ hC rfl (Nat.le_of_ble_eq_true rfl) ?_
      refine V_goto 33 d_Fra_downOf_25 (by decide) ?_
      refine V_ladd d_Fra_downOf_33 ?_
      exact V_lreturn d_Fra_downOf_34 rfl ⟨by rw [dnO, if_neg h4, if_pos (Classical.not_not.mp h17)], rfl⟩
set_option maxRecDepth 100000 in
set_option maxHeartbeats 4000000 in
theorem Fra_behind {l : Launch} {D : va_G} {ac : Nat → ClassId} {T : List Nat} {adr : Nat → Nat} {C : Nat → va_E} {N : MP} (h0 : pOK T adr N) {p a : Nat} (hp : p ∈ T) {F I : Nat → Int32} {ou inn nx bx inx : Value} {sa sd : Nat} (hC : C p = .inr (4, frv F ou sa sd inn nx)) (hI : N a = some (.inr (5, itv I bx inx))) : Ct l D (tyl ac) t_Fra_behind 0 0 [.ref (adr p), .ref a] (pM T adr C N) (PQ (some (.long (beO F I))) (pM T adr C N)) := by
  refine Ct_of (by decide) (Nat.le_of_ble_eq_true rfl) ?_
  refine V_aload_n d_Fra_behind_0 rfl (isr_ref _) ?_
  refine VP_get h0 hp d_Fra_behind_1 f_Fra_47 (hC) rfl ?_
  refine V_if_eq 27 d_Fra_behind_4 (by decide) (fun h4 => ?_) (fun h4 => ?_)
  · refine V_aload_n d_Fra_behind_27 rfl (isr_ref _) ?_
    refine VP_get h0 hp d_Fra_behind_28 f_Fra_69 (hC) rfl ?_
    refine V_i2l d_Fra_behind_31 ?_
    refine V_aload_n d_Fra_behind_32 rfl (isr_ref _) ?_
    refine VN_get h0 d_Fra_behind_33 f_Fra_84 (hI) rfl ?_
    refine V_i2l d_Fra_behind_36 ?_
    refine V_ladd d_Fra_behind_37 ?_
    exact V_lreturn d_Fra_behind_38 rfl ⟨by rw [beO, if_neg (fun q => q.1 h4)], rfl⟩
  · refine V_aload_n d_Fra_behind_7 rfl (isr_ref _) ?_
    refine VN_get h0 d_Fra_behind_8 f_Fra_97 (hI) rfl ?_
    refine V_iconst (v := 2) d_Fra_behind_11 (by decide) ?_
    refine V_icmp_eq 27 d_Fra_behind_12 (by decide) (fun h12 => ?_) (fun h12 => ?_)
    · refine V_aload_n d_Fra_behind_27 rfl (isr_ref _) ?_
      refine VP_get h0 hp d_Fra_behind_28 f_Fra_69 (hC) rfl ?_
      refine V_i2l d_Fra_behind_31 ?_
      refine V_aload_n d_Fra_behind_32 rfl (isr_ref _) ?_
      refine VN_get h0 d_Fra_behind_33 f_Fra_84 (hI) rfl ?_
      refine V_i2l d_Fra_behind_36 ?_
      refine V_ladd d_Fra_behind_37 ?_
      exact V_lreturn d_Fra_behind_38 rfl ⟨by rw [beO, if_neg (fun q => q.2 h12)], rfl⟩
    · refine V_aload_n d_Fra_behind_15 rfl (isr_ref _) ?_
      refine VP_get h0 hp d_Fra_behind_16 f_Fra_69 (hC) rfl ?_
      refine V_i2l d_Fra_behind_19 ?_
      refine V_aload_n d_Fra_behind_20 rfl (isr_ref _) ?_
      refine V_aload_n d_Fra_behind_21 rfl (isr_ref _) ?_
      refine VP_cl1 h0 hp d_Fra_behind_22 c_Fra_100 (Fra_extentOf h0 hp hC hI) ⟨by decide, by decide⟩ hC rfl (Nat.le_of_ble_eq_true rfl) ?_
      refine V_ladd d_Fra_behind_25 ?_
      exact V_lreturn d_Fra_behind_26 rfl ⟨by rw [beO, if_pos ⟨h4, h12⟩], rfl⟩
