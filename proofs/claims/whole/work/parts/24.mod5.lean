/-! empty, make, put; bytes of the file -/
theorem sub_ad (x : Int32) {j : Int} {c : Int32} (h : Int32.ofInt j = -c) : x + Int32.ofInt j = x - c := by rw [h, Int32.sub_eq_add_neg]
def emp (r : RS) (p n q k : Nat) : RS := w1 (mvd n (q - (p + n)) r (p + n)) 12 k 0
def mak (r : RS) (p n q k : Nat) : RS := w1 (mvu n p (q - p) r) 12 k (nI n)
def mvc (p e : Nat) : Nat → RS → Nat → RS
  | 0, r, _ => r
  | m + 1, r, i => mvc p e m (mv r (p + i) (e + i)) (i + 1)
theorem mv_F (r : RS) (a b k : Nat) : gF (mv r a b) k = gF r k := rfl
theorem mv1_B (r : RS) {k j : Nat} (a b : Nat) (h : j ≠ k) : gB (mv1 r k a b) j = gB r j := va_up_ne _ _ h
theorem mv_B (r : RS) (a b : Nat) {k : Nat} (h : 7 < k) : gB (mv r a b) k = gB r k := by
  unfold mv
  rw [mv1_B _ _ _ (by omega), mv1_B _ _ _ (by omega), mv1_B _ _ _ (by omega), mv1_B _ _ _ (by omega), mv1_B _ _ _ (by omega), mv1_B _ _ _ (by omega), mv1_B _ _ _ (by omega)]
theorem mvc_F (p e k : Nat) : ∀ (m : Nat) (r : RS) (i : Nat), gF (mvc p e m r i) k = gF r k := by
  intro m
  induction m with
  | zero => intro r i; rfl
  | succ m ih => intro r i; exact ih _ _
theorem mvc_B (p e : Nat) {k : Nat} (h : 7 < k) : ∀ (m : Nat) (r : RS) (i : Nat), gB (mvc p e m r i) k = gB r k := by
  intro m
  induction m with
  | zero => intro r i; rfl
  | succ m ih => intro r i; exact (ih _ _).trans (mv_B _ _ _ h)
/-- byte number c of v, the lowest 0 -/
def byt (v : Int32) (c : Nat) : Int32 := (v >>> (nI (8 * c) &&& 31)).toInt8.toInt32
def wb1 (r : RS) (n : Nat) (x : Int32) : RS := sF (w1 r 17 n x) 18 (nI (n + 1))
def wrt : Nat → RS → Nat → Int32 → RS
  | 0, r, _, _ => r
  | m + 1, r, n, v => wrt m (wb1 r n (byt v m)) (n + 1) v
def wl (r : RS) (n : Nat) : List (Int32 × Nat) → RS
  | [] => r
  | q :: l => wl (wrt q.2 r n q.1) (n + q.2) l
def nums : List (Int32 × Nat) := [(25400000, 4), (473628672, 4), (1000, 4)]
def begl : List (Int32 × Nat) := [(247, 1), (2, 1), (25400000, 4), (473628672, 4), (1000, 4), (0, 1)]
def fonl (r : RS) (k : Nat) : List (Int32 × Nat) := [(243, 1), (nI k, 1), (0, 4), (gB r 13 k, 4), (gB r 14 k, 4), (0, 1), (1, 1), (65 + (nI k - nI k / 26 * 26), 1)]
theorem wrt_len : ∀ (c : Nat) {r : RS} {n : Nat} {v : Int32}, gF r 18 = nI n → gF (wrt c r n v) 18 = nI (n + c) := by
  intro c
  induction c with
  | zero => intro r n v h; exact h
  | succ c ih => intro r n v h; rw [show n + (c + 1) = (n + 1) + c by omega]; exact ih rfl
theorem wrt_F {k : Nat} (hk : k ≠ 18) : ∀ (c : Nat) (r : RS) (n : Nat) (v : Int32), gF (wrt c r n v) k = gF r k := by
  intro c
  induction c with
  | zero => intro r n v; rfl
  | succ c ih => intro r n v; exact (ih _ _ _).trans (va_up_ne _ _ hk)
theorem wrt_B {k : Nat} (hk : k ≠ 17) : ∀ (c : Nat) (r : RS) (n : Nat) (v : Int32), gB (wrt c r n v) k = gB r k := by
  intro c
  induction c with
  | zero => intro r n v; rfl
  | succ c ih => intro r n v; exact (ih _ _ _).trans (va_up_ne _ _ hk)
set_option maxRecDepth 100000 in
set_option maxHeartbeats 4000000 in
theorem Mod_empty_28 {l : Launch} {D : va_G} {ac : Nat → ClassId} {o : Nat} {ad : Nat → Nat} {M0 : MP} (hA : rAD o ad) {p n q k : Nat} (hq : q ≤ 6200) (hk : k < 8) : ∀ (m i : Nat) (r : RS), i + m = q → n ≤ i → V l D (tyl ac) t_Mod_empty 0 0 28 [(5, .int (nI i)), (4, .int (nI q)), (3, .int (nI n)), (2, .int (nI p)), (0, .ref o), (1, .int (nI k))] [] (rM ac o ad r M0) (fun rv M' => rv = none ∧ M' = rM ac o ad (w1 (mvd n m r i) 12 k 0) M0) := by
  intro m
  induction m with
  | zero =>
    intro i r h1 h2
    refine V_iload d_Mod_empty_28 rfl ?_
    refine V_iload d_Mod_empty_30 rfl ?_
    refine V_icmp_ge 51 d_Mod_empty_32 (by decide) (fun h32 => ?_) (fun h32 => ?_)
    · refine V_ar_n d_Mod_empty_51 rfl ?_
      refine VR_geta d_Mod_empty_52 f_Mod_38 (by decide) ?_
      refine V_iload_n d_Mod_empty_55 rfl ?_
      refine V_iconst (v := 0) d_Mod_empty_56 (by decide) ?_
      refine VR_iast hA d_Mod_empty_57 rfl (by omega) (by decide) ?_
      exact V_return d_Mod_empty_58 rfl ⟨rfl, rfl⟩
    · exact absurd (nI_le (show q ≤ i by omega) (by omega)) h32
  | succ m ih =>
    intro i r h1 h2
    refine V_iload d_Mod_empty_28 rfl ?_
    refine V_iload d_Mod_empty_30 rfl ?_
    refine V_icmp_ge 51 d_Mod_empty_32 (by decide) (fun h32 => ?_) (fun h32 => ?_)
    · exact absurd h32 (nI_ge (by omega) (by omega))
    · refine V_ar_n d_Mod_empty_35 rfl ?_
      refine V_iload d_Mod_empty_36 rfl ?_
      refine V_iload d_Mod_empty_38 rfl ?_
      refine V_iload_n d_Mod_empty_40 rfl ?_
      refine V_isub d_Mod_empty_41 ?_
      refine V_eqi (pk_sub h2) ?_
      refine VR_cv2 d_Mod_empty_42 c_Mod_123 (Mod_move hA (by omega) (by omega)) ⟨by decide, by decide⟩ rfl (Nat.le_of_ble_eq_true rfl) ?_
      refine V_iinc (v := nI (i + 1)) (lv' := [(5, .int (nI (i + 1))), (4, .int (nI q)), (3, .int (nI n)), (2, .int (nI p)), (0, .ref o), (1, .int (nI k))]) 0 d_Mod_empty_45 rfl (nI_1 i) (by decide) rfl ?_
      refine V_goto 28 d_Mod_empty_48 (by decide) ?_
      exact ih (i + 1) _ (by omega) (by omega)
set_option maxRecDepth 100000 in
set_option maxHeartbeats 4000000 in
theorem Mod_empty {l : Launch} {D : va_G} {ac : Nat → ClassId} {o : Nat} {ad : Nat → Nat} {r : RS} (hA : rAD o ad) {p n q k : Nat} (hst : stt r k = nI p) (hsz : gB r 12 k = nI n) (hall : 3100 + shv r = nI q) (hpq : p + n ≤ q) (hq : q ≤ 6200) (hk : k < 8) : RCv l D ac o ad t_Mod_empty [.int (nI k)] r (emp r p n q k) := fun M0 => by
  refine Ct_of (by decide) (Nat.le_of_ble_eq_true rfl) ?_
  refine V_ar_n d_Mod_empty_0 rfl ?_
  refine V_iload_n d_Mod_empty_1 rfl ?_
  refine VR_ci1 d_Mod_empty_2 c_Mod_119 (Mod_start hA (by omega)) ⟨by decide, by decide⟩ rfl (Nat.le_of_ble_eq_true rfl) ?_
  refine V_eqi (show _ = nI p from hst) ?_
  refine V_istore_n (lv' := [(2, .int (nI p)), (0, .ref o), (1, .int (nI k))]) d_Mod_empty_5 (by decide) rfl ?_
  refine V_ar_n d_Mod_empty_6 rfl ?_
  refine VR_geta d_Mod_empty_7 f_Mod_38 (by decide) ?_
  refine V_iload_n d_Mod_empty_10 rfl ?_
  refine VR_iald hA d_Mod_empty_11 rfl (by omega) (by decide) ?_
  refine V_eqi (show _ = nI n from hsz) ?_
  refine V_istore_n (lv' := [(3, .int (nI n)), (2, .int (nI p)), (0, .ref o), (1, .int (nI k))]) d_Mod_empty_12 (by decide) rfl ?_
  refine V_sipush (v := 3100) d_Mod_empty_13 (by decide) ?_
  refine V_ar_n d_Mod_empty_16 rfl ?_
  refine VR_ci0 d_Mod_empty_17 c_Mod_93 (Mod_shelved hA) ⟨by decide, by decide⟩ rfl (Nat.le_of_ble_eq_true rfl) ?_
  refine V_iadd d_Mod_empty_20 ?_
  refine V_eqi (show _ = nI q from hall) ?_
  refine V_istore (lv' := [(4, .int (nI q)), (3, .int (nI n)), (2, .int (nI p)), (0, .ref o), (1, .int (nI k))]) d_Mod_empty_21 (by decide) rfl ?_
  refine V_iload_n d_Mod_empty_23 rfl ?_
  refine V_iload_n d_Mod_empty_24 rfl ?_
  refine V_iadd d_Mod_empty_25 ?_
  refine V_eqi (nI_add p n) ?_
  refine V_istore (lv' := [(5, .int (nI (p + n))), (4, .int (nI q)), (3, .int (nI n)), (2, .int (nI p)), (0, .ref o), (1, .int (nI k))]) d_Mod_empty_26 (by decide) rfl ?_
  exact Mod_empty_28 hA hq hk (q - (p + n)) (p + n) r (by omega) (by omega)
set_option maxRecDepth 100000 in
set_option maxHeartbeats 4000000 in
theorem Mod_make_18 {l : Launch} {D : va_G} {ac : Nat → ClassId} {o : Nat} {ad : Nat → Nat} {M0 : MP} (hA : rAD o ad) {p n k : Nat} (hp : 0 < p) (hk : k < 8) : ∀ (m : Nat) (r : RS), p + m + n ≤ 6200 → V l D (tyl ac) t_Mod_make 0 0 18 [(4, .int (nI (p + m) - 1)), (3, .int (nI p)), (0, .ref o), (1, .int (nI k)), (2, .int (nI n))] [] (rM ac o ad r M0) (fun rv M' => rv = none ∧ M' = rM ac o ad (w1 (mvu n p m r) 12 k (nI n)) M0) := by
  intro m
  induction m with
  | zero =>
    intro r h1
    refine V_iload d_Mod_make_18 rfl ?_
    refine V_iload_n d_Mod_make_20 rfl ?_
    refine V_icmp_lt 40 d_Mod_make_21 (by decide) (fun h21 => ?_) (fun h21 => ?_)
    · refine V_ar_n d_Mod_make_40 rfl ?_
      refine VR_geta d_Mod_make_41 f_Mod_38 (by decide) ?_
      refine V_iload_n d_Mod_make_44 rfl ?_
      refine V_iload_n d_Mod_make_45 rfl ?_
      refine VR_iast hA d_Mod_make_46 rfl (by omega) (by decide) ?_
      exact V_return d_Mod_make_47 rfl ⟨rfl, rfl⟩
    · exact absurd (show nI (p + 0) - 1 < nI p from by rw [show p + 0 = (p - 1) + 1 by omega, nI_pred]; exact nI_lt (by omega) (by omega)) h21
  | succ m ih =>
    intro r h1
    rw [show nI (p + (m + 1)) - 1 = nI (p + m) from nI_pred (p + m)]
    refine V_iload d_Mod_make_18 rfl ?_
    refine V_iload_n d_Mod_make_20 rfl ?_
    refine V_icmp_lt 40 d_Mod_make_21 (by decide) (fun h21 => ?_) (fun h21 => ?_)
    · exact absurd h21 (nI_nlt (by omega) (by omega))
    · refine V_ar_n d_Mod_make_24 rfl ?_
      refine V_iload d_Mod_make_25 rfl ?_
      refine V_iload d_Mod_make_27 rfl ?_
      refine V_iload_n d_Mod_make_29 rfl ?_
      refine V_iadd d_Mod_make_30 ?_
      refine V_eqi (nI_add (p + m) n) ?_
      refine VR_cv2 d_Mod_make_31 c_Mod_123 (Mod_move hA (by omega) (by omega)) ⟨by decide, by decide⟩ rfl (Nat.le_of_ble_eq_true rfl) ?_
      refine V_iinc (v := nI (p + m) - 1) (lv' := [(4, .int (nI (p + m) - 1)), (3, .int (nI p)), (0, .ref o), (1, .int (nI k)), (2, .int (nI n))]) 0 d_Mod_make_34 rfl (sub_ad _ (by decide)) (by decide) rfl ?_
      refine V_goto 18 d_Mod_make_37 (by decide) ?_
      exact ih _ (by omega)
set_option maxRecDepth 100000 in
set_option maxHeartbeats 4000000 in
theorem Mod_make {l : Launch} {D : va_G} {ac : Nat → ClassId} {o : Nat} {ad : Nat → Nat} {r : RS} (hA : rAD o ad) {p n q k : Nat} (hst : stt r k = nI p) (hall : 3100 + shv r = nI q) (hp : 0 < p) (hpq : p ≤ q) (hq : q + n ≤ 6200) (hk : k < 8) : RCv l D ac o ad t_Mod_make [.int (nI k), .int (nI n)] r (mak r p n q k) := fun M0 => by
  refine Ct_of (by decide) (Nat.le_of_ble_eq_true rfl) ?_
  refine V_ar_n d_Mod_make_0 rfl ?_
  refine V_iload_n d_Mod_make_1 rfl ?_
  refine VR_ci1 d_Mod_make_2 c_Mod_119 (Mod_start hA (by omega)) ⟨by decide, by decide⟩ rfl (Nat.le_of_ble_eq_true rfl) ?_
  refine V_eqi (show _ = nI p from hst) ?_
  refine V_istore_n (lv' := [(3, .int (nI p)), (0, .ref o), (1, .int (nI k)), (2, .int (nI n))]) d_Mod_make_5 (by decide) rfl ?_
  refine V_sipush (v := 3100) d_Mod_make_6 (by decide) ?_
  refine V_ar_n d_Mod_make_9 rfl ?_
  refine VR_ci0 d_Mod_make_10 c_Mod_93 (Mod_shelved hA) ⟨by decide, by decide⟩ rfl (Nat.le_of_ble_eq_true rfl) ?_
  refine V_iadd d_Mod_make_13 ?_
  refine V_eqi (show _ = nI (p + (q - p)) from by rw [show p + (q - p) = q by omega]; exact hall) ?_
  refine V_iconst (v := 1) d_Mod_make_14 (by decide) ?_
  refine V_isub d_Mod_make_15 ?_
  refine V_istore (lv' := [(4, .int (nI (p + (q - p)) - 1)), (3, .int (nI p)), (0, .ref o), (1, .int (nI k)), (2, .int (nI n))]) d_Mod_make_16 (by decide) rfl ?_
  exact Mod_make_18 hA hp hk (q - p) r (by omega)
set_option maxRecDepth 100000 in
set_option maxHeartbeats 4000000 in
theorem Mod_write_7 {l : Launch} {D : va_G} {ac : Nat → ClassId} {o : Nat} {ad : Nat → Nat} {M0 : MP} (hA : rAD o ad) {c : Nat} {v : Int32} : ∀ (m n : Nat) (r : RS), gF r 18 = nI n → m ≤ 4 ∧ n + m ≤ 320000 → V l D (tyl ac) t_Mod_write 0 0 7 [(3, .int (nI (8 * m) - 8)), (0, .ref o), (1, .int v), (2, .int (nI c))] [] (rM ac o ad r M0) (fun rv M' => rv = none ∧ M' = rM ac o ad (wrt m r n v) M0) := by
  intro m
  induction m with
  | zero =>
    intro n r hn hb
    refine V_iload_n d_Mod_write_7 rfl ?_
    refine V_if_lt 40 d_Mod_write_8 (by decide) (fun h8 => ?_) (fun h8 => ?_)
    · exact V_return d_Mod_write_40 rfl ⟨rfl, rfl⟩
    · exact absurd (by decide) h8
  | succ m ih =>
    intro n r hn hb
    rw [show nI (8 * (m + 1)) - 8 = nI (8 * m) from pk_sub (b := 8) (by omega)]
    refine V_iload_n d_Mod_write_7 rfl ?_
    refine V_if_lt 40 d_Mod_write_8 (by decide) (fun h8 => ?_) (fun h8 => ?_)
    · exact absurd h8 (nI_pos (by omega))
    · refine V_ar_n d_Mod_write_11 rfl ?_
      refine VR_geta d_Mod_write_12 f_Mod_54 (by decide) ?_
      refine V_ar_n d_Mod_write_15 rfl ?_
      refine VR_geti d_Mod_write_16 f_Mod_145 (by decide) ?_
      refine V_eqi (show _ = nI n from hn) ?_
      refine V_iload_n d_Mod_write_19 rfl ?_
      refine V_iload_n d_Mod_write_20 rfl ?_
      refine V_ishr d_Mod_write_21 ?_
      refine V_i2b d_Mod_write_22 ?_
      refine VR_bast hA d_Mod_write_23 rfl (by omega) (by decide) ?_
      refine V_ar_n d_Mod_write_24 rfl ?_
      refine V_dup d_Mod_write_25 rfl ?_
      refine VR_geti d_Mod_write_26 f_Mod_145 (by decide) ?_
      refine V_eqi (show _ = nI n from hn) ?_
      refine V_iconst (v := 1) d_Mod_write_29 (by decide) ?_
      refine V_iadd d_Mod_write_30 ?_
      refine V_eqi (nI_1 n) ?_
      refine VR_puti d_Mod_write_31 f_Mod_145 (by decide) ?_
      refine V_iinc (v := nI (8 * m) - 8) (lv' := [(3, .int (nI (8 * m) - 8)), (0, .ref o), (1, .int v), (2, .int (nI c))]) 0 d_Mod_write_34 rfl (sub_ad _ (by decide)) (by decide) rfl ?_
      refine V_goto 7 d_Mod_write_37 (by decide) ?_
      rw [pk_vb]
      exact ih (n + 1) (wb1 r n (byt v m)) rfl (by omega)
theorem wr8 (c : Nat) : nI 8 * (nI c - 1) = nI (8 * c) - 8 := by
  rw [show (1 : Int32) = nI 1 from rfl, Int32.mul_sub, pk_mul, pk_mul]; rfl
set_option maxRecDepth 100000 in
set_option maxHeartbeats 4000000 in
theorem Mod_write {l : Launch} {D : va_G} {ac : Nat → ClassId} {o : Nat} {ad : Nat → Nat} {r : RS} (hA : rAD o ad) {c n : Nat} (v : Int32) (hn : gF r 18 = nI n) (hc : c ≤ 4) (hb : n + c ≤ 320000) : RCv l D ac o ad t_Mod_write [.int v, .int (nI c)] r (wrt c r n v) := fun M0 => by
  refine Ct_of (by decide) (Nat.le_of_ble_eq_true rfl) ?_
  refine V_bipush (v := nI 8) d_Mod_write_0 (by decide) ?_
  refine V_iload_n d_Mod_write_2 rfl ?_
  refine V_iconst (v := 1) d_Mod_write_3 (by decide) ?_
  refine V_isub d_Mod_write_4 ?_
  refine V_imul d_Mod_write_5 ?_
  refine V_eqi (show _ = nI (8 * c) - 8 from wr8 c) ?_
  refine V_istore_n (lv' := [(3, .int (nI (8 * c) - 8)), (0, .ref o), (1, .int v), (2, .int (nI c))]) d_Mod_write_6 (by decide) rfl ?_
  exact Mod_write_7 hA c n r hn ⟨hc, hb⟩
