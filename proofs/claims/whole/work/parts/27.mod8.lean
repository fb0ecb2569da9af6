/-! The state with the file's length: s.1 the state, s.2 the length. -/
abbrev FS : Type := RS × Nat
abbrev okf (s : FS) : Prop := gF s.1 18 = nI s.2
def wp (s : FS) (v : Int32) (c : Nat) : FS := (wrt c s.1 s.2 v, s.2 + c)
def wpl (s : FS) : List (Int32 × Nat) → FS
  | [] => s
  | q :: l => wpl (wp s q.1 q.2) l
theorem wp_ok {s : FS} (h : okf s) (v : Int32) (c : Nat) : okf (wp s v c) := wrt_len c h
theorem wpl_ok {s : FS} (h : okf s) (l : List (Int32 × Nat)) : okf (wpl s l) := by
  induction l generalizing s with
  | nil => exact h
  | cons q l ih => exact ih (wp_ok h _ _)
theorem wpl_wl (s : FS) (l : List (Int32 × Nat)) : (wpl s l).1 = wl s.1 s.2 l := by
  induction l generalizing s with
  | nil => rfl
  | cons q l ih => exact ih _
def gon (r : RS) (n sd : Nat) (x : Int32) (wh : Nat) : Nat := if gom r sd x = 0 ∨ gF (szd r (gom r sd x)) 33 = 0 then n else if (gB r 31 (2 + 2 * sd + gow r sd x wh)).toInt64 = gom r sd x then n + 1 else n + 1 + nby (gom r sd x).toInt32
def gp (s : FS) (sd : Nat) (x : Int32) (wh : Nat) : FS := (gor s.1 s.2 sd x wh, gon s.1 s.2 sd x wh)
theorem gon_le (r : RS) (n sd : Nat) (x : Int32) (wh : Nat) : n ≤ gon r n sd x wh ∧ gon r n sd x wh ≤ n + 5 := by
  have := nby_le (gom r sd x).toInt32
  unfold gon
  split
  · omega
  · split <;> omega
theorem gp_ok {s : FS} (h : okf s) (sd : Nat) (x : Int32) (wh : Nat) : okf (gp s sd x wh) := by
  show gF (gor s.1 s.2 sd x wh) 18 = nI (gon s.1 s.2 sd x wh)
  unfold gor gon
  split
  · exact h
  · show gF (gos _ _ _ _ _ _) 18 = _
    unfold gos
    by_cases hc : (gB s.1 31 (2 + 2 * sd + gow s.1 sd x wh)).toInt64 = gom s.1 sd x
    · rw [if_pos hc, if_pos (show (gB (szd s.1 (gom s.1 sd x)) 31 (2 + 2 * sd + gow s.1 sd x wh)).toInt64 = gom s.1 sd x from hc)]
      exact wrt_len 1 h
    · rw [if_neg hc, if_neg (show ¬ (gB (szd s.1 (gom s.1 sd x)) 31 (2 + 2 * sd + gow s.1 sd x wh)).toInt64 = gom s.1 sd x from hc)]
      exact wrt_len _ (wrt_len 1 h)
theorem w1_B (r : RS) {k j : Nat} (e : Nat) (v : Int32) (h : j ≠ k) : gB (w1 r k e v) j = gB r j := va_up_ne _ _ h
theorem w1_self (r : RS) (k e : Nat) (v : Int32) : gB (w1 r k e v) k = upd (gB r k) e v := va_up_self _ _ _
theorem gor_F {k : Nat} (h1 : k ≠ 18) (h2 : k ≠ 33) (r : RS) (n sd : Nat) (x : Int32) (wh : Nat) : gF (gor r n sd x wh) k = gF r k := by
  have e : gF (szd r (gom r sd x)) k = gF r k := va_up_ne _ _ h2
  unfold gor
  split
  · exact e
  · show gF (gos _ _ _ _ _ _) k = _
    unfold gos
    split
    · exact (wrt_F h1 _ _ _ _).trans e
    · exact (wrt_F h1 _ _ _ _).trans ((wrt_F h1 _ _ _ _).trans e)
theorem gor_B {k : Nat} (h1 : k ≠ 17) (h2 : k ≠ 31) (r : RS) (n sd : Nat) (x : Int32) (wh : Nat) : gB (gor r n sd x wh) k = gB r k := by
  unfold gor
  split
  · rfl
  · unfold goe
    rw [w1_B _ _ _ h2, w1_B _ _ _ h2]
    unfold gos
    split
    · exact wrt_B h1 _ _ _ _
    · rw [w1_B _ _ _ h2]
      exact (wrt_B h1 _ _ _ _).trans (wrt_B h1 _ _ _ _)
theorem gor_7 (r : RS) (n : Nat) (x : Int32) {wh : Nat} (hw : wh ≤ 1) : gB (gor r n 0 x wh) 31 7 = gB r 31 7 := by
  have hg : gow r 0 x wh ≤ 1 := by unfold gow; split; · omega
                                   · split <;> omega
  unfold gor
  split
  · rfl
  · unfold goe
    rw [w1_self, pk_un (by decide), w1_self, pk_un (by decide)]
    unfold gos
    split
    · exact congrFun (wrt_B (by decide) _ _ _ _) 7
    · rw [w1_self, pk_un (by omega)]
      exact congrFun ((wrt_B (by decide) _ _ _ _).trans (wrt_B (by decide) _ _ _ _)) 7
/-- the two moves; wh0, wh1: which is older -/
def gt (s : FS) (x y : Int32) (wh0 wh1 : Nat) : FS := gp (gp s 0 x wh0) 1 y wh1
theorem gt_ok {s : FS} (h : okf s) (x y : Int32) (wh0 wh1 : Nat) : okf (gt s x y wh0 wh1) := gp_ok (gp_ok h _ _ _) _ _ _
theorem gt_le (s : FS) (x y : Int32) (wh0 wh1 : Nat) : s.2 ≤ (gt s x y wh0 wh1).2 ∧ (gt s x y wh0 wh1).2 ≤ s.2 + 10 := by
  have h1 := gon_le s.1 s.2 0 x wh0
  have h2 := gon_le (gp s 0 x wh0).1 (gp s 0 x wh0).2 1 y wh1
  have e1 : (gp s 0 x wh0).2 = gon s.1 s.2 0 x wh0 := rfl
  have e2 : (gt s x y wh0 wh1).2 = gon (gp s 0 x wh0).1 (gp s 0 x wh0).2 1 y wh1 := rfl
  omega
theorem gt_F {k : Nat} (h1 : k ≠ 18) (h2 : k ≠ 33) (s : FS) (x y : Int32) (wh0 wh1 : Nat) : gF (gt s x y wh0 wh1).1 k = gF s.1 k := (gor_F h1 h2 _ _ _ _ _).trans (gor_F h1 h2 _ _ _ _ _)
theorem gt_B {k : Nat} (h1 : k ≠ 17) (h2 : k ≠ 31) (s : FS) (x y : Int32) (wh0 wh1 : Nat) : gB (gt s x y wh0 wh1).1 k = gB s.1 k := (gor_B h1 h2 _ _ _ _ _).trans (gor_B h1 h2 _ _ _ _ _)
set_option maxRecDepth 100000 in
set_option maxHeartbeats 4000000 in
theorem Mod_goTo {l : Launch} {D : va_G} {ac : Nat → ClassId} {o : Nat} {ad : Nat → Nat} {s : FS} (hA : rAD o ad) (x y : Int32) {wh0 wh1 : Nat} (hs : okf s) (hb : s.2 + 10 ≤ 320000) (hw0 : wh0 ≤ 1) (hw1 : wh1 ≤ 1) (h6 : gB s.1 31 6 = nI wh0) (h7 : gB s.1 31 7 = nI wh1) : RCv l D ac o ad t_Mod_goTo [.int x, .int y] s.1 (gt s x y wh0 wh1).1 := fun M0 => by
  refine Ct_of (by decide) (Nat.le_of_ble_eq_true rfl) ?_
  have hl := gon_le s.1 s.2 0 x wh0
  refine V_ar_n d_Mod_goTo_0 rfl ?_
  refine V_iconst (v := nI 0) d_Mod_goTo_1 (by decide) ?_
  refine V_iload_n d_Mod_goTo_2 rfl ?_
  refine VR_cv2 d_Mod_goTo_3 c_Mod_176 (Mod_go hA x hs (by omega) (by decide) hw0 h6) ⟨by decide, by decide⟩ rfl (Nat.le_of_ble_eq_true rfl) ?_
  refine V_ar_n d_Mod_goTo_6 rfl ?_
  refine V_iconst (v := nI 1) d_Mod_goTo_7 (by decide) ?_
  refine V_iload_n d_Mod_goTo_8 rfl ?_
  refine VR_cv2 d_Mod_goTo_9 c_Mod_176 (Mod_go hA y (gp_ok hs 0 x wh0) (show gon s.1 s.2 0 x wh0 + 5 ≤ 320000 by omega) (by decide) hw1 ((gor_7 _ _ _ hw0).trans h7)) ⟨by decide, by decide⟩ rfl (Nat.le_of_ble_eq_true rfl) ?_
  exact V_return d_Mod_goTo_12 rfl ⟨rfl, rfl⟩
def bxo (r : RS) (b i : Nat) : Nat → Nat
  | 0 => b
  | m + 1 => if nst1 r i (b + m) = 1 then b + m else bxo r b i m
theorem bxo_le (r : RS) (b i m : Nat) : b ≤ bxo r b i m ∧ bxo r b i m ≤ b + m := by
  induction m with
  | zero => exact ⟨Nat.le_refl _, Nat.le_refl _⟩
  | succ m ih => unfold bxo; split <;> omega
set_option maxRecDepth 100000 in
set_option maxHeartbeats 4000000 in
theorem Mod_boxOf_5 {l : Launch} {D : va_G} {ac : Nat → ClassId} {o : Nat} {ad : Nat → Nat} {r : RS} {M0 : MP} (hA : rAD o ad) {b i : Nat} (hi : i < 6200) : ∀ m j : Nat, j + m = i → b ≤ j → V l D (tyl ac) t_Mod_boxOf 0 0 5 [(4, .int (nI j)), (3, .int (nI (bxo r b i (j - b)))), (0, .ref o), (1, .int (nI i)), (2, .int (nI b))] [] (rM ac o ad r M0) (fun rv M' => rv = some (.int (nI (bxo r b i (i - b)))) ∧ M' = rM ac o ad (r) M0) := by
  intro m
  induction m with
  | zero =>
    intro j h1 h2
    refine V_iload d_Mod_boxOf_5 rfl ?_
    refine V_iload_n d_Mod_boxOf_7 rfl ?_
    refine V_icmp_ge 47 d_Mod_boxOf_8 (by decide) (fun h8 => ?_) (fun h8 => ?_)
    · refine V_iload_n d_Mod_boxOf_47 rfl ?_
      exact V_ireturn d_Mod_boxOf_48 rfl ⟨by rw [show j = i by omega], rfl⟩
    · exact absurd (nI_le (show i ≤ j by omega) (by omega)) h8
  | succ m ih =>
    intro j h1 h2
    have hbx : bxo r b i (j + 1 - b) = if nst1 r i j = 1 then j else bxo r b i (j - b) := by rw [show j + 1 - b = (j - b) + 1 by omega]; show (if nst1 r i (b + (j - b)) = 1 then b + (j - b) else _) = _; rw [show b + (j - b) = j by omega]
    refine V_iload d_Mod_boxOf_5 rfl ?_
    refine V_iload_n d_Mod_boxOf_7 rfl ?_
    refine V_icmp_ge 47 d_Mod_boxOf_8 (by decide) (fun h8 => ?_) (fun h8 => ?_)
    · exact absurd h8 (nI_ge (by omega) (by omega))
    · refine V_ar_n d_Mod_boxOf_11 rfl ?_
      refine V_iload d_Mod_boxOf_12 rfl ?_
      refine VR_ci1 d_Mod_boxOf_14 c_Mod_116 (Mod_isBox hA (by omega)) ⟨by decide, by decide⟩ rfl (Nat.le_of_ble_eq_true rfl) ?_
      refine V_if_eq 39 d_Mod_boxOf_17 (by decide) (fun h17 => ?_) (fun h17 => ?_)
      · refine V_iload_n d_Mod_boxOf_39 rfl ?_
        refine V_eqi (show _ = nI (bxo r b i (j + 1 - b)) from by rw [hbx, if_neg (by rw [nst1, if_neg (fun z => z.1 h17)]; decide)]) ?_
        refine V_istore_n (lv' := [(3, .int (nI (bxo r b i (j + 1 - b)))), (4, .int (nI j)), (0, .ref o), (1, .int (nI i)), (2, .int (nI b))]) d_Mod_boxOf_40 (by decide) rfl ?_
        refine V_iinc (v := nI (j + 1)) (lv' := [(4, .int (nI (j + 1))), (3, .int (nI (bxo r b i (j + 1 - b)))), (0, .ref o), (1, .int (nI i)), (2, .int (nI b))]) 1 d_Mod_boxOf_41 rfl (nI_1 j) (by decide) rfl ?_
        refine V_goto 5 d_Mod_boxOf_44 (by decide) ?_
        exact ih (j + 1) (by omega) (by omega)
      · refine V_iload d_Mod_boxOf_20 rfl ?_
        refine V_ar_n d_Mod_boxOf_22 rfl ?_
        refine VR_geta d_Mod_boxOf_23 f_Mod_28 (by decide) ?_
        refine V_iload d_Mod_boxOf_26 rfl ?_
        refine VR_iald hA d_Mod_boxOf_28 rfl (by omega) (by decide) ?_
        refine V_iadd d_Mod_boxOf_29 ?_
        refine V_iload_n d_Mod_boxOf_30 rfl ?_
        refine V_icmp_le 39 d_Mod_boxOf_31 (by decide) (fun h31 => ?_) (fun h31 => ?_)
        · refine V_iload_n d_Mod_boxOf_39 rfl ?_
          refine V_eqi (show _ = nI (bxo r b i (j + 1 - b)) from by rw [hbx, if_neg (by rw [nst1, if_neg (fun z => absurd h31 (Int32.not_le.mpr z.2))]; decide)]) ?_
          refine V_istore_n (lv' := [(3, .int (nI (bxo r b i (j + 1 - b)))), (4, .int (nI j)), (0, .ref o), (1, .int (nI i)), (2, .int (nI b))]) d_Mod_boxOf_40 (by decide) rfl ?_
          refine V_iinc (v := nI (j + 1)) (lv' := [(4, .int (nI (j + 1))), (3, .int (nI (bxo r b i (j + 1 - b)))), (0, .ref o), (1, .int (nI i)), (2, .int (nI b))]) 1 d_Mod_boxOf_41 rfl (nI_1 j) (by decide) rfl ?_
          refine V_goto 5 d_Mod_boxOf_44 (by decide) ?_
          exact ih (j + 1) (by omega) (by omega)
        · refine V_iload d_Mod_boxOf_34 rfl ?_
          refine V_goto 40 d_Mod_boxOf_36 (by decide) ?_
          refine V_eqi (show _ = nI (bxo r b i (j + 1 - b)) from by rw [hbx, if_pos (by rw [nst1, if_pos ⟨h17, Int32.not_le.mp h31⟩])]) ?_
          refine V_istore_n (lv' := [(3, .int (nI (bxo r b i (j + 1 - b)))), (4, .int (nI j)), (0, .ref o), (1, .int (nI i)), (2, .int (nI b))]) d_Mod_boxOf_40 (by decide) rfl ?_
          refine V_iinc (v := nI (j + 1)) (lv' := [(4, .int (nI (j + 1))), (3, .int (nI (bxo r b i (j + 1 - b)))), (0, .ref o), (1, .int (nI i)), (2, .int (nI b))]) 1 d_Mod_boxOf_41 rfl (nI_1 j) (by decide) rfl ?_
          refine V_goto 5 d_Mod_boxOf_44 (by decide) ?_
          exact ih (j + 1) (by omega) (by omega)
set_option maxRecDepth 100000 in
set_option maxHeartbeats 4000000 in
theorem Mod_boxOf {l : Launch} {D : va_G} {ac : Nat → ClassId} {o : Nat} {ad : Nat → Nat} {r : RS} (hA : rAD o ad) {b i : Nat} (hbi : b ≤ i) (hi : i < 6200) : RCi l D ac o ad t_Mod_boxOf [.int (nI i), .int (nI b)] r (nI (bxo r b i (i - b))) r := fun M0 => by
  refine Ct_of (by decide) (Nat.le_of_ble_eq_true rfl) ?_
  refine V_iload_n d_Mod_boxOf_0 rfl ?_
  refine V_istore_n (lv' := [(3, .int (nI b)), (0, .ref o), (1, .int (nI i)), (2, .int (nI b))]) d_Mod_boxOf_1 (by decide) rfl ?_
  refine V_iload_n d_Mod_boxOf_2 rfl ?_
  refine V_istore (lv' := [(4, .int (nI b)), (3, .int (nI b)), (0, .ref o), (1, .int (nI i)), (2, .int (nI b))]) d_Mod_boxOf_3 (by decide) rfl ?_
  have h5 := Mod_boxOf_5 (l := l) (D := D) (ac := ac) (r := r) (M0 := M0) hA hi (i - b) b (by omega) (Nat.le_refl b)
  rw [Nat.sub_self] at h5
  exact h5
def lck (q : Nat) : Nat → RS → Nat → RS
  | 0, r, _ => r
  | m + 1, r, j => lck q m (w1 r 31 j (gB r 30 (8 * q + j))) (j + 1)
theorem lck_F (q k : Nat) : ∀ (m : Nat) (r : RS) (j : Nat), gF (lck q m r j) k = gF r k := by
  intro m
  induction m with
  | zero => intro r j; rfl
  | succ m ih => intro r j; exact ih _ _
theorem lck_B (q : Nat) {k : Nat} (hk : k ≠ 31) : ∀ (m : Nat) (r : RS) (j : Nat), gB (lck q m r j) k = gB r k := by
  intro m
  induction m with
  | zero => intro r j; rfl
  | succ m ih => intro r j; exact (ih _ _).trans (w1_B _ _ _ hk)
def lea (s : FS) (q : Nat) : FS := wp (lck q 8 (sF s.1 27 (nI q)) 0, s.2) 142 1
set_option maxRecDepth 100000 in
set_option maxHeartbeats 4000000 in
theorem Mod_leave_12 {l : Launch} {D : va_G} {ac : Nat → ClassId} {o : Nat} {ad : Nat → Nat} {M0 : MP} (hA : rAD o ad) {q n : Nat} (hq2 : q < 102) (hb : n + 1 ≤ 320000) : ∀ (m j : Nat) (r : RS), j + m = 8 → gF r 27 = nI q → gF r 18 = nI n → V l D (tyl ac) t_Mod_leave 0 0 12 [(1, .int (nI j)), (0, .ref o)] [] (rM ac o ad (r) M0) (fun rv M' => rv = none ∧ M' = rM ac o ad (wrt 1 (lck q m r j) n 142) M0) := by
  intro m
  induction m with
  | zero =>
    intro j r h1 hq hn
    refine V_iload_n d_Mod_leave_12 rfl ?_
    refine V_bipush (v := nI 8) d_Mod_leave_13 (by decide) ?_
    refine V_icmp_ge 44 d_Mod_leave_15 (by decide) (fun h15 => ?_) (fun h15 => ?_)
    · refine V_ar_n d_Mod_leave_44 rfl ?_
      refine V_sipush (v := 142) d_Mod_leave_45 (by decide) ?_
      refine V_iconst (v := nI 1) d_Mod_leave_48 (by decide) ?_
      refine VR_cv2 d_Mod_leave_49 c_Mod_149 (Mod_write hA _ (hn) (by decide) (by omega)) ⟨by decide, by decide⟩ rfl (Nat.le_of_ble_eq_true rfl) ?_
      exact V_return d_Mod_leave_52 rfl ⟨rfl, rfl⟩
    · exact absurd (nI_le (show 8 ≤ j by omega) (by omega)) h15
  | succ m ih =>
    intro j r h1 hq hn
    refine V_iload_n d_Mod_leave_12 rfl ?_
    refine V_bipush (v := nI 8) d_Mod_leave_13 (by decide) ?_
    refine V_icmp_ge 44 d_Mod_leave_15 (by decide) (fun h15 => ?_) (fun h15 => ?_)
    · exact absurd h15 (nI_ge (by omega) (by decide))
    · refine V_ar_n d_Mod_leave_18 rfl ?_
      refine VR_geta d_Mod_leave_19 f_Mod_78 (by decide) ?_
      refine V_iload_n d_Mod_leave_22 rfl ?_
      refine V_ar_n d_Mod_leave_23 rfl ?_
      refine VR_geta d_Mod_leave_24 f_Mod_75 (by decide) ?_
      refine V_bipush (v := nI 8) d_Mod_leave_27 (by decide) ?_
      refine V_ar_n d_Mod_leave_29 rfl ?_
      refine VR_geti d_Mod_leave_30 f_Mod_160 (by decide) ?_
      refine V_eqi (show _ = nI q from hq) ?_
      refine V_imul d_Mod_leave_33 ?_
      refine V_eqi (pk_mul 8 q) ?_
      refine V_iload_n d_Mod_leave_34 rfl ?_
      refine V_iadd d_Mod_leave_35 ?_
      refine V_eqi (nI_add _ _) ?_
      refine VR_iald hA d_Mod_leave_36 rfl (by omega) (by decide) ?_
      refine VR_iast hA d_Mod_leave_37 rfl (by omega) (by decide) ?_
      refine V_iinc (v := nI (j + 1)) (lv' := [(1, .int (nI (j + 1))), (0, .ref o)]) 0 d_Mod_leave_38 rfl (nI_1 j) (by decide) rfl ?_
      refine V_goto 12 d_Mod_leave_41 (by decide) ?_
      exact ih (j + 1) _ (by omega) hq hn
set_option maxRecDepth 100000 in
set_option maxHeartbeats 4000000 in
theorem Mod_leave {l : Launch} {D : va_G} {ac : Nat → ClassId} {o : Nat} {ad : Nat → Nat} {s : FS} (hA : rAD o ad) {q : Nat} (hq : gF s.1 27 = nI (q + 1)) (hq2 : q < 102) (hs : okf s) (hb : s.2 + 1 ≤ 320000) : RCv l D ac o ad t_Mod_leave [] s.1 (lea s q).1 := fun M0 => by
  refine Ct_of (by decide) (Nat.le_of_ble_eq_true rfl) ?_
  refine V_ar_n d_Mod_leave_0 rfl ?_
  refine V_dup d_Mod_leave_1 rfl ?_
  refine VR_geti d_Mod_leave_2 f_Mod_160 (by decide) ?_
  refine V_eqi (show _ = nI (q + 1) from hq) ?_
  refine V_iconst (v := 1) d_Mod_leave_5 (by decide) ?_
  refine V_isub d_Mod_leave_6 ?_
  refine V_eqi (nI_pred q) ?_
  refine VR_puti d_Mod_leave_7 f_Mod_160 (by decide) ?_
  refine V_iconst (v := nI 0) d_Mod_leave_10 (by decide) ?_
  refine V_istore_n (lv' := [(1, .int (nI 0)), (0, .ref o)]) d_Mod_leave_11 (by decide) rfl ?_
  exact Mod_leave_12 hA hq2 hb 8 0 _ rfl rfl hs
def enat (r : RS) (i b : Nat) : Int64 := if gB r 1 i = 4 then (gB r 25 (i - b)).toInt64 else (gB r 26 (i - b)).toInt64 - (gB r 3 i).toInt64
def ent (r : RS) (q i b : Nat) : RS := sF (szd (sL (w1 (w1 r 28 q (nI i + gB r 7 i)) 30 (8 * q) (nI i)) (vp_updL r.2.2.2 q (enat r i b))) (enat r i b)) 27 (nI (q + 1))
set_option maxRecDepth 100000 in
set_option maxHeartbeats 4000000 in
theorem Mod_enter {l : Launch} {D : va_G} {ac : Nat → ClassId} {o : Nat} {ad : Nat → Nat} {r : RS} (hA : rAD o ad) {q i b : Nat} (hq : gF r 27 = nI q) (hq2 : q < 102) (hbi : b ≤ i) (hi : i < 6200) (hib : i - b < 3100) : RCv l D ac o ad t_Mod_enter [.int (nI i), .int (nI b)] r (ent r q i b) := fun M0 => by
  refine Ct_of (by decide) (Nat.le_of_ble_eq_true rfl) ?_
  refine V_ar_n d_Mod_enter_0 rfl ?_
  refine VR_geta d_Mod_enter_1 f_Mod_68 (by decide) ?_
  refine V_ar_n d_Mod_enter_4 rfl ?_
  refine VR_geti d_Mod_enter_5 f_Mod_160 (by decide) ?_
  refine V_eqi (show _ = nI q from hq) ?_
  refine V_iload_n d_Mod_enter_8 rfl ?_
  refine V_ar_n d_Mod_enter_9 rfl ?_
  refine VR_geta d_Mod_enter_10 f_Mod_28 (by decide) ?_
  refine V_iload_n d_Mod_enter_13 rfl ?_
  refine VR_iald hA d_Mod_enter_14 rfl (by omega) (by decide) ?_
  refine V_iadd d_Mod_enter_15 ?_
  refine VR_iast hA d_Mod_enter_16 rfl (by omega) (by decide) ?_
  refine V_ar_n d_Mod_enter_17 rfl ?_
  refine VR_geta d_Mod_enter_18 f_Mod_75 (by decide) ?_
  refine V_bipush (v := nI 8) d_Mod_enter_21 (by decide) ?_
  refine V_ar_n d_Mod_enter_23 rfl ?_
  refine VR_geti d_Mod_enter_24 f_Mod_160 (by decide) ?_
  refine V_eqi (show _ = nI q from hq) ?_
  refine V_imul d_Mod_enter_27 ?_
  refine V_eqi (pk_mul 8 q) ?_
  refine V_iload_n d_Mod_enter_28 rfl ?_
  refine VR_iast hA d_Mod_enter_29 rfl (by omega) (by decide) ?_
  refine V_ar_n d_Mod_enter_30 rfl ?_
  refine VR_geta d_Mod_enter_31 f_Mod_71 (by decide) ?_
  refine V_ar_n d_Mod_enter_34 rfl ?_
  refine VR_geti d_Mod_enter_35 f_Mod_160 (by decide) ?_
  refine V_eqi (show _ = nI q from hq) ?_
  refine V_ar_n d_Mod_enter_38 rfl ?_
  refine VR_geta d_Mod_enter_39 f_Mod_7 (by decide) ?_
  refine V_iload_n d_Mod_enter_42 rfl ?_
  refine VR_iald hA d_Mod_enter_43 rfl (by omega) (by decide) ?_
  refine V_iconst (v := 4) d_Mod_enter_44 (by decide) ?_
  refine V_icmp_ne 60 d_Mod_enter_45 (by decide) (fun h45 => ?_) (fun h45 => ?_)
  · refine V_ar_n d_Mod_enter_60 rfl ?_
    refine VR_geta d_Mod_enter_61 f_Mod_65 (by decide) ?_
    refine V_iload_n d_Mod_enter_64 rfl ?_
    refine V_iload_n d_Mod_enter_65 rfl ?_
    refine V_isub d_Mod_enter_66 ?_
    refine V_eqi (pk_sub hbi) ?_
    refine VR_iald hA d_Mod_enter_67 rfl (by omega) (by decide) ?_
    refine V_i2l d_Mod_enter_68 ?_
    refine V_ar_n d_Mod_enter_69 rfl ?_
    refine VR_geta d_Mod_enter_70 f_Mod_16 (by decide) ?_
    refine V_iload_n d_Mod_enter_73 rfl ?_
    refine VR_iald hA d_Mod_enter_74 rfl (by omega) (by decide) ?_
    refine V_i2l d_Mod_enter_75 ?_
    refine V_lsub d_Mod_enter_76 ?_
    refine V_eql (show _ = enat r i b from (if_neg h45).symm) ?_
    refine VR_last hA d_Mod_enter_77 (by omega) ?_
    refine V_ar_n d_Mod_enter_78 rfl ?_
    refine V_ar_n d_Mod_enter_79 rfl ?_
    refine VR_geta d_Mod_enter_80 f_Mod_71 (by decide) ?_
    refine V_ar_n d_Mod_enter_83 rfl ?_
    refine VR_geti d_Mod_enter_84 f_Mod_160 (by decide) ?_
    refine V_eqi (show _ = nI q from hq) ?_
    refine VR_lald hA d_Mod_enter_87 (by omega) ?_
    refine V_eql (show _ = enat r i b from if_pos rfl) ?_
    refine VR_cv1 d_Mod_enter_88 c_Mod_163 (Mod_sized _) ⟨by decide, by decide⟩ rfl (Nat.le_of_ble_eq_true rfl) ?_
    refine V_ar_n d_Mod_enter_91 rfl ?_
    refine V_dup d_Mod_enter_92 rfl ?_
    refine VR_geti d_Mod_enter_93 f_Mod_160 (by decide) ?_
    refine V_eqi (show _ = nI q from hq) ?_
    refine V_iconst (v := nI 1) d_Mod_enter_96 (by decide) ?_
    refine V_iadd d_Mod_enter_97 ?_
    refine V_eqi (nI_1 q) ?_
    refine VR_puti d_Mod_enter_98 f_Mod_160 (by decide) ?_
    exact V_return d_Mod_enter_101 rfl ⟨rfl, rfl⟩
  · refine V_ar_n d_Mod_enter_48 rfl ?_
    refine VR_geta d_Mod_enter_49 f_Mod_62 (by decide) ?_
    refine V_iload_n d_Mod_enter_52 rfl ?_
    refine V_iload_n d_Mod_enter_53 rfl ?_
    refine V_isub d_Mod_enter_54 ?_
    refine V_eqi (pk_sub hbi) ?_
    refine VR_iald hA d_Mod_enter_55 rfl (by omega) (by decide) ?_
    refine V_i2l d_Mod_enter_56 ?_
    refine V_goto 77 d_Mod_enter_57 (by decide) ?_
    refine V_eql (show _ = enat r i b from (if_pos (Classical.not_not.mp h45)).symm) ?_
    refine VR_last hA d_Mod_enter_77 (by omega) ?_
    refine V_ar_n d_Mod_enter_78 rfl ?_
    refine V_ar_n d_Mod_enter_79 rfl ?_
    refine VR_geta d_Mod_enter_80 f_Mod_71 (by decide) ?_
    refine V_ar_n d_Mod_enter_83 rfl ?_
    refine VR_geti d_Mod_enter_84 f_Mod_160 (by decide) ?_
    refine V_eqi (show _ = nI q from hq) ?_
    refine VR_lald hA d_Mod_enter_87 (by omega) ?_
    refine V_eql (show _ = enat r i b from if_pos rfl) ?_
    refine VR_cv1 d_Mod_enter_88 c_Mod_163 (Mod_sized _) ⟨by decide, by decide⟩ rfl (Nat.le_of_ble_eq_true rfl) ?_
    refine V_ar_n d_Mod_enter_91 rfl ?_
    refine V_dup d_Mod_enter_92 rfl ?_
    refine VR_geti d_Mod_enter_93 f_Mod_160 (by decide) ?_
    refine V_eqi (show _ = nI q from hq) ?_
    refine V_iconst (v := nI 1) d_Mod_enter_96 (by decide) ?_
    refine V_iadd d_Mod_enter_97 ?_
    refine V_eqi (nI_1 q) ?_
    refine VR_puti d_Mod_enter_98 f_Mod_160 (by decide) ?_
    exact V_return d_Mod_enter_101 rfl ⟨rfl, rfl⟩
