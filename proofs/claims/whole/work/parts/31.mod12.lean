/-! close: what comes behind the loop -/
def clhd (r : RS) (p n : Nat) (v : Int32) (w h d : Int64) : RS := w1 (w1 (w1 (w1 (w1 (w1 (w1 r 1 p (if v = 0 then 4 else 5)) 2 p w.toInt32) 3 p h.toInt32) 4 p d.toInt32) 5 p 0) 6 p 0) 7 p (nI (n + 1))
/-- r: the state behind the checks; a, e: the list's items; p, n, q: the register's place and size and the end of all; q1: that end once it is emptied; L: the lists that stay -/
def clz (r : RS) (a e p n q q1 k L : Nat) (v : Int32) (w h d : Int64) : RS := sF (sF (mvc a (p + 1) (e - a) (clhd (mak (emp r p n q k) p (e - a + 1) q1 k) p (e - a) v w h d) 0) 11 (nI a)) 8 (nI L)
abbrev clok (r : RS) (a e : Nat) (w h d : Int64) : Prop := ¬ iszl w = 0 ∧ ¬ iszl h = 0 ∧ ¬ iszl d = 0 ∧ nstm r a (e - a) ≤ 99
theorem mvd_F (n k : Nat) : ∀ (m : Nat) (r : RS) (i : Nat), gF (mvd n m r i) k = gF r k := by
  intro m
  induction m with
  | zero => intro r i; rfl
  | succ m ih => intro r i; exact ih _ _
theorem mvu_F (n p k : Nat) : ∀ (m : Nat) (r : RS), gF (mvu n p m r) k = gF r k := by
  intro m
  induction m with
  | zero => intro r; rfl
  | succ m ih => intro r; exact ih _
theorem emp_F (r : RS) (p n q j k : Nat) : gF (emp r p n q j) k = gF r k := mvd_F n k _ _ _
theorem mak_F (r : RS) (p n q j k : Nat) : gF (mak r p n q j) k = gF r k := mvu_F n p k _ _
set_option maxRecDepth 100000 in
set_option maxHeartbeats 4000000 in
theorem Mod_cl_519 {l : Launch} {D : va_G} {ac : Nat → ClassId} {o : Nat} {ad : Nat → Nat} {M0 : MP} (hA : rAD o ad) {a n p k L : Nat} {v : Int32} {w h d : Int64} (ha : a + n ≤ 6200) (hp : p + 1 + n ≤ 6200) : ∀ (m i : Nat) (r : RS), i + m = n → gF r 8 = nI (L + 1) → V l D (tyl ac) t_Mod_close 0 0 519 [(0, .ref o), (1, .int (nI k)), (2, .int (nI a)), (3, .int v), (4, .long w), (6, .long h), (8, .long d), (10, .int (nI n)), (11, .int (nI p)), (12, .int (nI i))] [] (rM ac o ad (r) M0) (fun rv M' => rv = some (.int (1)) ∧ M' = rM ac o ad (sF (sF (mvc a (p + 1) m r i) 11 (nI a)) 8 (nI L)) M0) := by
  intro m
  induction m with
  | zero =>
    intro i r h1 hL
    refine V_iload d_Mod_close_519 rfl ?_
    refine V_iload d_Mod_close_521 rfl ?_
    refine V_icmp_ge 547 d_Mod_close_523 (by decide) (fun h523 => ?_) (fun h523 => ?_)
    · refine V_ar_n d_Mod_close_547 rfl ?_
      refine V_iload_n d_Mod_close_548 rfl ?_
      refine VR_puti d_Mod_close_549 f_Mod_90 (by decide) ?_
      refine V_ar_n d_Mod_close_552 rfl ?_
      refine V_dup d_Mod_close_553 rfl ?_
      refine VR_geti d_Mod_close_554 f_Mod_97 (by decide) ?_
      refine V_eqi (show _ = nI (L + 1) from hL) ?_
      refine V_iconst (v := 1) d_Mod_close_557 (by decide) ?_
      refine V_isub d_Mod_close_558 ?_
      refine V_eqi (nI_pred L) ?_
      refine VR_puti d_Mod_close_559 f_Mod_97 (by decide) ?_
      refine V_iconst (v := 1) d_Mod_close_562 (by decide) ?_
      exact V_zreturn d_Mod_close_563 rfl nz1 ⟨rfl, rfl⟩
    · exact absurd (nI_le (show n ≤ i by omega) (by omega)) h523
  | succ m ih =>
    intro i r h1 hL
    refine V_iload d_Mod_close_519 rfl ?_
    refine V_iload d_Mod_close_521 rfl ?_
    refine V_icmp_ge 547 d_Mod_close_523 (by decide) (fun h523 => ?_) (fun h523 => ?_)
    · exact absurd h523 (nI_ge (by omega) (by omega))
    · refine V_ar_n d_Mod_close_526 rfl ?_
      refine V_iload_n d_Mod_close_527 rfl ?_
      refine V_iload d_Mod_close_528 rfl ?_
      refine V_iadd d_Mod_close_530 ?_
      refine V_eqi (nI_add a i) ?_
      refine V_iload d_Mod_close_531 rfl ?_
      refine V_iconst (v := nI 1) d_Mod_close_533 (by decide) ?_
      refine V_iadd d_Mod_close_534 ?_
      refine V_eqi (nI_add p 1) ?_
      refine V_iload d_Mod_close_535 rfl ?_
      refine V_iadd d_Mod_close_537 ?_
      refine V_eqi (nI_add (p + 1) i) ?_
      refine VR_cv2 d_Mod_close_538 c_Mod_123 (Mod_move hA (by omega) (by omega)) ⟨by decide, by decide⟩ rfl (Nat.le_of_ble_eq_true rfl) ?_
      refine V_iinc (v := nI (i + 1)) (lv' := [(12, .int (nI (i + 1))), (0, .ref o), (1, .int (nI k)), (2, .int (nI a)), (3, .int v), (4, .long w), (6, .long h), (8, .long d), (10, .int (nI n)), (11, .int (nI p))]) 9 d_Mod_close_541 rfl (nI_1 i) (by decide) rfl ?_
      refine V_goto 519 d_Mod_close_544 (by decide) ?_
      refine V_lv [1, 2, 3, 4, 5, 6, 7, 8, 9, 0] rfl ?_
      exact ih (i + 1) _ (by omega) hL
set_option maxRecDepth 100000 in
set_option maxHeartbeats 4000000 in
theorem Mod_cl_414 {l : Launch} {D : va_G} {ac : Nat → ClassId} {o : Nat} {ad : Nat → Nat} {M0 : MP} {r : RS} (hA : rAD o ad) {a e p n q q1 k L : Nat} {v x10 : Int32} {w h d : Int64} (hst : stt r k = nI p) (hsz : gB r 12 k = nI n) (hall : 3100 + shv r = nI q) (hpq : p + n ≤ q) (hq : q ≤ 6200) (hk : k < 8) (hst1 : stt (emp r p n q k) k = nI p) (hall1 : 3100 + shv (emp r p n q k) = nI q1) (hp : 0 < p) (hpq1 : p ≤ q1) (hq1 : q1 + (e - a + 1) ≤ 6200) (hst2 : stt (mak (emp r p n q k) p (e - a + 1) q1 k) k = nI p) (he : gF r 11 = nI e) (hae : a ≤ e) (he2 : e ≤ 3100) (hL : gF r 8 = nI (L + 1)) : V l D (tyl ac) t_Mod_close 0 0 414 [(0, .ref o), (1, .int (nI k)), (2, .int (nI a)), (3, .int v), (4, .long w), (6, .long h), (8, .long d), (10, .int x10)] [] (rM ac o ad (r) M0) (fun rv M' => rv = some (.int (1)) ∧ M' = rM ac o ad (clz r a e p n q q1 k L v w h d) M0) := by
  refine V_ar_n d_Mod_close_414 rfl ?_
  refine V_iload_n d_Mod_close_415 rfl ?_
  refine VR_cv1 d_Mod_close_416 c_Mod_135 (Mod_empty hA hst hsz hall hpq hq hk) ⟨by decide, by decide⟩ rfl (Nat.le_of_ble_eq_true rfl) ?_
  refine V_ar_n d_Mod_close_419 rfl ?_
  refine VR_geti d_Mod_close_420 f_Mod_90 (by decide) ?_
  refine V_eqi (show _ = nI e from (emp_F _ _ _ _ _ _).trans he) ?_
  refine V_iload_n d_Mod_close_423 rfl ?_
  refine V_isub d_Mod_close_424 ?_
  refine V_eqi (pk_sub hae) ?_
  refine V_istore (lv' := [(10, .int (nI (e - a))), (0, .ref o), (1, .int (nI k)), (2, .int (nI a)), (3, .int v), (4, .long w), (6, .long h), (8, .long d)]) d_Mod_close_425 (by decide) rfl ?_
  refine V_ar_n d_Mod_close_427 rfl ?_
  refine V_iload_n d_Mod_close_428 rfl ?_
  refine V_iload d_Mod_close_429 rfl ?_
  refine V_iconst (v := nI 1) d_Mod_close_431 (by decide) ?_
  refine V_iadd d_Mod_close_432 ?_
  refine V_eqi (nI_add (e - a) 1) ?_
  refine VR_cv2 d_Mod_close_433 c_Mod_139 (Mod_make hA hst1 hall1 hp hpq1 hq1 hk) ⟨by decide, by decide⟩ rfl (Nat.le_of_ble_eq_true rfl) ?_
  refine V_ar_n d_Mod_close_436 rfl ?_
  refine V_iload_n d_Mod_close_437 rfl ?_
  refine VR_ci1 d_Mod_close_438 c_Mod_119 (Mod_start hA (by omega)) ⟨by decide, by decide⟩ rfl (Nat.le_of_ble_eq_true rfl) ?_
  refine V_eqi (show _ = nI p from hst2) ?_
  refine V_istore (lv' := [(11, .int (nI p)), (10, .int (nI (e - a))), (0, .ref o), (1, .int (nI k)), (2, .int (nI a)), (3, .int v), (4, .long w), (6, .long h), (8, .long d)]) d_Mod_close_441 (by decide) rfl ?_
  refine V_ar_n d_Mod_close_443 rfl ?_
  refine VR_geta d_Mod_close_444 f_Mod_7 (by decide) ?_
  refine V_iload d_Mod_close_447 rfl ?_
  refine V_iload_n d_Mod_close_449 rfl ?_
  refine V_if_eq 457 d_Mod_close_450 (by decide) (fun h450 => ?_) (fun h450 => ?_)
  · refine V_iconst (v := 4) d_Mod_close_457 (by decide) ?_
    refine V_eqi (show _ = (if v = 0 then 4 else 5) from (if_pos h450).symm) ?_
    refine VR_iast hA d_Mod_close_458 rfl (by omega) (by decide) ?_
    refine V_ar_n d_Mod_close_459 rfl ?_
    refine VR_geta d_Mod_close_460 f_Mod_13 (by decide) ?_
    refine V_iload d_Mod_close_463 rfl ?_
    refine V_lload d_Mod_close_465 rfl ?_
    refine V_l2i d_Mod_close_467 ?_
    refine VR_iast hA d_Mod_close_468 rfl (by omega) (by decide) ?_
    refine V_ar_n d_Mod_close_469 rfl ?_
    refine VR_geta d_Mod_close_470 f_Mod_16 (by decide) ?_
    refine V_iload d_Mod_close_473 rfl ?_
    refine V_lload d_Mod_close_475 rfl ?_
    refine V_l2i d_Mod_close_477 ?_
    refine VR_iast hA d_Mod_close_478 rfl (by omega) (by decide) ?_
    refine V_ar_n d_Mod_close_479 rfl ?_
    refine VR_geta d_Mod_close_480 f_Mod_19 (by decide) ?_
    refine V_iload d_Mod_close_483 rfl ?_
    refine V_lload d_Mod_close_485 rfl ?_
    refine V_l2i d_Mod_close_487 ?_
    refine VR_iast hA d_Mod_close_488 rfl (by omega) (by decide) ?_
    refine V_ar_n d_Mod_close_489 rfl ?_
    refine VR_geta d_Mod_close_490 f_Mod_22 (by decide) ?_
    refine V_iload d_Mod_close_493 rfl ?_
    refine V_iconst (v := 0) d_Mod_close_495 (by decide) ?_
    refine VR_iast hA d_Mod_close_496 rfl (by omega) (by decide) ?_
    refine V_ar_n d_Mod_close_497 rfl ?_
    refine VR_geta d_Mod_close_498 f_Mod_25 (by decide) ?_
    refine V_iload d_Mod_close_501 rfl ?_
    refine V_iconst (v := 0) d_Mod_close_503 (by decide) ?_
    refine VR_iast hA d_Mod_close_504 rfl (by omega) (by decide) ?_
    refine V_ar_n d_Mod_close_505 rfl ?_
    refine VR_geta d_Mod_close_506 f_Mod_28 (by decide) ?_
    refine V_iload d_Mod_close_509 rfl ?_
    refine V_iload d_Mod_close_511 rfl ?_
    refine V_iconst (v := nI 1) d_Mod_close_513 (by decide) ?_
    refine V_iadd d_Mod_close_514 ?_
    refine V_eqi (nI_add (e - a) 1) ?_
    refine VR_iast hA d_Mod_close_515 rfl (by omega) (by decide) ?_
    refine V_iconst (v := nI 0) d_Mod_close_516 (by decide) ?_
    refine V_istore (lv' := [(12, .int (nI 0)), (11, .int (nI p)), (10, .int (nI (e - a))), (0, .ref o), (1, .int (nI k)), (2, .int (nI a)), (3, .int v), (4, .long w), (6, .long h), (8, .long d)]) d_Mod_close_517 (by decide) rfl ?_
    refine V_lv [3, 4, 5, 6, 7, 8, 9, 2, 1, 0] rfl ?_
    exact Mod_cl_519 hA (by omega) (by omega) (e - a) 0 (clhd (mak (emp r p n q k) p (e - a + 1) q1 k) p (e - a) v w h d) (by omega) ((mak_F (emp r p n q k) p (e - a + 1) q1 k 8).trans ((emp_F r p n q k 8).trans hL))
  · refine V_iconst (v := 5) d_Mod_close_453 (by decide) ?_
    refine V_goto 458 d_Mod_close_454 (by decide) ?_
    refine V_eqi (show _ = (if v = 0 then 4 else 5) from (if_neg h450).symm) ?_
    refine VR_iast hA d_Mod_close_458 rfl (by omega) (by decide) ?_
    refine V_ar_n d_Mod_close_459 rfl ?_
    refine VR_geta d_Mod_close_460 f_Mod_13 (by decide) ?_
    refine V_iload d_Mod_close_463 rfl ?_
    refine V_lload d_Mod_close_465 rfl ?_
    refine V_l2i d_Mod_close_467 ?_
    refine VR_iast hA d_Mod_close_468 rfl (by omega) (by decide) ?_
    refine V_ar_n d_Mod_close_469 rfl ?_
    refine VR_geta d_Mod_close_470 f_Mod_16 (by decide) ?_
    refine V_iload d_Mod_close_473 rfl ?_
    refine V_lload d_Mod_close_475 rfl ?_
    refine V_l2i d_Mod_close_477 ?_
    refine VR_iast hA d_Mod_close_478 rfl (by omega) (by decide) ?_
    refine V_ar_n d_Mod_close_479 rfl ?_
    refine VR_geta d_Mod_close_480 f_Mod_19 (by decide) ?_
    refine V_iload d_Mod_close_483 rfl ?_
    refine V_lload d_Mod_close_485 rfl ?_
    refine V_l2i d_Mod_close_487 ?_
    refine VR_iast hA d_Mod_close_488 rfl (by omega) (by decide) ?_
    refine V_ar_n d_Mod_close_489 rfl ?_
    refine VR_geta d_Mod_close_490 f_Mod_22 (by decide) ?_
    refine V_iload d_Mod_close_493 rfl ?_
    refine V_iconst (v := 0) d_Mod_close_495 (by decide) ?_
    refine VR_iast hA d_Mod_close_496 rfl (by omega) (by decide) ?_
    refine V_ar_n d_Mod_close_497 rfl ?_
    refine VR_geta d_Mod_close_498 f_Mod_25 (by decide) ?_
    refine V_iload d_Mod_close_501 rfl ?_
    refine V_iconst (v := 0) d_Mod_close_503 (by decide) ?_
    refine VR_iast hA d_Mod_close_504 rfl (by omega) (by decide) ?_
    refine V_ar_n d_Mod_close_505 rfl ?_
    refine VR_geta d_Mod_close_506 f_Mod_28 (by decide) ?_
    refine V_iload d_Mod_close_509 rfl ?_
    refine V_iload d_Mod_close_511 rfl ?_
    refine V_iconst (v := nI 1) d_Mod_close_513 (by decide) ?_
    refine V_iadd d_Mod_close_514 ?_
    refine V_eqi (nI_add (e - a) 1) ?_
    refine VR_iast hA d_Mod_close_515 rfl (by omega) (by decide) ?_
    refine V_iconst (v := nI 0) d_Mod_close_516 (by decide) ?_
    refine V_istore (lv' := [(12, .int (nI 0)), (11, .int (nI p)), (10, .int (nI (e - a))), (0, .ref o), (1, .int (nI k)), (2, .int (nI a)), (3, .int v), (4, .long w), (6, .long h), (8, .long d)]) d_Mod_close_517 (by decide) rfl ?_
    refine V_lv [3, 4, 5, 6, 7, 8, 9, 2, 1, 0] rfl ?_
    exact Mod_cl_519 hA (by omega) (by omega) (e - a) 0 (clhd (mak (emp r p n q k) p (e - a + 1) q1 k) p (e - a) v w h d) (by omega) ((mak_F (emp r p n q k) p (e - a + 1) q1 k 8).trans ((emp_F r p n q k 8).trans hL))
set_option maxRecDepth 100000 in
set_option maxHeartbeats 4000000 in
theorem Mod_cl_374 {l : Launch} {D : va_G} {ac : Nat → ClassId} {o : Nat} {ad : Nat → Nat} {M0 : MP} {r : RS} {Q : Option Value → MP → Prop} (hA : rAD o ad) {a e : Nat} {x v x10 : Int32} {w h d : Int64} (he : gF r 11 = nI e) (hae : a ≤ e) (he2 : e < 3100) (hN : ¬ clok r a e w h d → Q (some (.int 0)) (rM ac o ad r M0)) (hY : clok r a e w h d → V l D (tyl ac) t_Mod_close 0 0 414 [(0, .ref o), (1, .int x), (2, .int (nI a)), (3, .int v), (4, .long w), (6, .long h), (8, .long d), (10, .int x10)] [] (rM ac o ad (r) M0) Q) : V l D (tyl ac) t_Mod_close 0 0 374 [(0, .ref o), (1, .int x), (2, .int (nI a)), (3, .int v), (4, .long w), (6, .long h), (8, .long d), (10, .int x10)] [] (rM ac o ad (r) M0) Q := by
  refine V_lload d_Mod_close_374 rfl ?_
  refine VS_ci1 d_Mod_close_376 c_Mod_127 (Mod_isSizeLong w) ⟨by decide, by decide⟩ (Nat.le_of_ble_eq_true rfl) ?_
  refine V_if_eq 412 d_Mod_close_379 (by decide) (fun h379 => ?_) (fun h379 => ?_)
  · refine V_iconst (v := 0) d_Mod_close_412 (by decide) ?_
    exact V_zreturn d_Mod_close_413 rfl nz0 (hN (fun y => y.1 h379))
  · refine V_lload d_Mod_close_382 rfl ?_
    refine VS_ci1 d_Mod_close_384 c_Mod_127 (Mod_isSizeLong h) ⟨by decide, by decide⟩ (Nat.le_of_ble_eq_true rfl) ?_
    refine V_if_eq 412 d_Mod_close_387 (by decide) (fun h387 => ?_) (fun h387 => ?_)
    · refine V_iconst (v := 0) d_Mod_close_412 (by decide) ?_
      exact V_zreturn d_Mod_close_413 rfl nz0 (hN (fun y => y.2.1 h387))
    · refine V_lload d_Mod_close_390 rfl ?_
      refine VS_ci1 d_Mod_close_392 c_Mod_127 (Mod_isSizeLong d) ⟨by decide, by decide⟩ (Nat.le_of_ble_eq_true rfl) ?_
      refine V_if_eq 412 d_Mod_close_395 (by decide) (fun h395 => ?_) (fun h395 => ?_)
      · refine V_iconst (v := 0) d_Mod_close_412 (by decide) ?_
        exact V_zreturn d_Mod_close_413 rfl nz0 (hN (fun y => y.2.2.1 h395))
      · have hnl := nstm_le r a (e - a)
        refine V_ar_n d_Mod_close_398 rfl ?_
        refine V_iload_n d_Mod_close_399 rfl ?_
        refine V_ar_n d_Mod_close_400 rfl ?_
        refine VR_geti d_Mod_close_401 f_Mod_90 (by decide) ?_
        refine V_eqi (show _ = nI e from he) ?_
        refine VR_ci2 d_Mod_close_404 c_Mod_131 (Mod_nested hA hae (by omega)) ⟨by decide, by decide⟩ rfl (Nat.le_of_ble_eq_true rfl) ?_
        refine V_bipush (v := nI 99) d_Mod_close_407 (by decide) ?_
        refine V_icmp_le 414 d_Mod_close_409 (by decide) (fun h409 => ?_) (fun h409 => ?_)
        · exact hY ⟨h379, h387, h395, (nI_leI (by omega) (by decide)).mp h409⟩
        · refine V_iconst (v := 0) d_Mod_close_412 (by decide) ?_
          exact V_zreturn d_Mod_close_413 rfl nz0 (hN (fun y => h409 ((nI_leI (by omega) (by decide)).mpr y.2.2.2)))
def clh2 (v : Int32) (h d : Int64) : Int64 := h - (if v = 0 then 0 else d)
set_option maxRecDepth 100000 in
set_option maxHeartbeats 4000000 in
theorem Mod_cl_359 {l : Launch} {D : va_G} {ac : Nat → ClassId} {o : Nat} {ad : Nat → Nat} {M0 : MP} {r : RS} {Q : Option Value → MP → Prop} {a : Nat} {x v x10 : Int32} {w h d : Int64} (hK : V l D (tyl ac) t_Mod_close 0 0 374 [(0, .ref o), (1, .int x), (2, .int (nI a)), (3, .int v), (4, .long w), (6, .long (clh2 v h d)), (8, .long d), (10, .int x10)] [] (rM ac o ad (r) M0) Q) : V l D (tyl ac) t_Mod_close 0 0 359 [(0, .ref o), (1, .int x), (2, .int (nI a)), (3, .int v), (4, .long w), (6, .long h), (8, .long d), (10, .int x10)] [] (rM ac o ad (r) M0) Q := by
  refine V_lload d_Mod_close_359 rfl ?_
  refine V_iload_n d_Mod_close_361 rfl ?_
  refine V_if_eq 370 d_Mod_close_362 (by decide) (fun h362 => ?_) (fun h362 => ?_)
  · refine V_lconst (v := 0) d_Mod_close_370 (by decide) ?_
    refine V_lsub d_Mod_close_371 ?_
    refine V_eql (show _ = clh2 v h d from by rw [clh2, if_pos h362]) ?_
    refine V_lstore (lv' := [(6, .long (clh2 v h d)), (0, .ref o), (1, .int x), (2, .int (nI a)), (3, .int v), (4, .long w), (8, .long d), (10, .int x10)]) d_Mod_close_372 (by decide) rfl ?_
    refine V_lv [1, 2, 3, 4, 5, 0, 6, 7] rfl ?_
    exact hK
  · refine V_lload d_Mod_close_365 rfl ?_
    refine V_goto 371 d_Mod_close_367 (by decide) ?_
    refine V_lsub d_Mod_close_371 ?_
    refine V_eql (show _ = clh2 v h d from by rw [clh2, if_neg h362]) ?_
    refine V_lstore (lv' := [(6, .long (clh2 v h d)), (0, .ref o), (1, .int x), (2, .int (nI a)), (3, .int v), (4, .long w), (8, .long d), (10, .int x10)]) d_Mod_close_372 (by decide) rfl ?_
    refine V_lv [1, 2, 3, 4, 5, 0, 6, 7] rfl ?_
    exact hK
abbrev clen (r : RS) (x : Int32) : Prop := ¬ gF r 8 = 0 ∧ ¬ x < 0 ∧ ¬ 7 < x ∧ ¬ hrm r 1 = 0
/-- the sizes of the box that the list would become -/
def clt (r : RS) (a e : Nat) (sp : Nat → Nat) (v : Int32) : T3 := clo r v sp e (e - a) a (0, 0, 0)
abbrev cldo (r : RS) (a e : Nat) (sp : Nat → Nat) (v x : Int32) : Prop := clen r x ∧ clok r a e (clt r a e sp v).1 (clh2 v (clt r a e sp v).2.1 (clt r a e sp v).2.2) (clt r a e sp v).2.2
def clr (r : RS) (a e p n q q1 k L : Nat) (sp : Nat → Nat) (v x : Int32) : RS := if cldo r a e sp v x then clz (sF r 0 0) a e p n q q1 k L v (clt r a e sp v).1 (clh2 v (clt r a e sp v).2.1 (clt r a e sp v).2.2) (clt r a e sp v).2.2 else sF r 0 0
theorem clo_sF (r : RS) (v : Int32) (sp : Nat → Nat) (e : Nat) (x : Int32) : ∀ (m i : Nat) (t : T3), clo (sF r 0 x) v sp e m i t = clo r v sp e m i t := by
  intro m
  induction m with
  | zero => intro i t; rfl
  | succ m ih =>
    intro i t
    unfold clo
    rw [ih]
    rfl
theorem nI_7 {x : Int32} (h0 : ¬ x < 0) (h1 : ¬ 7 < x) : ∃ m, m < 8 ∧ x = nI m := by
  obtain ⟨j, hj, e⟩ := nI_of2 (x := x) (M := 7) (n := 7) (by decide) h0 (Int32.not_lt.mp h1)
  exact ⟨j, by omega, e⟩
theorem nstm_sF (r : RS) (x : Int32) (a n : Nat) : nstm (sF r 0 x) a n = nstm r a n := by
  induction n with
  | zero => rfl
  | succ n ih =>
    have hc : ∀ i m, nstc (sF r 0 x) a i m = nstc r a i m := by
      intro i m
      induction m with
      | zero => rfl
      | succ m ih2 => show nstc (sF r 0 x) a i m + _ = nstc r a i m + _; rw [ih2]; rfl
    show max (nstm (sF r 0 x) a n) (nstx (sF r 0 x) a (a + n)) = max (nstm r a n) (nstx r a (a + n))
    rw [ih]
    have hx : nstx (sF r 0 x) a (a + n) = nstx r a (a + n) := by unfold nstx; rw [hc]; rfl
    rw [hx]
set_option maxRecDepth 100000 in
set_option maxHeartbeats 4000000 in
theorem Mod_close {l : Launch} {D : va_G} {ac : Nat → ClassId} {o : Nat} {ad : Nat → Nat} {r : RS} (hA : rAD o ad) {a e p n q q1 k L : Nat} {sp : Nat → Nat} {v x : Int32} (hy1 : clen r x → gF r 8 = nI (L + 1) ∧ L < 100 ∧ gB r 9 L = nI a ∧ gF r 11 = nI e ∧ a ≤ e ∧ e < 3100 ∧ (∀ j, a ≤ j → j < e → gB r 7 j = nI (sp j) ∧ 0 < sp j ∧ j + sp j ≤ e) ∧ isv r (L + 1) = v) (hy2 : cldo r a e sp v x → x = nI k ∧ stt r k = nI p ∧ gB r 12 k = nI n ∧ 3100 + shv r = nI q ∧ p + n ≤ q ∧ q ≤ 6200 ∧ k < 8 ∧ stt (emp (sF r 0 0) p n q k) k = nI p ∧ 3100 + shv (emp (sF r 0 0) p n q k) = nI q1 ∧ 0 < p ∧ p ≤ q1 ∧ q1 + (e - a + 1) ≤ 6200 ∧ stt (mak (emp (sF r 0 0) p n q k) p (e - a + 1) q1 k) k = nI p) : RCi l D ac o ad t_Mod_close [.int x] r (if cldo r a e sp v x then 1 else 0) (clr r a e p n q q1 k L sp v x) := fun M0 => by
  refine Ct_of (by decide) (Nat.le_of_ble_eq_true rfl) ?_
  refine V_ar_n d_Mod_close_0 rfl ?_
  refine V_iconst (v := 0) d_Mod_close_1 (by decide) ?_
  refine VR_puti d_Mod_close_2 f_Mod_81 (by decide) ?_
  refine V_ar_n d_Mod_close_5 rfl ?_
  refine VR_geti d_Mod_close_6 f_Mod_97 (by decide) ?_
  refine V_if_eq 30 d_Mod_close_9 (by decide) (fun h9 => ?_) (fun h9 => ?_)
  · refine V_iconst (v := 0) d_Mod_close_30 (by decide) ?_
    exact V_zreturn d_Mod_close_31 rfl nz0 ⟨by rw [if_neg (fun z => z.1.1 h9)], by rw [clr, if_neg (fun z => z.1.1 h9)]⟩
  · refine V_iload_n d_Mod_close_12 rfl ?_
    refine V_if_lt 30 d_Mod_close_13 (by decide) (fun h13 => ?_) (fun h13 => ?_)
    · refine V_iconst (v := 0) d_Mod_close_30 (by decide) ?_
      exact V_zreturn d_Mod_close_31 rfl nz0 ⟨by rw [if_neg (fun z => z.1.2.1 h13)], by rw [clr, if_neg (fun z => z.1.2.1 h13)]⟩
    · refine V_iload_n d_Mod_close_16 rfl ?_
      refine V_bipush (v := 7) d_Mod_close_17 (by decide) ?_
      refine V_icmp_gt 30 d_Mod_close_19 (by decide) (fun h19 => ?_) (fun h19 => ?_)
      · refine V_iconst (v := 0) d_Mod_close_30 (by decide) ?_
        exact V_zreturn d_Mod_close_31 rfl nz0 ⟨by rw [if_neg (fun z => z.1.2.2.1 h19)], by rw [clr, if_neg (fun z => z.1.2.2.1 h19)]⟩
      · refine V_ar_n d_Mod_close_22 rfl ?_
        refine V_iconst (v := 1) d_Mod_close_23 (by decide) ?_
        refine VR_ci1 d_Mod_close_24 c_Mod_100 (Mod_hasRoom hA 1) ⟨by decide, by decide⟩ rfl (Nat.le_of_ble_eq_true rfl) ?_
        refine V_if_ne 32 d_Mod_close_27 (by decide) (fun h27 => ?_) (fun h27 => ?_)
        · have hen : clen r x := ⟨h9, h13, h19, h27⟩
          obtain ⟨hL, hL2, hba, he, hae, he2, hsp, hv⟩ := hy1 hen
          refine V_ar_n d_Mod_close_32 rfl ?_
          refine VR_geta d_Mod_close_33 f_Mod_31 (by decide) ?_
          refine V_ar_n d_Mod_close_36 rfl ?_
          refine VR_geti d_Mod_close_37 f_Mod_97 (by decide) ?_
          refine V_eqi (show _ = nI (L + 1) from hL) ?_
          refine V_iconst (v := 1) d_Mod_close_40 (by decide) ?_
          refine V_isub d_Mod_close_41 ?_
          refine V_eqi (nI_pred L) ?_
          refine VR_iald hA d_Mod_close_42 rfl (by omega) (by decide) ?_
          refine V_eqi (show _ = nI a from hba) ?_
          refine V_istore_n (lv' := [(2, .int (nI a)), (0, .ref o), (1, .int x)]) d_Mod_close_43 (by decide) rfl ?_
          refine V_ar_n d_Mod_close_44 rfl ?_
          refine VR_ci0 d_Mod_close_45 c_Mod_104 (Mod_isVertical hA hL (by omega)) ⟨by decide, by decide⟩ rfl (Nat.le_of_ble_eq_true rfl) ?_
          refine V_eqi (show _ = v from hv) ?_
          refine V_istore_n (lv' := [(3, .int v), (2, .int (nI a)), (0, .ref o), (1, .int x)]) d_Mod_close_48 (by decide) rfl ?_
          refine V_lconst (v := 0) d_Mod_close_49 (by decide) ?_
          refine V_lstore (lv' := [(4, .long 0), (3, .int v), (2, .int (nI a)), (0, .ref o), (1, .int x)]) d_Mod_close_50 (by decide) rfl ?_
          refine V_lconst (v := 0) d_Mod_close_52 (by decide) ?_
          refine V_lstore (lv' := [(6, .long 0), (4, .long 0), (3, .int v), (2, .int (nI a)), (0, .ref o), (1, .int x)]) d_Mod_close_53 (by decide) rfl ?_
          refine V_lconst (v := 0) d_Mod_close_55 (by decide) ?_
          refine V_lstore (lv' := [(8, .long 0), (6, .long 0), (4, .long 0), (3, .int v), (2, .int (nI a)), (0, .ref o), (1, .int x)]) d_Mod_close_56 (by decide) rfl ?_
          refine V_iload_n d_Mod_close_58 rfl ?_
          refine V_istore (lv' := [(10, .int (nI a)), (8, .long 0), (6, .long 0), (4, .long 0), (3, .int v), (2, .int (nI a)), (0, .ref o), (1, .int x)]) d_Mod_close_59 (by decide) rfl ?_
          refine V_lv [6, 7, 5, 4, 3, 2, 1, 0] rfl ?_
          refine Mod_cl_61 (r := sF r 0 0) (t9 := clt r a e sp v) hA he (by omega) hsp ?_ (e - a) a (0, 0, 0) (Nat.le_refl a) (by omega) hae (clo_sF r v sp e 0 _ _ _)
          intro i t hi ht
          subst ht
          refine Mod_cl_359 ?_
          refine Mod_cl_374 hA he hae (by omega) ?_ ?_
          · intro hn
            have hn2 : ¬ cldo r a e sp v x := fun z => hn ⟨z.2.1, z.2.2.1, z.2.2.2.1, by rw [nstm_sF]; exact z.2.2.2.2⟩
            exact ⟨by rw [if_neg hn2], by rw [clr, if_neg hn2]⟩
          · intro hok
            have hdo : cldo r a e sp v x := ⟨hen, hok.1, hok.2.1, hok.2.2.1, by have h4 := hok.2.2.2; rw [nstm_sF] at h4; exact h4⟩
            obtain ⟨hxk, hst, hsz, hall, hpq, hq, hk, hst1, hall1, hp, hpq1, hq1, hst2⟩ := hy2 hdo
            subst hxk
            rw [if_pos hdo, clr, if_pos hdo]
            exact Mod_cl_414 (r := sF r 0 0) hA hst hsz hall hpq hq hk hst1 hall1 hp hpq1 hq1 hst2 he hae (by omega) hL
        · refine V_iconst (v := 0) d_Mod_close_30 (by decide) ?_
          exact V_zreturn d_Mod_close_31 rfl nz0 ⟨by rw [if_neg (fun z => h27 z.1.2.2.2)], by rw [clr, if_neg (fun z => h27 z.1.2.2.2)]⟩
