/-! placeAll -/
/-- how many boxes stay open at i, of m -/
def popq (r : RS) (i : Nat) : Nat → Nat
  | 0 => 0
  | m + 1 => if gB r 28 m ≤ nI i then popq r i m else m + 1
theorem popq_le (r : RS) (i m : Nat) : popq r i m ≤ m := by
  induction m with
  | zero => exact Nat.le_refl 0
  | succ m ih => unfold popq; split <;> omega
theorem sF_self (r : RS) (k : Nat) {v : Int32} (h : gF r k = v) : sF r k v = r := by
  unfold sF
  have : va_up r.1 k v = r.1 := by
    funext j
    unfold va_up
    split
    · next hj => rw [hj]; exact h.symm
    · rfl
  rw [this]
theorem sF_sF (r : RS) (k : Nat) (u v : Int32) : sF (sF r k u) k v = sF r k v := by
  unfold sF
  simp only [bx_uu]
def plx (r : RS) (q i b bx : Nat) (A : Int32) (s : Int64) : Int64 := (if A = 0 then (gB r 25 (bx - b)).toInt64 else r.2.2.2 (q - 1)) + (if A = 0 then s else 0)
def ply0 (r : RS) (q b bx : Nat) (A : Int32) : Int64 := if A = 0 then r.2.2.2 (q - 1) else (gB r 26 (bx - b)).toInt64
def ply (y : Int64) (A R S : Int32) (s h d : Int64) : Int64 := y + (if A = 0 then (if S = 0 then h else 0) else s) + (if R = 0 then 0 else d)
def pls (r : RS) (R : Int32) (x y hd : Int64) : RS := if R = 0 then szd (szd r x) y else szd (szd (szd r x) y) hd
def plw (A S : Int32) (w hd : Int64) : Int64 := if A = 0 then (if S = 0 then hd else w) else w
def pla1 (r : RS) (q : Nat) (w : Int64) : RS := szd (sL r (vp_updL r.2.2.2 (q - 1) (r.2.2.2 (q - 1) + w))) (r.2.2.2 (q - 1) + w)
def plp (r : RS) (j : Nat) (x y : Int64) : RS := w1 (w1 r 25 j x.toInt32) 26 j y.toInt32
def ple (r : RS) (q i b : Nat) : RS := if ¬ isb r i = 0 ∧ 1 < gB r 7 i ∧ ¬ gF r 33 = 0 then ent r q i b else r
def rlz (r : RS) (i : Nat) (k : Int32) : Int32 := if gB r 1 i = k then 1 else 0
/-- item i is placed: q boxes are open, the innermost is bx -/
def plc (r : RS) (q i b bx : Nat) : RS :=
  ple (plp (pla1 (pls r (rlz r i 2) (plx r q i b bx (acr r bx) (cls1 r i)) (ply (ply0 r q b bx (acr r bx)) (acr r bx) (rlz r i 2) (rlz r i 3) (cls1 r i) (rsel r 3 i bx).toInt64 (rsel r 4 i bx).toInt64) ((rsel r 3 i bx).toInt64 + (rsel r 4 i bx).toInt64)) q (plw (acr r bx) (rlz r i 3) (gB r 2 i).toInt64 ((rsel r 3 i bx).toInt64 + (rsel r 4 i bx).toInt64))) (i - b) (plx r q i b bx (acr r bx) (cls1 r i)) (ply (ply0 r q b bx (acr r bx)) (acr r bx) (rlz r i 2) (rlz r i 3) (cls1 r i) (rsel r 3 i bx).toInt64 (rsel r 4 i bx).toInt64)) q i b
set_option maxRecDepth 100000 in
set_option maxHeartbeats 4000000 in
theorem PL_491 {l : Launch} {D : va_G} {ac : Nat → ClassId} {o : Nat} {ad : Nat → Nat} {M0 : MP} {Q : Option Value → MP → Prop} {r : RS} (hA : rAD o ad) {b n i bx q : Nat} {A R S : Int32} {x y s h d : Int64} (hi : i < 6200) (hbi : b ≤ i) (hib : i - b < 3100) (hbx : b ≤ bx) (hbx2 : bx < 6200) (hbxb : bx - b < 3100) (hq : gF r 27 = nI q) (hq0 : 0 < q) (hq1 : q ≤ 101)  (hK : V l D (tyl ac) t_Mod_placeAll 0 0 34 [(0, .ref o), (1, .int (nI b)), (2, .int (nI n)), (3, .int (nI (i + 1)))] [] (rM ac o ad (r) M0) Q) : V l D (tyl ac) t_Mod_placeAll 0 0 491 [(0, .ref o), (1, .int (nI b)), (2, .int (nI n)), (3, .int (nI i)), (4, .int (nI bx)), (5, .int A), (6, .long x), (8, .long y), (10, .long s), (12, .long h), (14, .long d), (16, .int R), (17, .int S)] [] (rM ac o ad (r) M0) Q := by
  refine V_iinc (v := nI (i + 1)) (lv' := [(3, .int (nI (i + 1))), (0, .ref o), (1, .int (nI b)), (2, .int (nI n)), (4, .int (nI bx)), (5, .int A), (6, .long x), (8, .long y), (10, .long s), (12, .long h), (14, .long d), (16, .int R), (17, .int S)]) 3 d_Mod_placeAll_491 rfl (nI_1 i) (by decide) rfl ?_
  refine V_goto 34 d_Mod_placeAll_494 (by decide) ?_
  refine V_lv [1, 2, 3, 0] rfl ?_
  exact hK
set_option maxRecDepth 100000 in
set_option maxHeartbeats 4000000 in
theorem PL_460 {l : Launch} {D : va_G} {ac : Nat → ClassId} {o : Nat} {ad : Nat → Nat} {M0 : MP} {Q : Option Value → MP → Prop} {r : RS} (hA : rAD o ad) {b n i bx q : Nat} {A R S : Int32} {x y s h d : Int64} (hi : i < 6200) (hbi : b ≤ i) (hib : i - b < 3100) (hbx : b ≤ bx) (hbx2 : bx < 6200) (hbxb : bx - b < 3100) (hq : gF r 27 = nI q) (hq0 : 0 < q) (hq1 : q ≤ 101)  (hK : V l D (tyl ac) t_Mod_placeAll 0 0 34 [(0, .ref o), (1, .int (nI b)), (2, .int (nI n)), (3, .int (nI (i + 1)))] [] (rM ac o ad (ple r q i b) M0) Q) : V l D (tyl ac) t_Mod_placeAll 0 0 460 [(0, .ref o), (1, .int (nI b)), (2, .int (nI n)), (3, .int (nI i)), (4, .int (nI bx)), (5, .int A), (6, .long x), (8, .long y), (10, .long s), (12, .long h), (14, .long d), (16, .int R), (17, .int S)] [] (rM ac o ad (r) M0) Q := by
  refine V_ar_n d_Mod_placeAll_460 rfl ?_
  refine V_iload_n d_Mod_placeAll_461 rfl ?_
  refine VR_ci1 d_Mod_placeAll_462 c_Mod_116 (Mod_isBox hA hi) ⟨by decide, by decide⟩ rfl (Nat.le_of_ble_eq_true rfl) ?_
  refine V_if_eq 491 d_Mod_placeAll_465 (by decide) (fun h465 => ?_) (fun h465 => ?_)
  · rw [ple, if_neg (fun z => z.1 h465)] at hK
    exact PL_491 hA hi hbi hib hbx hbx2 hbxb hq hq0 hq1 hK
  · refine V_ar_n d_Mod_placeAll_468 rfl ?_
    refine VR_geta d_Mod_placeAll_469 f_Mod_28 (by decide) ?_
    refine V_iload_n d_Mod_placeAll_472 rfl ?_
    refine VR_iald hA d_Mod_placeAll_473 rfl (by omega) (by decide) ?_
    refine V_iconst (v := 1) d_Mod_placeAll_474 (by decide) ?_
    refine V_icmp_le 491 d_Mod_placeAll_475 (by decide) (fun h475 => ?_) (fun h475 => ?_)
    · rw [ple, if_neg (fun z => absurd h475 (Int32.not_le.mpr z.2.1))] at hK
      exact PL_491 hA hi hbi hib hbx hbx2 hbxb hq hq0 hq1 hK
    · refine V_ar_n d_Mod_placeAll_478 rfl ?_
      refine VR_geti d_Mod_placeAll_479 f_Mod_156 (by decide) ?_
      refine V_if_eq 491 d_Mod_placeAll_482 (by decide) (fun h482 => ?_) (fun h482 => ?_)
      · rw [ple, if_neg (fun z => z.2.2 h482)] at hK
        exact PL_491 hA hi hbi hib hbx hbx2 hbxb hq hq0 hq1 hK
      · rw [ple, if_pos ⟨h465, Int32.not_le.mp h475, h482⟩] at hK
        refine V_ar_n d_Mod_placeAll_485 rfl ?_
        refine V_iload_n d_Mod_placeAll_486 rfl ?_
        refine V_iload_n d_Mod_placeAll_487 rfl ?_
        refine VR_cv2 d_Mod_placeAll_488 c_Mod_167 (Mod_enter hA hq (by omega) hbi hi hib) ⟨by decide, by decide⟩ rfl (Nat.le_of_ble_eq_true rfl) ?_
        refine V_iinc (v := nI (i + 1)) (lv' := [(3, .int (nI (i + 1))), (0, .ref o), (1, .int (nI b)), (2, .int (nI n)), (4, .int (nI bx)), (5, .int A), (6, .long x), (8, .long y), (10, .long s), (12, .long h), (14, .long d), (16, .int R), (17, .int S)]) 3 d_Mod_placeAll_491 rfl (nI_1 i) (by decide) rfl ?_
        refine V_goto 34 d_Mod_placeAll_494 (by decide) ?_
        refine V_lv [1, 2, 3, 0] rfl ?_
        exact hK
set_option maxRecDepth 100000 in
set_option maxHeartbeats 4000000 in
theorem PL_423 {l : Launch} {D : va_G} {ac : Nat → ClassId} {o : Nat} {ad : Nat → Nat} {M0 : MP} {Q : Option Value → MP → Prop} {r : RS} (hA : rAD o ad) {b n i bx q : Nat} {A R S : Int32} {x y s h d : Int64} (hi : i < 6200) (hbi : b ≤ i) (hib : i - b < 3100) (hbx : b ≤ bx) (hbx2 : bx < 6200) (hbxb : bx - b < 3100) (hq : gF r 27 = nI q) (hq0 : 0 < q) (hq1 : q ≤ 101) {v9 : Int64} (hv9 : r.2.2.2 (q - 1) = v9) (hK : V l D (tyl ac) t_Mod_placeAll 0 0 34 [(0, .ref o), (1, .int (nI b)), (2, .int (nI n)), (3, .int (nI (i + 1)))] [] (rM ac o ad (ple (plp (szd r v9) (i - b) x y) q i b) M0) Q) : V l D (tyl ac) t_Mod_placeAll 0 0 423 [(0, .ref o), (1, .int (nI b)), (2, .int (nI n)), (3, .int (nI i)), (4, .int (nI bx)), (5, .int A), (6, .long x), (8, .long y), (10, .long s), (12, .long h), (14, .long d), (16, .int R), (17, .int S)] [] (rM ac o ad (r) M0) Q := by
  refine V_ar_n d_Mod_placeAll_423 rfl ?_
  refine V_ar_n d_Mod_placeAll_424 rfl ?_
  refine VR_geta d_Mod_placeAll_425 f_Mod_71 (by decide) ?_
  refine V_ar_n d_Mod_placeAll_428 rfl ?_
  refine VR_geti d_Mod_placeAll_429 f_Mod_160 (by decide) ?_
  refine V_eqi (show _ = nI q from hq) ?_
  refine V_iconst (v := 1) d_Mod_placeAll_432 (by decide) ?_
  refine V_isub d_Mod_placeAll_433 ?_
  refine V_eqi (pk_sub (b := 1) hq0) ?_
  refine VR_lald hA d_Mod_placeAll_434 (by omega) ?_
  refine V_eql (show _ = v9 from hv9) ?_
  refine VR_cv1 d_Mod_placeAll_435 c_Mod_163 (Mod_sized _) ⟨by decide, by decide⟩ rfl (Nat.le_of_ble_eq_true rfl) ?_
  refine V_ar_n d_Mod_placeAll_438 rfl ?_
  refine VR_geta d_Mod_placeAll_439 f_Mod_62 (by decide) ?_
  refine V_iload_n d_Mod_placeAll_442 rfl ?_
  refine V_iload_n d_Mod_placeAll_443 rfl ?_
  refine V_isub d_Mod_placeAll_444 ?_
  refine V_eqi (pk_sub hbi) ?_
  refine V_lload d_Mod_placeAll_445 rfl ?_
  refine V_l2i d_Mod_placeAll_447 ?_
  refine VR_iast hA d_Mod_placeAll_448 rfl (by omega) (by decide) ?_
  refine V_ar_n d_Mod_placeAll_449 rfl ?_
  refine VR_geta d_Mod_placeAll_450 f_Mod_65 (by decide) ?_
  refine V_iload_n d_Mod_placeAll_453 rfl ?_
  refine V_iload_n d_Mod_placeAll_454 rfl ?_
  refine V_isub d_Mod_placeAll_455 ?_
  refine V_eqi (pk_sub hbi) ?_
  refine V_lload d_Mod_placeAll_456 rfl ?_
  refine V_l2i d_Mod_placeAll_458 ?_
  refine VR_iast hA d_Mod_placeAll_459 rfl (by omega) (by decide) ?_
  exact PL_460 (r := plp (szd r v9) (i - b) x y) hA hi hbi hib hbx hbx2 hbxb hq hq0 hq1 hK
set_option maxRecDepth 100000 in
set_option maxHeartbeats 4000000 in
theorem PL_374 {l : Launch} {D : va_G} {ac : Nat → ClassId} {o : Nat} {ad : Nat → Nat} {M0 : MP} {Q : Option Value → MP → Prop} {r : RS} (hA : rAD o ad) {b n i bx q : Nat} {A R S : Int32} {x y s h d : Int64} (hi : i < 6200) (hbi : b ≤ i) (hib : i - b < 3100) (hbx : b ≤ bx) (hbx2 : bx < 6200) (hbxb : bx - b < 3100) (hq : gF r 27 = nI q) (hq0 : 0 < q) (hq1 : q ≤ 101)  (hK : V l D (tyl ac) t_Mod_placeAll 0 0 34 [(0, .ref o), (1, .int (nI b)), (2, .int (nI n)), (3, .int (nI (i + 1)))] [] (rM ac o ad (ple (plp (pla1 r q (plw A S (gB r 2 i).toInt64 (h + d))) (i - b) x y) q i b) M0) Q) : V l D (tyl ac) t_Mod_placeAll 0 0 374 [(0, .ref o), (1, .int (nI b)), (2, .int (nI n)), (3, .int (nI i)), (4, .int (nI bx)), (5, .int A), (6, .long x), (8, .long y), (10, .long s), (12, .long h), (14, .long d), (16, .int R), (17, .int S)] [] (rM ac o ad (r) M0) Q := by
  refine V_ar_n d_Mod_placeAll_374 rfl ?_
  refine VR_geta d_Mod_placeAll_375 f_Mod_71 (by decide) ?_
  refine V_ar_n d_Mod_placeAll_378 rfl ?_
  refine VR_geti d_Mod_placeAll_379 f_Mod_160 (by decide) ?_
  refine V_eqi (show _ = nI q from hq) ?_
  refine V_iconst (v := 1) d_Mod_placeAll_382 (by decide) ?_
  refine V_isub d_Mod_placeAll_383 ?_
  refine V_eqi (pk_sub (b := 1) hq0) ?_
  refine V_dup2 d_Mod_placeAll_384 rfl rfl ?_
  refine VR_lald hA d_Mod_placeAll_385 (by omega) ?_
  refine V_iload d_Mod_placeAll_386 rfl ?_
  refine V_if_eq 401 d_Mod_placeAll_388 (by decide) (fun h388 => ?_) (fun h388 => ?_)
  · refine V_iload d_Mod_placeAll_401 rfl ?_
    refine V_if_eq 416 d_Mod_placeAll_403 (by decide) (fun h403 => ?_) (fun h403 => ?_)
    · refine V_lload d_Mod_placeAll_416 rfl ?_
      refine V_lload d_Mod_placeAll_418 rfl ?_
      refine V_ladd d_Mod_placeAll_420 ?_
      refine V_eql (show _ = plw A S (gB r 2 i).toInt64 (h + d) from by rw [plw, if_pos h388, if_pos h403]) ?_
      refine V_ladd d_Mod_placeAll_421 ?_
      refine VR_last hA d_Mod_placeAll_422 (by omega) ?_
      exact PL_423 (r := sL r (vp_updL r.2.2.2 (q - 1) (r.2.2.2 (q - 1) + plw A S (gB r 2 i).toInt64 (h + d)))) hA hi hbi hib hbx hbx2 hbxb hq hq0 hq1 pk_uLs hK
    · refine V_ar_n d_Mod_placeAll_406 rfl ?_
      refine VR_geta d_Mod_placeAll_407 f_Mod_13 (by decide) ?_
      refine V_iload_n d_Mod_placeAll_410 rfl ?_
      refine VR_iald hA d_Mod_placeAll_411 rfl (by omega) (by decide) ?_
      refine V_i2l d_Mod_placeAll_412 ?_
      refine V_goto 421 d_Mod_placeAll_413 (by decide) ?_
      refine V_eql (show _ = plw A S (gB r 2 i).toInt64 (h + d) from by rw [plw, if_pos h388, if_neg h403]) ?_
      refine V_ladd d_Mod_placeAll_421 ?_
      refine VR_last hA d_Mod_placeAll_422 (by omega) ?_
      exact PL_423 (r := sL r (vp_updL r.2.2.2 (q - 1) (r.2.2.2 (q - 1) + plw A S (gB r 2 i).toInt64 (h + d)))) hA hi hbi hib hbx hbx2 hbxb hq hq0 hq1 pk_uLs hK
  · refine V_ar_n d_Mod_placeAll_391 rfl ?_
    refine VR_geta d_Mod_placeAll_392 f_Mod_13 (by decide) ?_
    refine V_iload_n d_Mod_placeAll_395 rfl ?_
    refine VR_iald hA d_Mod_placeAll_396 rfl (by omega) (by decide) ?_
    refine V_i2l d_Mod_placeAll_397 ?_
    refine V_goto 421 d_Mod_placeAll_398 (by decide) ?_
    refine V_eql (show _ = plw A S (gB r 2 i).toInt64 (h + d) from by rw [plw, if_neg h388]) ?_
    refine V_ladd d_Mod_placeAll_421 ?_
    refine VR_last hA d_Mod_placeAll_422 (by omega) ?_
    exact PL_423 (r := sL r (vp_updL r.2.2.2 (q - 1) (r.2.2.2 (q - 1) + plw A S (gB r 2 i).toInt64 (h + d)))) hA hi hbi hib hbx hbx2 hbxb hq hq0 hq1 pk_uLs hK
set_option maxRecDepth 100000 in
set_option maxHeartbeats 4000000 in
theorem PL_348 {l : Launch} {D : va_G} {ac : Nat → ClassId} {o : Nat} {ad : Nat → Nat} {M0 : MP} {Q : Option Value → MP → Prop} {r : RS} (hA : rAD o ad) {b n i bx q : Nat} {A R S : Int32} {x y s h d : Int64} (hi : i < 6200) (hbi : b ≤ i) (hib : i - b < 3100) (hbx : b ≤ bx) (hbx2 : bx < 6200) (hbxb : bx - b < 3100) (hq : gF r 27 = nI q) (hq0 : 0 < q) (hq1 : q ≤ 101)  (hK : V l D (tyl ac) t_Mod_placeAll 0 0 34 [(0, .ref o), (1, .int (nI b)), (2, .int (nI n)), (3, .int (nI (i + 1)))] [] (rM ac o ad (ple (plp (pla1 (pls r R x y (h + d)) q (plw A S (gB r 2 i).toInt64 (h + d))) (i - b) x y) q i b) M0) Q) : V l D (tyl ac) t_Mod_placeAll 0 0 348 [(0, .ref o), (1, .int (nI b)), (2, .int (nI n)), (3, .int (nI i)), (4, .int (nI bx)), (5, .int A), (6, .long x), (8, .long y), (10, .long s), (12, .long h), (14, .long d), (16, .int R), (17, .int S)] [] (rM ac o ad (r) M0) Q := by
  refine V_ar_n d_Mod_placeAll_348 rfl ?_
  refine V_lload d_Mod_placeAll_349 rfl ?_
  refine VR_cv1 d_Mod_placeAll_351 c_Mod_163 (Mod_sized _) ⟨by decide, by decide⟩ rfl (Nat.le_of_ble_eq_true rfl) ?_
  refine V_ar_n d_Mod_placeAll_354 rfl ?_
  refine V_lload d_Mod_placeAll_355 rfl ?_
  refine VR_cv1 d_Mod_placeAll_357 c_Mod_163 (Mod_sized _) ⟨by decide, by decide⟩ rfl (Nat.le_of_ble_eq_true rfl) ?_
  refine V_iload d_Mod_placeAll_360 rfl ?_
  refine V_if_eq 374 d_Mod_placeAll_362 (by decide) (fun h362 => ?_) (fun h362 => ?_)
  · rw [pls, if_pos h362] at hK
    exact PL_374 (r := szd (szd r x) y) hA hi hbi hib hbx hbx2 hbxb hq hq0 hq1 hK
  · refine V_ar_n d_Mod_placeAll_365 rfl ?_
    refine V_lload d_Mod_placeAll_366 rfl ?_
    refine V_lload d_Mod_placeAll_368 rfl ?_
    refine V_ladd d_Mod_placeAll_370 ?_
    refine VR_cv1 d_Mod_placeAll_371 c_Mod_163 (Mod_sized _) ⟨by decide, by decide⟩ rfl (Nat.le_of_ble_eq_true rfl) ?_
    rw [pls, if_neg h362] at hK
    exact PL_374 (r := szd (szd (szd r x) y) (h + d)) hA hi hbi hib hbx hbx2 hbxb hq hq0 hq1 hK
set_option maxRecDepth 100000 in
set_option maxHeartbeats 4000000 in
theorem PL_290 {l : Launch} {D : va_G} {ac : Nat → ClassId} {o : Nat} {ad : Nat → Nat} {M0 : MP} {Q : Option Value → MP → Prop} {r : RS} (hA : rAD o ad) {b n i bx q : Nat} {A R S : Int32} {x y s h d : Int64} (hi : i < 6200) (hbi : b ≤ i) (hib : i - b < 3100) (hbx : b ≤ bx) (hbx2 : bx < 6200) (hbxb : bx - b < 3100) (hq : gF r 27 = nI q) (hq0 : 0 < q) (hq1 : q ≤ 101)  (hK : V l D (tyl ac) t_Mod_placeAll 0 0 34 [(0, .ref o), (1, .int (nI b)), (2, .int (nI n)), (3, .int (nI (i + 1)))] [] (rM ac o ad (ple (plp (pla1 (pls r R (x + (if A = 0 then s else 0)) (ply y A R S s h d) (h + d)) q (plw A S (gB r 2 i).toInt64 (h + d))) (i - b) (x + (if A = 0 then s else 0)) (ply y A R S s h d)) q i b) M0) Q) : V l D (tyl ac) t_Mod_placeAll 0 0 290 [(0, .ref o), (1, .int (nI b)), (2, .int (nI n)), (3, .int (nI i)), (4, .int (nI bx)), (5, .int A), (6, .long x), (8, .long y), (10, .long s), (12, .long h), (14, .long d), (16, .int R), (17, .int S)] [] (rM ac o ad (r) M0) Q := by
  refine V_lload d_Mod_placeAll_290 rfl ?_
  refine V_iload d_Mod_placeAll_292 rfl ?_
  refine V_if_eq 301 d_Mod_placeAll_294 (by decide) (fun hA0 => ?_) (fun hA0 => ?_)
  · refine V_lload d_Mod_placeAll_301 rfl ?_
    refine V_ladd d_Mod_placeAll_303 ?_
    refine V_eql (show _ = x + (if A = 0 then s else 0) from by rw [if_pos hA0]) ?_
    refine V_lstore (lv' := [(6, .long (x + (if A = 0 then s else 0))), (0, .ref o), (1, .int (nI b)), (2, .int (nI n)), (3, .int (nI i)), (4, .int (nI bx)), (5, .int A), (8, .long y), (10, .long s), (12, .long h), (14, .long d), (16, .int R), (17, .int S)]) d_Mod_placeAll_304 (by decide) rfl ?_
    refine V_lload d_Mod_placeAll_306 rfl ?_
    refine V_iload d_Mod_placeAll_308 rfl ?_
    refine V_if_eq 318 d_Mod_placeAll_310 (by decide) (fun h310 => ?_) (fun h310 => ?_)
    · refine V_iload d_Mod_placeAll_318 rfl ?_
      refine V_if_eq 327 d_Mod_placeAll_320 (by decide) (fun h320 => ?_) (fun h320 => ?_)
      · refine V_lload d_Mod_placeAll_327 rfl ?_
        refine V_ladd d_Mod_placeAll_329 ?_
        refine V_lstore (lv' := [(8, .long (y + h)), (6, .long (x + (if A = 0 then s else 0))), (0, .ref o), (1, .int (nI b)), (2, .int (nI n)), (3, .int (nI i)), (4, .int (nI bx)), (5, .int A), (10, .long s), (12, .long h), (14, .long d), (16, .int R), (17, .int S)]) d_Mod_placeAll_330 (by decide) rfl ?_
        refine V_lload d_Mod_placeAll_332 rfl ?_
        refine V_iload d_Mod_placeAll_334 rfl ?_
        refine V_if_eq 344 d_Mod_placeAll_336 (by decide) (fun h336 => ?_) (fun h336 => ?_)
        · refine V_lconst (v := 0) d_Mod_placeAll_344 (by decide) ?_
          refine V_ladd d_Mod_placeAll_345 ?_
          refine V_eql (show _ = ply y A R S s h d from by rw [ply, if_pos hA0, if_pos h320, if_pos h336]) ?_
          refine V_lstore (lv' := [(8, .long (ply y A R S s h d)), (6, .long (x + (if A = 0 then s else 0))), (0, .ref o), (1, .int (nI b)), (2, .int (nI n)), (3, .int (nI i)), (4, .int (nI bx)), (5, .int A), (10, .long s), (12, .long h), (14, .long d), (16, .int R), (17, .int S)]) d_Mod_placeAll_346 (by decide) rfl ?_
          refine V_lv [2, 3, 4, 5, 6, 7, 1, 0, 8, 9, 10, 11, 12] rfl ?_
          exact PL_348 hA hi hbi hib hbx hbx2 hbxb hq hq0 hq1 hK
        · refine V_lload d_Mod_placeAll_339 rfl ?_
          refine V_goto 345 d_Mod_placeAll_341 (by decide) ?_
          refine V_ladd d_Mod_placeAll_345 ?_
          refine V_eql (show _ = ply y A R S s h d from by rw [ply, if_pos hA0, if_pos h320, if_neg h336]) ?_
          refine V_lstore (lv' := [(8, .long (ply y A R S s h d)), (6, .long (x + (if A = 0 then s else 0))), (0, .ref o), (1, .int (nI b)), (2, .int (nI n)), (3, .int (nI i)), (4, .int (nI bx)), (5, .int A), (10, .long s), (12, .long h), (14, .long d), (16, .int R), (17, .int S)]) d_Mod_placeAll_346 (by decide) rfl ?_
          refine V_lv [2, 3, 4, 5, 6, 7, 1, 0, 8, 9, 10, 11, 12] rfl ?_
          exact PL_348 hA hi hbi hib hbx hbx2 hbxb hq hq0 hq1 hK
      · refine V_lconst (v := 0) d_Mod_placeAll_323 (by decide) ?_
        refine V_goto 329 d_Mod_placeAll_324 (by decide) ?_
        refine V_ladd d_Mod_placeAll_329 ?_
        refine V_lstore (lv' := [(8, .long (y + 0)), (6, .long (x + (if A = 0 then s else 0))), (0, .ref o), (1, .int (nI b)), (2, .int (nI n)), (3, .int (nI i)), (4, .int (nI bx)), (5, .int A), (10, .long s), (12, .long h), (14, .long d), (16, .int R), (17, .int S)]) d_Mod_placeAll_330 (by decide) rfl ?_
        refine V_lload d_Mod_placeAll_332 rfl ?_
        refine V_iload d_Mod_placeAll_334 rfl ?_
        refine V_if_eq 344 d_Mod_placeAll_336 (by decide) (fun h336 => ?_) (fun h336 => ?_)
        · refine V_lconst (v := 0) d_Mod_placeAll_344 (by decide) ?_
          refine V_ladd d_Mod_placeAll_345 ?_
          refine V_eql (show _ = ply y A R S s h d from by rw [ply, if_pos hA0, if_neg h320, if_pos h336]) ?_
          refine V_lstore (lv' := [(8, .long (ply y A R S s h d)), (6, .long (x + (if A = 0 then s else 0))), (0, .ref o), (1, .int (nI b)), (2, .int (nI n)), (3, .int (nI i)), (4, .int (nI bx)), (5, .int A), (10, .long s), (12, .long h), (14, .long d), (16, .int R), (17, .int S)]) d_Mod_placeAll_346 (by decide) rfl ?_
          refine V_lv [2, 3, 4, 5, 6, 7, 1, 0, 8, 9, 10, 11, 12] rfl ?_
          exact PL_348 hA hi hbi hib hbx hbx2 hbxb hq hq0 hq1 hK
        · refine V_lload d_Mod_placeAll_339 rfl ?_
          refine V_goto 345 d_Mod_placeAll_341 (by decide) ?_
          refine V_ladd d_Mod_placeAll_345 ?_
          refine V_eql (show _ = ply y A R S s h d from by rw [ply, if_pos hA0, if_neg h320, if_neg h336]) ?_
          refine V_lstore (lv' := [(8, .long (ply y A R S s h d)), (6, .long (x + (if A = 0 then s else 0))), (0, .ref o), (1, .int (nI b)), (2, .int (nI n)), (3, .int (nI i)), (4, .int (nI bx)), (5, .int A), (10, .long s), (12, .long h), (14, .long d), (16, .int R), (17, .int S)]) d_Mod_placeAll_346 (by decide) rfl ?_
          refine V_lv [2, 3, 4, 5, 6, 7, 1, 0, 8, 9, 10, 11, 12] rfl ?_
          exact PL_348 hA hi hbi hib hbx hbx2 hbxb hq hq0 hq1 hK
    · exact absurd hA0 h310
  · refine V_lconst (v := 0) d_Mod_placeAll_297 (by decide) ?_
    refine V_goto 303 d_Mod_placeAll_298 (by decide) ?_
    refine V_ladd d_Mod_placeAll_303 ?_
    refine V_eql (show _ = x + (if A = 0 then s else 0) from by rw [if_neg hA0]) ?_
    refine V_lstore (lv' := [(6, .long (x + (if A = 0 then s else 0))), (0, .ref o), (1, .int (nI b)), (2, .int (nI n)), (3, .int (nI i)), (4, .int (nI bx)), (5, .int A), (8, .long y), (10, .long s), (12, .long h), (14, .long d), (16, .int R), (17, .int S)]) d_Mod_placeAll_304 (by decide) rfl ?_
    refine V_lload d_Mod_placeAll_306 rfl ?_
    refine V_iload d_Mod_placeAll_308 rfl ?_
    refine V_if_eq 318 d_Mod_placeAll_310 (by decide) (fun h310 => ?_) (fun h310 => ?_)
    · exact absurd h310 hA0
    · refine V_lload d_Mod_placeAll_313 rfl ?_
      refine V_goto 329 d_Mod_placeAll_315 (by decide) ?_
      refine V_ladd d_Mod_placeAll_329 ?_
      refine V_lstore (lv' := [(8, .long (y + s)), (6, .long (x + (if A = 0 then s else 0))), (0, .ref o), (1, .int (nI b)), (2, .int (nI n)), (3, .int (nI i)), (4, .int (nI bx)), (5, .int A), (10, .long s), (12, .long h), (14, .long d), (16, .int R), (17, .int S)]) d_Mod_placeAll_330 (by decide) rfl ?_
      refine V_lload d_Mod_placeAll_332 rfl ?_
      refine V_iload d_Mod_placeAll_334 rfl ?_
      refine V_if_eq 344 d_Mod_placeAll_336 (by decide) (fun h336 => ?_) (fun h336 => ?_)
      · refine V_lconst (v := 0) d_Mod_placeAll_344 (by decide) ?_
        refine V_ladd d_Mod_placeAll_345 ?_
        refine V_eql (show _ = ply y A R S s h d from by rw [ply, if_neg hA0, if_pos h336]) ?_
        refine V_lstore (lv' := [(8, .long (ply y A R S s h d)), (6, .long (x + (if A = 0 then s else 0))), (0, .ref o), (1, .int (nI b)), (2, .int (nI n)), (3, .int (nI i)), (4, .int (nI bx)), (5, .int A), (10, .long s), (12, .long h), (14, .long d), (16, .int R), (17, .int S)]) d_Mod_placeAll_346 (by decide) rfl ?_
        refine V_lv [2, 3, 4, 5, 6, 7, 1, 0, 8, 9, 10, 11, 12] rfl ?_
        exact PL_348 hA hi hbi hib hbx hbx2 hbxb hq hq0 hq1 hK
      · refine V_lload d_Mod_placeAll_339 rfl ?_
        refine V_goto 345 d_Mod_placeAll_341 (by decide) ?_
        refine V_ladd d_Mod_placeAll_345 ?_
        refine V_eql (show _ = ply y A R S s h d from by rw [ply, if_neg hA0, if_neg h336]) ?_
        refine V_lstore (lv' := [(8, .long (ply y A R S s h d)), (6, .long (x + (if A = 0 then s else 0))), (0, .ref o), (1, .int (nI b)), (2, .int (nI n)), (3, .int (nI i)), (4, .int (nI bx)), (5, .int A), (10, .long s), (12, .long h), (14, .long d), (16, .int R), (17, .int S)]) d_Mod_placeAll_346 (by decide) rfl ?_
        refine V_lv [2, 3, 4, 5, 6, 7, 1, 0, 8, 9, 10, 11, 12] rfl ?_
        exact PL_348 hA hi hbi hib hbx hbx2 hbxb hq hq0 hq1 hK
set_option maxRecDepth 100000 in
set_option maxHeartbeats 4000000 in
theorem PL_273 {l : Launch} {D : va_G} {ac : Nat → ClassId} {o : Nat} {ad : Nat → Nat} {M0 : MP} {Q : Option Value → MP → Prop} {r : RS} (hA : rAD o ad) {b n i bx q : Nat} {A R : Int32} {x y s h d : Int64} (hi : i < 6200) (hbi : b ≤ i) (hib : i - b < 3100) (hbx : b ≤ bx) (hbx2 : bx < 6200) (hbxb : bx - b < 3100) (hq : gF r 27 = nI q) (hq0 : 0 < q) (hq1 : q ≤ 101)  (hK : V l D (tyl ac) t_Mod_placeAll 0 0 34 [(0, .ref o), (1, .int (nI b)), (2, .int (nI n)), (3, .int (nI (i + 1)))] [] (rM ac o ad (ple (plp (pla1 (pls r R (x + (if A = 0 then s else 0)) (ply y A R (rlz r i 3) s h d) (h + d)) q (plw A (rlz r i 3) (gB r 2 i).toInt64 (h + d))) (i - b) (x + (if A = 0 then s else 0)) (ply y A R (rlz r i 3) s h d)) q i b) M0) Q) : V l D (tyl ac) t_Mod_placeAll 0 0 273 [(0, .ref o), (1, .int (nI b)), (2, .int (nI n)), (3, .int (nI i)), (4, .int (nI bx)), (5, .int A), (6, .long x), (8, .long y), (10, .long s), (12, .long h), (14, .long d), (16, .int R)] [] (rM ac o ad (r) M0) Q := by
  refine V_ar_n d_Mod_placeAll_273 rfl ?_
  refine VR_geta d_Mod_placeAll_274 f_Mod_7 (by decide) ?_
  refine V_iload_n d_Mod_placeAll_277 rfl ?_
  refine VR_iald hA d_Mod_placeAll_278 rfl (by omega) (by decide) ?_
  refine V_iconst (v := 3) d_Mod_placeAll_279 (by decide) ?_
  refine V_icmp_ne 287 d_Mod_placeAll_280 (by decide) (fun h280 => ?_) (fun h280 => ?_)
  · refine V_iconst (v := 0) d_Mod_placeAll_287 (by decide) ?_
    refine V_eqi (show _ = rlz r i 3 from (if_neg h280).symm) ?_
    refine V_istore (lv' := [(17, .int (rlz r i 3)), (0, .ref o), (1, .int (nI b)), (2, .int (nI n)), (3, .int (nI i)), (4, .int (nI bx)), (5, .int A), (6, .long x), (8, .long y), (10, .long s), (12, .long h), (14, .long d), (16, .int R)]) d_Mod_placeAll_288 (by decide) rfl ?_
    refine V_lv [1, 2, 3, 4, 5, 6, 7, 8, 9, 10, 11, 12, 0] rfl ?_
    exact PL_290 hA hi hbi hib hbx hbx2 hbxb hq hq0 hq1 hK
  · refine V_iconst (v := 1) d_Mod_placeAll_283 (by decide) ?_
    refine V_goto 288 d_Mod_placeAll_284 (by decide) ?_
    refine V_eqi (show _ = rlz r i 3 from (if_pos (Classical.not_not.mp h280)).symm) ?_
    refine V_istore (lv' := [(17, .int (rlz r i 3)), (0, .ref o), (1, .int (nI b)), (2, .int (nI n)), (3, .int (nI i)), (4, .int (nI bx)), (5, .int A), (6, .long x), (8, .long y), (10, .long s), (12, .long h), (14, .long d), (16, .int R)]) d_Mod_placeAll_288 (by decide) rfl ?_
    refine V_lv [1, 2, 3, 4, 5, 6, 7, 8, 9, 10, 11, 12, 0] rfl ?_
    exact PL_290 hA hi hbi hib hbx hbx2 hbxb hq hq0 hq1 hK
set_option maxRecDepth 100000 in
set_option maxHeartbeats 4000000 in
theorem PL_256 {l : Launch} {D : va_G} {ac : Nat → ClassId} {o : Nat} {ad : Nat → Nat} {M0 : MP} {Q : Option Value → MP → Prop} {r : RS} (hA : rAD o ad) {b n i bx q : Nat} {A : Int32} {x y s h d : Int64} (hi : i < 6200) (hbi : b ≤ i) (hib : i - b < 3100) (hbx : b ≤ bx) (hbx2 : bx < 6200) (hbxb : bx - b < 3100) (hq : gF r 27 = nI q) (hq0 : 0 < q) (hq1 : q ≤ 101)  (hK : V l D (tyl ac) t_Mod_placeAll 0 0 34 [(0, .ref o), (1, .int (nI b)), (2, .int (nI n)), (3, .int (nI (i + 1)))] [] (rM ac o ad (ple (plp (pla1 (pls r (rlz r i 2) (x + (if A = 0 then s else 0)) (ply y A (rlz r i 2) (rlz r i 3) s h d) (h + d)) q (plw A (rlz r i 3) (gB r 2 i).toInt64 (h + d))) (i - b) (x + (if A = 0 then s else 0)) (ply y A (rlz r i 2) (rlz r i 3) s h d)) q i b) M0) Q) : V l D (tyl ac) t_Mod_placeAll 0 0 256 [(0, .ref o), (1, .int (nI b)), (2, .int (nI n)), (3, .int (nI i)), (4, .int (nI bx)), (5, .int A), (6, .long x), (8, .long y), (10, .long s), (12, .long h), (14, .long d)] [] (rM ac o ad (r) M0) Q := by
  refine V_ar_n d_Mod_placeAll_256 rfl ?_
  refine VR_geta d_Mod_placeAll_257 f_Mod_7 (by decide) ?_
  refine V_iload_n d_Mod_placeAll_260 rfl ?_
  refine VR_iald hA d_Mod_placeAll_261 rfl (by omega) (by decide) ?_
  refine V_iconst (v := 2) d_Mod_placeAll_262 (by decide) ?_
  refine V_icmp_ne 270 d_Mod_placeAll_263 (by decide) (fun h263 => ?_) (fun h263 => ?_)
  · refine V_iconst (v := 0) d_Mod_placeAll_270 (by decide) ?_
    refine V_eqi (show _ = rlz r i 2 from (if_neg h263).symm) ?_
    refine V_istore (lv' := [(16, .int (rlz r i 2)), (0, .ref o), (1, .int (nI b)), (2, .int (nI n)), (3, .int (nI i)), (4, .int (nI bx)), (5, .int A), (6, .long x), (8, .long y), (10, .long s), (12, .long h), (14, .long d)]) d_Mod_placeAll_271 (by decide) rfl ?_
    refine V_lv [1, 2, 3, 4, 5, 6, 7, 8, 9, 10, 11, 0] rfl ?_
    exact PL_273 hA hi hbi hib hbx hbx2 hbxb hq hq0 hq1 hK
  · refine V_iconst (v := 1) d_Mod_placeAll_266 (by decide) ?_
    refine V_goto 271 d_Mod_placeAll_267 (by decide) ?_
    refine V_eqi (show _ = rlz r i 2 from (if_pos (Classical.not_not.mp h263)).symm) ?_
    refine V_istore (lv' := [(16, .int (rlz r i 2)), (0, .ref o), (1, .int (nI b)), (2, .int (nI n)), (3, .int (nI i)), (4, .int (nI bx)), (5, .int A), (6, .long x), (8, .long y), (10, .long s), (12, .long h), (14, .long d)]) d_Mod_placeAll_271 (by decide) rfl ?_
    refine V_lv [1, 2, 3, 4, 5, 6, 7, 8, 9, 10, 11, 0] rfl ?_
    exact PL_273 hA hi hbi hib hbx hbx2 hbxb hq hq0 hq1 hK
set_option maxRecDepth 100000 in
set_option maxHeartbeats 4000000 in
theorem PL_225 {l : Launch} {D : va_G} {ac : Nat → ClassId} {o : Nat} {ad : Nat → Nat} {M0 : MP} {Q : Option Value → MP → Prop} {r : RS} (hA : rAD o ad) {b n i bx q : Nat} {A : Int32} {x y s h : Int64} (hi : i < 6200) (hbi : b ≤ i) (hib : i - b < 3100) (hbx : b ≤ bx) (hbx2 : bx < 6200) (hbxb : bx - b < 3100) (hq : gF r 27 = nI q) (hq0 : 0 < q) (hq1 : q ≤ 101)  (hK : V l D (tyl ac) t_Mod_placeAll 0 0 34 [(0, .ref o), (1, .int (nI b)), (2, .int (nI n)), (3, .int (nI (i + 1)))] [] (rM ac o ad (ple (plp (pla1 (pls r (rlz r i 2) (x + (if A = 0 then s else 0)) (ply y A (rlz r i 2) (rlz r i 3) s h (rsel r 4 i bx).toInt64) (h + (rsel r 4 i bx).toInt64)) q (plw A (rlz r i 3) (gB r 2 i).toInt64 (h + (rsel r 4 i bx).toInt64))) (i - b) (x + (if A = 0 then s else 0)) (ply y A (rlz r i 2) (rlz r i 3) s h (rsel r 4 i bx).toInt64)) q i b) M0) Q) : V l D (tyl ac) t_Mod_placeAll 0 0 225 [(0, .ref o), (1, .int (nI b)), (2, .int (nI n)), (3, .int (nI i)), (4, .int (nI bx)), (5, .int A), (6, .long x), (8, .long y), (10, .long s), (12, .long h)] [] (rM ac o ad (r) M0) Q := by
  refine V_ar_n d_Mod_placeAll_225 rfl ?_
  refine VR_geta d_Mod_placeAll_226 f_Mod_19 (by decide) ?_
  refine V_iload_n d_Mod_placeAll_229 rfl ?_
  refine VR_iald hA d_Mod_placeAll_230 rfl (by omega) (by decide) ?_
  refine V_ldc d_Mod_placeAll_231 k_Mod_115 ?_
  refine V_icmp_ne 247 d_Mod_placeAll_233 (by decide) (fun h233 => ?_) (fun h233 => ?_)
  · refine V_ar_n d_Mod_placeAll_247 rfl ?_
    refine VR_geta d_Mod_placeAll_248 f_Mod_19 (by decide) ?_
    refine V_iload_n d_Mod_placeAll_251 rfl ?_
    refine VR_iald hA d_Mod_placeAll_252 rfl (by omega) (by decide) ?_
    refine V_i2l d_Mod_placeAll_253 ?_
    refine V_eql (show _ = (rsel r 4 i bx).toInt64 from by rw [rsel, if_neg h233]) ?_
    refine V_lstore (lv' := [(14, .long ((rsel r 4 i bx).toInt64)), (0, .ref o), (1, .int (nI b)), (2, .int (nI n)), (3, .int (nI i)), (4, .int (nI bx)), (5, .int A), (6, .long x), (8, .long y), (10, .long s), (12, .long h)]) d_Mod_placeAll_254 (by decide) rfl ?_
    refine V_lv [1, 2, 3, 4, 5, 6, 7, 8, 9, 10, 0] rfl ?_
    exact PL_256 hA hi hbi hib hbx hbx2 hbxb hq hq0 hq1 hK
  · refine V_ar_n d_Mod_placeAll_236 rfl ?_
    refine VR_geta d_Mod_placeAll_237 f_Mod_19 (by decide) ?_
    refine V_iload d_Mod_placeAll_240 rfl ?_
    refine VR_iald hA d_Mod_placeAll_242 rfl (by omega) (by decide) ?_
    refine V_i2l d_Mod_placeAll_243 ?_
    refine V_goto 254 d_Mod_placeAll_244 (by decide) ?_
    refine V_eql (show _ = (rsel r 4 i bx).toInt64 from by rw [rsel, if_pos (Classical.not_not.mp h233)]) ?_
    refine V_lstore (lv' := [(14, .long ((rsel r 4 i bx).toInt64)), (0, .ref o), (1, .int (nI b)), (2, .int (nI n)), (3, .int (nI i)), (4, .int (nI bx)), (5, .int A), (6, .long x), (8, .long y), (10, .long s), (12, .long h)]) d_Mod_placeAll_254 (by decide) rfl ?_
    refine V_lv [1, 2, 3, 4, 5, 6, 7, 8, 9, 10, 0] rfl ?_
    exact PL_256 hA hi hbi hib hbx hbx2 hbxb hq hq0 hq1 hK
set_option maxRecDepth 100000 in
set_option maxHeartbeats 4000000 in
theorem PL_194 {l : Launch} {D : va_G} {ac : Nat → ClassId} {o : Nat} {ad : Nat → Nat} {M0 : MP} {Q : Option Value → MP → Prop} {r : RS} (hA : rAD o ad) {b n i bx q : Nat} {A : Int32} {x y s : Int64} (hi : i < 6200) (hbi : b ≤ i) (hib : i - b < 3100) (hbx : b ≤ bx) (hbx2 : bx < 6200) (hbxb : bx - b < 3100) (hq : gF r 27 = nI q) (hq0 : 0 < q) (hq1 : q ≤ 101)  (hK : V l D (tyl ac) t_Mod_placeAll 0 0 34 [(0, .ref o), (1, .int (nI b)), (2, .int (nI n)), (3, .int (nI (i + 1)))] [] (rM ac o ad (ple (plp (pla1 (pls r (rlz r i 2) (x + (if A = 0 then s else 0)) (ply y A (rlz r i 2) (rlz r i 3) s (rsel r 3 i bx).toInt64 (rsel r 4 i bx).toInt64) ((rsel r 3 i bx).toInt64 + (rsel r 4 i bx).toInt64)) q (plw A (rlz r i 3) (gB r 2 i).toInt64 ((rsel r 3 i bx).toInt64 + (rsel r 4 i bx).toInt64))) (i - b) (x + (if A = 0 then s else 0)) (ply y A (rlz r i 2) (rlz r i 3) s (rsel r 3 i bx).toInt64 (rsel r 4 i bx).toInt64)) q i b) M0) Q) : V l D (tyl ac) t_Mod_placeAll 0 0 194 [(0, .ref o), (1, .int (nI b)), (2, .int (nI n)), (3, .int (nI i)), (4, .int (nI bx)), (5, .int A), (6, .long x), (8, .long y), (10, .long s)] [] (rM ac o ad (r) M0) Q := by
  refine V_ar_n d_Mod_placeAll_194 rfl ?_
  refine VR_geta d_Mod_placeAll_195 f_Mod_16 (by decide) ?_
  refine V_iload_n d_Mod_placeAll_198 rfl ?_
  refine VR_iald hA d_Mod_placeAll_199 rfl (by omega) (by decide) ?_
  refine V_ldc d_Mod_placeAll_200 k_Mod_115 ?_
  refine V_icmp_ne 216 d_Mod_placeAll_202 (by decide) (fun h202 => ?_) (fun h202 => ?_)
  · refine V_ar_n d_Mod_placeAll_216 rfl ?_
    refine VR_geta d_Mod_placeAll_217 f_Mod_16 (by decide) ?_
    refine V_iload_n d_Mod_placeAll_220 rfl ?_
    refine VR_iald hA d_Mod_placeAll_221 rfl (by omega) (by decide) ?_
    refine V_i2l d_Mod_placeAll_222 ?_
    refine V_eql (show _ = (rsel r 3 i bx).toInt64 from by rw [rsel, if_neg h202]) ?_
    refine V_lstore (lv' := [(12, .long ((rsel r 3 i bx).toInt64)), (0, .ref o), (1, .int (nI b)), (2, .int (nI n)), (3, .int (nI i)), (4, .int (nI bx)), (5, .int A), (6, .long x), (8, .long y), (10, .long s)]) d_Mod_placeAll_223 (by decide) rfl ?_
    refine V_lv [1, 2, 3, 4, 5, 6, 7, 8, 9, 0] rfl ?_
    exact PL_225 hA hi hbi hib hbx hbx2 hbxb hq hq0 hq1 hK
  · refine V_ar_n d_Mod_placeAll_205 rfl ?_
    refine VR_geta d_Mod_placeAll_206 f_Mod_16 (by decide) ?_
    refine V_iload d_Mod_placeAll_209 rfl ?_
    refine VR_iald hA d_Mod_placeAll_211 rfl (by omega) (by decide) ?_
    refine V_i2l d_Mod_placeAll_212 ?_
    refine V_goto 223 d_Mod_placeAll_213 (by decide) ?_
    refine V_eql (show _ = (rsel r 3 i bx).toInt64 from by rw [rsel, if_pos (Classical.not_not.mp h202)]) ?_
    refine V_lstore (lv' := [(12, .long ((rsel r 3 i bx).toInt64)), (0, .ref o), (1, .int (nI b)), (2, .int (nI n)), (3, .int (nI i)), (4, .int (nI bx)), (5, .int A), (6, .long x), (8, .long y), (10, .long s)]) d_Mod_placeAll_223 (by decide) rfl ?_
    refine V_lv [1, 2, 3, 4, 5, 6, 7, 8, 9, 0] rfl ?_
    exact PL_225 hA hi hbi hib hbx hbx2 hbxb hq hq0 hq1 hK
set_option maxRecDepth 100000 in
set_option maxHeartbeats 4000000 in
theorem PL_173 {l : Launch} {D : va_G} {ac : Nat → ClassId} {o : Nat} {ad : Nat → Nat} {M0 : MP} {Q : Option Value → MP → Prop} {r : RS} (hA : rAD o ad) {b n i bx q : Nat} {A : Int32} {x y : Int64} (hi : i < 6200) (hbi : b ≤ i) (hib : i - b < 3100) (hbx : b ≤ bx) (hbx2 : bx < 6200) (hbxb : bx - b < 3100) (hq : gF r 27 = nI q) (hq0 : 0 < q) (hq1 : q ≤ 101)  (hK : V l D (tyl ac) t_Mod_placeAll 0 0 34 [(0, .ref o), (1, .int (nI b)), (2, .int (nI n)), (3, .int (nI (i + 1)))] [] (rM ac o ad (ple (plp (pla1 (pls r (rlz r i 2) (x + (if A = 0 then (cls1 r i) else 0)) (ply y A (rlz r i 2) (rlz r i 3) (cls1 r i) (rsel r 3 i bx).toInt64 (rsel r 4 i bx).toInt64) ((rsel r 3 i bx).toInt64 + (rsel r 4 i bx).toInt64)) q (plw A (rlz r i 3) (gB r 2 i).toInt64 ((rsel r 3 i bx).toInt64 + (rsel r 4 i bx).toInt64))) (i - b) (x + (if A = 0 then (cls1 r i) else 0)) (ply y A (rlz r i 2) (rlz r i 3) (cls1 r i) (rsel r 3 i bx).toInt64 (rsel r 4 i bx).toInt64)) q i b) M0) Q) : V l D (tyl ac) t_Mod_placeAll 0 0 173 [(0, .ref o), (1, .int (nI b)), (2, .int (nI n)), (3, .int (nI i)), (4, .int (nI bx)), (5, .int A), (6, .long x), (8, .long y)] [] (rM ac o ad (r) M0) Q := by
  refine V_ar_n d_Mod_placeAll_173 rfl ?_
  refine V_iload_n d_Mod_placeAll_174 rfl ?_
  refine VR_ci1 d_Mod_placeAll_175 c_Mod_116 (Mod_isBox hA hi) ⟨by decide, by decide⟩ rfl (Nat.le_of_ble_eq_true rfl) ?_
  refine V_if_eq 191 d_Mod_placeAll_178 (by decide) (fun h178 => ?_) (fun h178 => ?_)
  · refine V_lconst (v := 0) d_Mod_placeAll_191 (by decide) ?_
    refine V_eql (show _ = cls1 r i from (if_pos h178).symm) ?_
    refine V_lstore (lv' := [(10, .long (cls1 r i)), (0, .ref o), (1, .int (nI b)), (2, .int (nI n)), (3, .int (nI i)), (4, .int (nI bx)), (5, .int A), (6, .long x), (8, .long y)]) d_Mod_placeAll_192 (by decide) rfl ?_
    refine V_lv [1, 2, 3, 4, 5, 6, 7, 8, 0] rfl ?_
    exact PL_194 hA hi hbi hib hbx hbx2 hbxb hq hq0 hq1 hK
  · refine V_ar_n d_Mod_placeAll_181 rfl ?_
    refine VR_geta d_Mod_placeAll_182 f_Mod_22 (by decide) ?_
    refine V_iload_n d_Mod_placeAll_185 rfl ?_
    refine VR_iald hA d_Mod_placeAll_186 rfl (by omega) (by decide) ?_
    refine V_i2l d_Mod_placeAll_187 ?_
    refine V_goto 192 d_Mod_placeAll_188 (by decide) ?_
    refine V_eql (show _ = cls1 r i from (if_neg h178).symm) ?_
    refine V_lstore (lv' := [(10, .long (cls1 r i)), (0, .ref o), (1, .int (nI b)), (2, .int (nI n)), (3, .int (nI i)), (4, .int (nI bx)), (5, .int A), (6, .long x), (8, .long y)]) d_Mod_placeAll_192 (by decide) rfl ?_
    refine V_lv [1, 2, 3, 4, 5, 6, 7, 8, 0] rfl ?_
    exact PL_194 hA hi hbi hib hbx hbx2 hbxb hq hq0 hq1 hK
set_option maxRecDepth 100000 in
set_option maxHeartbeats 4000000 in
theorem PL_142 {l : Launch} {D : va_G} {ac : Nat → ClassId} {o : Nat} {ad : Nat → Nat} {M0 : MP} {Q : Option Value → MP → Prop} {r : RS} (hA : rAD o ad) {b n i bx q : Nat} {A : Int32} {x : Int64} (hi : i < 6200) (hbi : b ≤ i) (hib : i - b < 3100) (hbx : b ≤ bx) (hbx2 : bx < 6200) (hbxb : bx - b < 3100) (hq : gF r 27 = nI q) (hq0 : 0 < q) (hq1 : q ≤ 101)  (hK : V l D (tyl ac) t_Mod_placeAll 0 0 34 [(0, .ref o), (1, .int (nI b)), (2, .int (nI n)), (3, .int (nI (i + 1)))] [] (rM ac o ad (ple (plp (pla1 (pls r (rlz r i 2) (x + (if A = 0 then (cls1 r i) else 0)) (ply (ply0 r q b bx A) A (rlz r i 2) (rlz r i 3) (cls1 r i) (rsel r 3 i bx).toInt64 (rsel r 4 i bx).toInt64) ((rsel r 3 i bx).toInt64 + (rsel r 4 i bx).toInt64)) q (plw A (rlz r i 3) (gB r 2 i).toInt64 ((rsel r 3 i bx).toInt64 + (rsel r 4 i bx).toInt64))) (i - b) (x + (if A = 0 then (cls1 r i) else 0)) (ply (ply0 r q b bx A) A (rlz r i 2) (rlz r i 3) (cls1 r i) (rsel r 3 i bx).toInt64 (rsel r 4 i bx).toInt64)) q i b) M0) Q) : V l D (tyl ac) t_Mod_placeAll 0 0 142 [(0, .ref o), (1, .int (nI b)), (2, .int (nI n)), (3, .int (nI i)), (4, .int (nI bx)), (5, .int A), (6, .long x)] [] (rM ac o ad (r) M0) Q := by
  refine V_iload d_Mod_placeAll_142 rfl ?_
  refine V_if_eq 160 d_Mod_placeAll_144 (by decide) (fun h144 => ?_) (fun h144 => ?_)
  · refine V_ar_n d_Mod_placeAll_160 rfl ?_
    refine VR_geta d_Mod_placeAll_161 f_Mod_71 (by decide) ?_
    refine V_ar_n d_Mod_placeAll_164 rfl ?_
    refine VR_geti d_Mod_placeAll_165 f_Mod_160 (by decide) ?_
    refine V_eqi (show _ = nI q from hq) ?_
    refine V_iconst (v := 1) d_Mod_placeAll_168 (by decide) ?_
    refine V_isub d_Mod_placeAll_169 ?_
    refine V_eqi (pk_sub (b := 1) hq0) ?_
    refine VR_lald hA d_Mod_placeAll_170 (by omega) ?_
    refine V_eql (show _ = ply0 r q b bx A from (if_pos h144).symm) ?_
    refine V_lstore (lv' := [(8, .long (ply0 r q b bx A)), (0, .ref o), (1, .int (nI b)), (2, .int (nI n)), (3, .int (nI i)), (4, .int (nI bx)), (5, .int A), (6, .long x)]) d_Mod_placeAll_171 (by decide) rfl ?_
    refine V_lv [1, 2, 3, 4, 5, 6, 7, 0] rfl ?_
    exact PL_173 hA hi hbi hib hbx hbx2 hbxb hq hq0 hq1 hK
  · refine V_ar_n d_Mod_placeAll_147 rfl ?_
    refine VR_geta d_Mod_placeAll_148 f_Mod_65 (by decide) ?_
    refine V_iload d_Mod_placeAll_151 rfl ?_
    refine V_iload_n d_Mod_placeAll_153 rfl ?_
    refine V_isub d_Mod_placeAll_154 ?_
    refine V_eqi (pk_sub hbx) ?_
    refine VR_iald hA d_Mod_placeAll_155 rfl (by omega) (by decide) ?_
    refine V_i2l d_Mod_placeAll_156 ?_
    refine V_goto 171 d_Mod_placeAll_157 (by decide) ?_
    refine V_eql (show _ = ply0 r q b bx A from (if_neg h144).symm) ?_
    refine V_lstore (lv' := [(8, .long (ply0 r q b bx A)), (0, .ref o), (1, .int (nI b)), (2, .int (nI n)), (3, .int (nI i)), (4, .int (nI bx)), (5, .int A), (6, .long x)]) d_Mod_placeAll_171 (by decide) rfl ?_
    refine V_lv [1, 2, 3, 4, 5, 6, 7, 0] rfl ?_
    exact PL_173 hA hi hbi hib hbx hbx2 hbxb hq hq0 hq1 hK
set_option maxRecDepth 100000 in
set_option maxHeartbeats 4000000 in
theorem PL_111 {l : Launch} {D : va_G} {ac : Nat → ClassId} {o : Nat} {ad : Nat → Nat} {M0 : MP} {Q : Option Value → MP → Prop} {r : RS} (hA : rAD o ad) {b n i bx q : Nat} {A : Int32} (hi : i < 6200) (hbi : b ≤ i) (hib : i - b < 3100) (hbx : b ≤ bx) (hbx2 : bx < 6200) (hbxb : bx - b < 3100) (hq : gF r 27 = nI q) (hq0 : 0 < q) (hq1 : q ≤ 101)  (hK : V l D (tyl ac) t_Mod_placeAll 0 0 34 [(0, .ref o), (1, .int (nI b)), (2, .int (nI n)), (3, .int (nI (i + 1)))] [] (rM ac o ad (ple (plp (pla1 (pls r (rlz r i 2) ((if A = 0 then (gB r 25 (bx - b)).toInt64 else r.2.2.2 (q - 1)) + (if A = 0 then (cls1 r i) else 0)) (ply (ply0 r q b bx A) A (rlz r i 2) (rlz r i 3) (cls1 r i) (rsel r 3 i bx).toInt64 (rsel r 4 i bx).toInt64) ((rsel r 3 i bx).toInt64 + (rsel r 4 i bx).toInt64)) q (plw A (rlz r i 3) (gB r 2 i).toInt64 ((rsel r 3 i bx).toInt64 + (rsel r 4 i bx).toInt64))) (i - b) ((if A = 0 then (gB r 25 (bx - b)).toInt64 else r.2.2.2 (q - 1)) + (if A = 0 then (cls1 r i) else 0)) (ply (ply0 r q b bx A) A (rlz r i 2) (rlz r i 3) (cls1 r i) (rsel r 3 i bx).toInt64 (rsel r 4 i bx).toInt64)) q i b) M0) Q) : V l D (tyl ac) t_Mod_placeAll 0 0 111 [(0, .ref o), (1, .int (nI b)), (2, .int (nI n)), (3, .int (nI i)), (4, .int (nI bx)), (5, .int A)] [] (rM ac o ad (r) M0) Q := by
  refine V_iload d_Mod_placeAll_111 rfl ?_
  refine V_if_eq 130 d_Mod_placeAll_113 (by decide) (fun h113 => ?_) (fun h113 => ?_)
  · refine V_ar_n d_Mod_placeAll_130 rfl ?_
    refine VR_geta d_Mod_placeAll_131 f_Mod_62 (by decide) ?_
    refine V_iload d_Mod_placeAll_134 rfl ?_
    refine V_iload_n d_Mod_placeAll_136 rfl ?_
    refine V_isub d_Mod_placeAll_137 ?_
    refine V_eqi (pk_sub hbx) ?_
    refine VR_iald hA d_Mod_placeAll_138 rfl (by omega) (by decide) ?_
    refine V_i2l d_Mod_placeAll_139 ?_
    refine V_eql (show _ = if A = 0 then (gB r 25 (bx - b)).toInt64 else r.2.2.2 (q - 1) from (if_pos h113).symm) ?_
    refine V_lstore (lv' := [(6, .long (if A = 0 then (gB r 25 (bx - b)).toInt64 else r.2.2.2 (q - 1))), (0, .ref o), (1, .int (nI b)), (2, .int (nI n)), (3, .int (nI i)), (4, .int (nI bx)), (5, .int A)]) d_Mod_placeAll_140 (by decide) rfl ?_
    refine V_lv [1, 2, 3, 4, 5, 6, 0] rfl ?_
    exact PL_142 hA hi hbi hib hbx hbx2 hbxb hq hq0 hq1 hK
  · refine V_ar_n d_Mod_placeAll_116 rfl ?_
    refine VR_geta d_Mod_placeAll_117 f_Mod_71 (by decide) ?_
    refine V_ar_n d_Mod_placeAll_120 rfl ?_
    refine VR_geti d_Mod_placeAll_121 f_Mod_160 (by decide) ?_
    refine V_eqi (show _ = nI q from hq) ?_
    refine V_iconst (v := 1) d_Mod_placeAll_124 (by decide) ?_
    refine V_isub d_Mod_placeAll_125 ?_
    refine V_eqi (pk_sub (b := 1) hq0) ?_
    refine VR_lald hA d_Mod_placeAll_126 (by omega) ?_
    refine V_goto 140 d_Mod_placeAll_127 (by decide) ?_
    refine V_eql (show _ = if A = 0 then (gB r 25 (bx - b)).toInt64 else r.2.2.2 (q - 1) from (if_neg h113).symm) ?_
    refine V_lstore (lv' := [(6, .long (if A = 0 then (gB r 25 (bx - b)).toInt64 else r.2.2.2 (q - 1))), (0, .ref o), (1, .int (nI b)), (2, .int (nI n)), (3, .int (nI i)), (4, .int (nI bx)), (5, .int A)]) d_Mod_placeAll_140 (by decide) rfl ?_
    refine V_lv [1, 2, 3, 4, 5, 6, 0] rfl ?_
    exact PL_142 hA hi hbi hib hbx hbx2 hbxb hq hq0 hq1 hK
set_option maxRecDepth 100000 in
set_option maxHeartbeats 4000000 in
theorem PL_93 {l : Launch} {D : va_G} {ac : Nat → ClassId} {o : Nat} {ad : Nat → Nat} {M0 : MP} {Q : Option Value → MP → Prop} {r : RS} (hA : rAD o ad) {b n i bx q : Nat}  (hi : i < 6200) (hbi : b ≤ i) (hib : i - b < 3100) (hbx : b ≤ bx) (hbx2 : bx < 6200) (hbxb : bx - b < 3100) (hq : gF r 27 = nI q) (hq0 : 0 < q) (hq1 : q ≤ 101)  (hK : V l D (tyl ac) t_Mod_placeAll 0 0 34 [(0, .ref o), (1, .int (nI b)), (2, .int (nI n)), (3, .int (nI (i + 1)))] [] (rM ac o ad (plc r q i b bx) M0) Q) : V l D (tyl ac) t_Mod_placeAll 0 0 93 [(0, .ref o), (1, .int (nI b)), (2, .int (nI n)), (3, .int (nI i)), (4, .int (nI bx))] [] (rM ac o ad (r) M0) Q := by
  refine V_ar_n d_Mod_placeAll_93 rfl ?_
  refine VR_geta d_Mod_placeAll_94 f_Mod_7 (by decide) ?_
  refine V_iload d_Mod_placeAll_97 rfl ?_
  refine VR_iald hA d_Mod_placeAll_99 rfl (by omega) (by decide) ?_
  refine V_iconst (v := 4) d_Mod_placeAll_100 (by decide) ?_
  refine V_icmp_ne 108 d_Mod_placeAll_101 (by decide) (fun h101 => ?_) (fun h101 => ?_)
  · refine V_iconst (v := 0) d_Mod_placeAll_108 (by decide) ?_
    refine V_eqi (show _ = acr r bx from (if_neg h101).symm) ?_
    refine V_istore (lv' := [(5, .int (acr r bx)), (0, .ref o), (1, .int (nI b)), (2, .int (nI n)), (3, .int (nI i)), (4, .int (nI bx))]) d_Mod_placeAll_109 (by decide) rfl ?_
    refine V_lv [1, 2, 3, 4, 5, 0] rfl ?_
    exact PL_111 hA hi hbi hib hbx hbx2 hbxb hq hq0 hq1 hK
  · refine V_iconst (v := 1) d_Mod_placeAll_104 (by decide) ?_
    refine V_goto 109 d_Mod_placeAll_105 (by decide) ?_
    refine V_eqi (show _ = acr r bx from (if_pos (Classical.not_not.mp h101)).symm) ?_
    refine V_istore (lv' := [(5, .int (acr r bx)), (0, .ref o), (1, .int (nI b)), (2, .int (nI n)), (3, .int (nI i)), (4, .int (nI bx))]) d_Mod_placeAll_109 (by decide) rfl ?_
    refine V_lv [1, 2, 3, 4, 5, 0] rfl ?_
    exact PL_111 hA hi hbi hib hbx hbx2 hbxb hq hq0 hq1 hK
