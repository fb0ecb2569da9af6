/-! ship -/
theorem mvd_12 (n : Nat) : ∀ (m : Nat) (r : RS) (i : Nat), gB (mvd n m r i) 12 = gB r 12 := by
  intro m
  induction m with
  | zero => intro r i; rfl
  | succ m ih => intro r i; exact (ih _ _).trans (mv_B _ _ _ (by decide))
set_option maxRecDepth 100000 in
set_option maxHeartbeats 4000000 in
theorem SH_371 {l : Launch} {D : va_G} {ac : Nat → ClassId} {o : Nat} {ad : Nat → Nat} {M0 : MP} {r : RS} (hA : rAD o ad) {k n p m q pl : Nat} {dp : Int32} (hst : stt r k = nI p) (hsz : gB r 12 k = nI m) (hall : 3100 + shv r = nI q) (hpq : p + m ≤ q) (hq : q ≤ 6200) (hk : k < 8) : V l D (tyl ac) t_Mod_ship 0 0 371 [(0, .ref o), (1, .int (nI k)), (2, .int (nI n)), (3, .int dp), (4, .int (nI p)), (5, .int (nI m)), (6, .int (nI pl))] [] (rM ac o ad (r) M0) (fun rv M' => rv = some (.int (if gF r 0 ≤ 0 then gF r 18 else 0)) ∧ M' = rM ac o ad (emp r p m q k) M0) := by
  refine V_ar_n d_Mod_ship_371 rfl ?_
  refine V_iload_n d_Mod_ship_372 rfl ?_
  refine VR_cv1 d_Mod_ship_373 c_Mod_135 (Mod_empty hA hst hsz hall hpq hq hk) ⟨by decide, by decide⟩ rfl (Nat.le_of_ble_eq_true rfl) ?_
  refine V_ar_n d_Mod_ship_376 rfl ?_
  refine VR_geti d_Mod_ship_377 f_Mod_81 (by decide) ?_
  refine V_eqi (show _ = gF r 0 from emp_F r p m q k 0) ?_
  refine V_if_le 387 d_Mod_ship_380 (by decide) (fun h380 => ?_) (fun h380 => ?_)
  · refine V_ar_n d_Mod_ship_387 rfl ?_
    refine VR_geti d_Mod_ship_388 f_Mod_145 (by decide) ?_
    refine V_eqi (show _ = gF r 18 from emp_F r p m q k 18) ?_
    exact V_ireturn d_Mod_ship_391 rfl ⟨by rw [if_pos h380], rfl⟩
  · refine V_iconst (v := 0) d_Mod_ship_383 (by decide) ?_
    refine V_goto 391 d_Mod_ship_384 (by decide) ?_
    exact V_ireturn d_Mod_ship_391 rfl ⟨by rw [if_neg h380], rfl⟩
def ubk : Nat → RS → Nat → RS
  | 0, r, _ => r
  | c + 1, r, j => ubk c (w1 r 16 j (vp_nar .boolean (gB r 15 j))) (j + 1)
def ubr : Nat → RS → Nat → RS
  | 0, r, _ => r
  | c + 1, r, j => ubr c (w1 r 15 j (vp_nar .boolean (gB r 16 j))) (j + 1)
def nz8 : Nat → RS → Nat → RS
  | 0, r, _ => r
  | c + 1, r, j => nz8 c (w1 r 31 j 0) (j + 1)
def zrn : Nat → FS → FS
  | 0, s => s
  | c + 1, s => zrn c (wp s 0 4)
theorem ubk_F (k : Nat) : ∀ (c : Nat) (r : RS) (j : Nat), gF (ubk c r j) k = gF r k := by
  intro c
  induction c with
  | zero => intro r j; rfl
  | succ c ih => intro r j; exact ih _ _
theorem ubk_B {k : Nat} (h : k ≠ 16) : ∀ (c : Nat) (r : RS) (j : Nat), gB (ubk c r j) k = gB r k := by
  intro c
  induction c with
  | zero => intro r j; rfl
  | succ c ih => intro r j; exact (ih _ _).trans (w1_B _ _ _ h)
theorem ubr_F (k : Nat) : ∀ (c : Nat) (r : RS) (j : Nat), gF (ubr c r j) k = gF r k := by
  intro c
  induction c with
  | zero => intro r j; rfl
  | succ c ih => intro r j; exact ih _ _
theorem ubr_B {k : Nat} (h : k ≠ 15) : ∀ (c : Nat) (r : RS) (j : Nat), gB (ubr c r j) k = gB r k := by
  intro c
  induction c with
  | zero => intro r j; rfl
  | succ c ih => intro r j; exact (ih _ _).trans (w1_B _ _ _ h)
theorem nz8_F (k : Nat) : ∀ (c : Nat) (r : RS) (j : Nat), gF (nz8 c r j) k = gF r k := by
  intro c
  induction c with
  | zero => intro r j; rfl
  | succ c ih => intro r j; exact ih _ _
theorem zrn_ok : ∀ (c : Nat) {s : FS}, okf s → okf (zrn c s) := by
  intro c
  induction c with
  | zero => intro s h; exact h
  | succ c ih => intro s h; exact ih (wp_ok h 0 4)
theorem zrn_2 : ∀ (c : Nat) (s : FS), (zrn c s).2 = s.2 + 4 * c := by
  intro c
  induction c with
  | zero => intro s; rfl
  | succ c ih => intro s; show (zrn c (wp s 0 4)).2 = _; rw [ih]; show s.2 + 4 + 4 * c = _; omega
set_option maxRecDepth 100000 in
set_option maxHeartbeats 4000000 in
theorem SH_344 {l : Launch} {D : va_G} {ac : Nat → ClassId} {o : Nat} {ad : Nat → Nat} {M0 : MP} {Q : Option Value → MP → Prop} (hA : rAD o ad) {k n p m pl : Nat} {dp : Int32} : ∀ (c j : Nat) (r : RS), j + c = 32 → V l D (tyl ac) t_Mod_ship 0 0 371 [(0, .ref o), (1, .int (nI k)), (2, .int (nI n)), (3, .int dp), (4, .int (nI p)), (5, .int (nI m)), (6, .int (nI pl))] [] (rM ac o ad (ubr c r j) M0) Q → V l D (tyl ac) t_Mod_ship 0 0 344 [(0, .ref o), (1, .int (nI k)), (2, .int (nI n)), (3, .int dp), (4, .int (nI p)), (5, .int (nI m)), (6, .int (nI pl)), (7, .int (nI j))] [] (rM ac o ad (r) M0) Q := by
  intro c
  induction c with
  | zero =>
    intro j r h1 hK
    refine V_iload d_Mod_ship_344 rfl ?_
    refine V_bipush (v := nI 32) d_Mod_ship_346 (by decide) ?_
    refine V_icmp_ge 371 d_Mod_ship_348 (by decide) (fun h348 => ?_) (fun h348 => ?_)
    · refine V_lv [0, 1, 2, 3, 4, 5, 6] rfl ?_
      exact hK
    · exact absurd (nI_le (show 32 ≤ j by omega) (by omega)) h348
  | succ c ih =>
    intro j r h1 hK
    refine V_iload d_Mod_ship_344 rfl ?_
    refine V_bipush (v := nI 32) d_Mod_ship_346 (by decide) ?_
    refine V_icmp_ge 371 d_Mod_ship_348 (by decide) (fun h348 => ?_) (fun h348 => ?_)
    · exact absurd h348 (nI_ge (by omega) (by decide))
    · refine V_ar_n d_Mod_ship_351 rfl ?_
      refine VR_geta d_Mod_ship_352 f_Mod_47 (by decide) ?_
      refine V_iload d_Mod_ship_355 rfl ?_
      refine V_ar_n d_Mod_ship_357 rfl ?_
      refine VR_geta d_Mod_ship_358 f_Mod_50 (by decide) ?_
      refine V_iload d_Mod_ship_361 rfl ?_
      refine VR_zald hA d_Mod_ship_363 rfl (by omega) (by decide) ?_
      refine VR_zast hA d_Mod_ship_364 rfl (by omega) (by decide) ?_
      refine V_iinc (v := nI (j + 1)) (lv' := [(7, .int (nI (j + 1))), (0, .ref o), (1, .int (nI k)), (2, .int (nI n)), (3, .int dp), (4, .int (nI p)), (5, .int (nI m)), (6, .int (nI pl))]) 7 d_Mod_ship_365 rfl (nI_1 j) (by decide) rfl ?_
      refine V_goto 344 d_Mod_ship_368 (by decide) ?_
      refine V_lv [1, 2, 3, 4, 5, 6, 7, 0] rfl ?_
      exact ih (j + 1) _ (by omega) hK
def shf (r : RS) (n : Nat) (dp : Int32) : RS := ubr 32 (sF (sF (sF r 0 2) 18 (nI n)) 24 dp) 0
set_option maxRecDepth 100000 in
set_option maxHeartbeats 4000000 in
theorem SH_326 {l : Launch} {D : va_G} {ac : Nat → ClassId} {o : Nat} {ad : Nat → Nat} {M0 : MP} {Q : Option Value → MP → Prop} (hA : rAD o ad) {r : RS} {k n p m pl : Nat} {dp : Int32} (hK : V l D (tyl ac) t_Mod_ship 0 0 371 [(0, .ref o), (1, .int (nI k)), (2, .int (nI n)), (3, .int dp), (4, .int (nI p)), (5, .int (nI m)), (6, .int (nI pl))] [] (rM ac o ad (shf r n dp) M0) Q) : V l D (tyl ac) t_Mod_ship 0 0 326 [(0, .ref o), (1, .int (nI k)), (2, .int (nI n)), (3, .int dp), (4, .int (nI p)), (5, .int (nI m)), (6, .int (nI pl))] [] (rM ac o ad (r) M0) Q := by
  refine V_ar_n d_Mod_ship_326 rfl ?_
  refine V_iconst (v := 2) d_Mod_ship_327 (by decide) ?_
  refine VR_puti d_Mod_ship_328 f_Mod_81 (by decide) ?_
  refine V_ar_n d_Mod_ship_331 rfl ?_
  refine V_iload_n d_Mod_ship_332 rfl ?_
  refine VR_puti d_Mod_ship_333 f_Mod_145 (by decide) ?_
  refine V_ar_n d_Mod_ship_336 rfl ?_
  refine V_iload_n d_Mod_ship_337 rfl ?_
  refine VR_puti d_Mod_ship_338 f_Mod_191 (by decide) ?_
  refine V_iconst (v := nI 0) d_Mod_ship_341 (by decide) ?_
  refine V_istore (lv' := [(7, .int (nI 0)), (0, .ref o), (1, .int (nI k)), (2, .int (nI n)), (3, .int dp), (4, .int (nI p)), (5, .int (nI m)), (6, .int (nI pl))]) d_Mod_ship_342 (by decide) rfl ?_
  refine V_lv [1, 2, 3, 4, 5, 6, 7, 0] rfl ?_
  exact SH_344 hA 32 0 _ rfl hK
def shg1 (r : RS) (pl : Nat) : RS := sF (sF r 20 (gF r 20 + 1)) 21 (nI pl)
def shg2 (r : RS) (x : Int64) : RS := sT r (if x ≤ r.2.1 then r.2.1 else x)
def shg3 (r : RS) (p : Nat) : RS := sF r 23 (if gB r 2 p ≤ gF r 23 then gF r 23 else gB r 2 p)
def shg (r : RS) (pl p : Nat) : RS := shg3 (shg2 (shg1 r pl) ((gB r 3 p).toInt64 + (gB r 4 p).toInt64)) p
set_option maxRecDepth 100000 in
set_option maxHeartbeats 4000000 in
theorem SH_233 {l : Launch} {D : va_G} {ac : Nat → ClassId} {o : Nat} {ad : Nat → Nat} {M0 : MP} {Q : Option Value → MP → Prop} (hA : rAD o ad) {r : RS} {k n p m pl : Nat} {dp : Int32} (hp : p < 6200) (hK : V l D (tyl ac) t_Mod_ship 0 0 371 [(0, .ref o), (1, .int (nI k)), (2, .int (nI n)), (3, .int dp), (4, .int (nI p)), (5, .int (nI m)), (6, .int (nI pl))] [] (rM ac o ad (shg r pl p) M0) Q) : V l D (tyl ac) t_Mod_ship 0 0 233 [(0, .ref o), (1, .int (nI k)), (2, .int (nI n)), (3, .int dp), (4, .int (nI p)), (5, .int (nI m)), (6, .int (nI pl))] [] (rM ac o ad (r) M0) Q := by
  refine V_ar_n d_Mod_ship_233 rfl ?_
  refine V_dup d_Mod_ship_234 rfl ?_
  refine VR_geti d_Mod_ship_235 f_Mod_214 (by decide) ?_
  refine V_iconst (v := 1) d_Mod_ship_238 (by decide) ?_
  refine V_iadd d_Mod_ship_239 ?_
  refine VR_puti d_Mod_ship_240 f_Mod_214 (by decide) ?_
  refine V_ar_n d_Mod_ship_243 rfl ?_
  refine V_iload d_Mod_ship_244 rfl ?_
  refine VR_puti d_Mod_ship_246 f_Mod_58 (by decide) ?_
  refine V_ar_n d_Mod_ship_249 rfl ?_
  refine VR_geta d_Mod_ship_250 f_Mod_16 (by decide) ?_
  refine V_iload d_Mod_ship_253 rfl ?_
  refine VR_iald hA d_Mod_ship_255 rfl (by omega) (by decide) ?_
  refine V_i2l d_Mod_ship_256 ?_
  refine V_ar_n d_Mod_ship_257 rfl ?_
  refine VR_geta d_Mod_ship_258 f_Mod_19 (by decide) ?_
  refine V_iload d_Mod_ship_261 rfl ?_
  refine VR_iald hA d_Mod_ship_263 rfl (by omega) (by decide) ?_
  refine V_i2l d_Mod_ship_264 ?_
  refine V_ladd d_Mod_ship_265 ?_
  refine V_lstore (lv' := [(7, .long ((gB r 3 p).toInt64 + (gB r 4 p).toInt64)), (0, .ref o), (1, .int (nI k)), (2, .int (nI n)), (3, .int dp), (4, .int (nI p)), (5, .int (nI m)), (6, .int (nI pl))]) d_Mod_ship_266 (by decide) rfl ?_
  refine V_ar_n d_Mod_ship_268 rfl ?_
  refine V_lload d_Mod_ship_269 rfl ?_
  refine V_ar_n d_Mod_ship_271 rfl ?_
  refine VR_getT d_Mod_ship_272 f_Mod_220 ?_
  refine V_lcmp d_Mod_ship_275 ?_
  refine V_if_le 284 d_Mod_ship_276 (by decide) (fun h276 => ?_) (fun h276 => ?_)
  · refine V_ar_n d_Mod_ship_284 rfl ?_
    refine VR_getT d_Mod_ship_285 f_Mod_220 ?_
    refine V_eql (show _ = (if (gB r 3 p).toInt64 + (gB r 4 p).toInt64 ≤ (shg1 r pl).2.1 then (shg1 r pl).2.1 else (gB r 3 p).toInt64 + (gB r 4 p).toInt64) from (if_pos ((lg_cmp_le _ _).mp h276)).symm) ?_
    refine VR_putT d_Mod_ship_288 f_Mod_220 ?_
    refine V_ar_n d_Mod_ship_291 rfl ?_
    refine V_ar_n d_Mod_ship_292 rfl ?_
    refine VR_geta d_Mod_ship_293 f_Mod_13 (by decide) ?_
    refine V_iload d_Mod_ship_296 rfl ?_
    refine VR_iald hA d_Mod_ship_298 rfl (by omega) (by decide) ?_
    refine V_ar_n d_Mod_ship_299 rfl ?_
    refine VR_geti d_Mod_ship_300 f_Mod_224 (by decide) ?_
    refine V_icmp_le 316 d_Mod_ship_303 (by decide) (fun h303 => ?_) (fun h303 => ?_)
    · refine V_ar_n d_Mod_ship_316 rfl ?_
      refine VR_geti d_Mod_ship_317 f_Mod_224 (by decide) ?_
      refine V_eqi (show _ = (if gB (shg2 (shg1 r pl) ((gB r 3 p).toInt64 + (gB r 4 p).toInt64)) 2 p ≤ gF (shg2 (shg1 r pl) ((gB r 3 p).toInt64 + (gB r 4 p).toInt64)) 23 then gF (shg2 (shg1 r pl) ((gB r 3 p).toInt64 + (gB r 4 p).toInt64)) 23 else gB (shg2 (shg1 r pl) ((gB r 3 p).toInt64 + (gB r 4 p).toInt64)) 2 p) from (if_pos h303).symm) ?_
      refine VR_puti d_Mod_ship_320 f_Mod_224 (by decide) ?_
      refine V_goto 371 d_Mod_ship_323 (by decide) ?_
      refine V_lv [1, 2, 3, 4, 5, 6, 7] rfl ?_
      exact hK
    · refine V_ar_n d_Mod_ship_306 rfl ?_
      refine VR_geta d_Mod_ship_307 f_Mod_13 (by decide) ?_
      refine V_iload d_Mod_ship_310 rfl ?_
      refine VR_iald hA d_Mod_ship_312 rfl (by omega) (by decide) ?_
      refine V_goto 320 d_Mod_ship_313 (by decide) ?_
      refine V_eqi (show _ = (if gB (shg2 (shg1 r pl) ((gB r 3 p).toInt64 + (gB r 4 p).toInt64)) 2 p ≤ gF (shg2 (shg1 r pl) ((gB r 3 p).toInt64 + (gB r 4 p).toInt64)) 23 then gF (shg2 (shg1 r pl) ((gB r 3 p).toInt64 + (gB r 4 p).toInt64)) 23 else gB (shg2 (shg1 r pl) ((gB r 3 p).toInt64 + (gB r 4 p).toInt64)) 2 p) from (if_neg h303).symm) ?_
      refine VR_puti d_Mod_ship_320 f_Mod_224 (by decide) ?_
      refine V_goto 371 d_Mod_ship_323 (by decide) ?_
      refine V_lv [1, 2, 3, 4, 5, 6, 7] rfl ?_
      exact hK
  · refine V_lload d_Mod_ship_279 rfl ?_
    refine V_goto 288 d_Mod_ship_281 (by decide) ?_
    refine V_eql (show _ = (if (gB r 3 p).toInt64 + (gB r 4 p).toInt64 ≤ (shg1 r pl).2.1 then (shg1 r pl).2.1 else (gB r 3 p).toInt64 + (gB r 4 p).toInt64) from (if_neg (fun z => h276 ((lg_cmp_le _ _).mpr z))).symm) ?_
    refine VR_putT d_Mod_ship_288 f_Mod_220 ?_
    refine V_ar_n d_Mod_ship_291 rfl ?_
    refine V_ar_n d_Mod_ship_292 rfl ?_
    refine VR_geta d_Mod_ship_293 f_Mod_13 (by decide) ?_
    refine V_iload d_Mod_ship_296 rfl ?_
    refine VR_iald hA d_Mod_ship_298 rfl (by omega) (by decide) ?_
    refine V_ar_n d_Mod_ship_299 rfl ?_
    refine VR_geti d_Mod_ship_300 f_Mod_224 (by decide) ?_
    refine V_icmp_le 316 d_Mod_ship_303 (by decide) (fun h303 => ?_) (fun h303 => ?_)
    · refine V_ar_n d_Mod_ship_316 rfl ?_
      refine VR_geti d_Mod_ship_317 f_Mod_224 (by decide) ?_
      refine V_eqi (show _ = (if gB (shg2 (shg1 r pl) ((gB r 3 p).toInt64 + (gB r 4 p).toInt64)) 2 p ≤ gF (shg2 (shg1 r pl) ((gB r 3 p).toInt64 + (gB r 4 p).toInt64)) 23 then gF (shg2 (shg1 r pl) ((gB r 3 p).toInt64 + (gB r 4 p).toInt64)) 23 else gB (shg2 (shg1 r pl) ((gB r 3 p).toInt64 + (gB r 4 p).toInt64)) 2 p) from (if_pos h303).symm) ?_
      refine VR_puti d_Mod_ship_320 f_Mod_224 (by decide) ?_
      refine V_goto 371 d_Mod_ship_323 (by decide) ?_
      refine V_lv [1, 2, 3, 4, 5, 6, 7] rfl ?_
      exact hK
    · refine V_ar_n d_Mod_ship_306 rfl ?_
      refine VR_geta d_Mod_ship_307 f_Mod_13 (by decide) ?_
      refine V_iload d_Mod_ship_310 rfl ?_
      refine VR_iald hA d_Mod_ship_312 rfl (by omega) (by decide) ?_
      refine V_goto 320 d_Mod_ship_313 (by decide) ?_
      refine V_eqi (show _ = (if gB (shg2 (shg1 r pl) ((gB r 3 p).toInt64 + (gB r 4 p).toInt64)) 2 p ≤ gF (shg2 (shg1 r pl) ((gB r 3 p).toInt64 + (gB r 4 p).toInt64)) 23 then gF (shg2 (shg1 r pl) ((gB r 3 p).toInt64 + (gB r 4 p).toInt64)) 23 else gB (shg2 (shg1 r pl) ((gB r 3 p).toInt64 + (gB r 4 p).toInt64)) 2 p) from (if_neg h303).symm) ?_
      refine VR_puti d_Mod_ship_320 f_Mod_224 (by decide) ?_
      refine V_goto 371 d_Mod_ship_323 (by decide) ?_
      refine V_lv [1, 2, 3, 4, 5, 6, 7] rfl ?_
      exact hK
def she (s : FS) (n pl p : Nat) (dp : Int32) : RS := if gF (wp s 140 1).1 33 = 0 then shf (wp s 140 1).1 n dp else shg (wp s 140 1).1 pl p
set_option maxRecDepth 100000 in
set_option maxHeartbeats 4000000 in
theorem SH_218 {l : Launch} {D : va_G} {ac : Nat → ClassId} {o : Nat} {ad : Nat → Nat} {M0 : MP} {Q : Option Value → MP → Prop} (hA : rAD o ad) {s : FS} {k n p m pl : Nat} {dp : Int32} (hp : p < 6200) (hs : okf s) (hb : s.2 + 1 ≤ 320000) (hK : V l D (tyl ac) t_Mod_ship 0 0 371 [(0, .ref o), (1, .int (nI k)), (2, .int (nI n)), (3, .int dp), (4, .int (nI p)), (5, .int (nI m)), (6, .int (nI pl))] [] (rM ac o ad (she s n pl p dp) M0) Q) : V l D (tyl ac) t_Mod_ship 0 0 218 [(0, .ref o), (1, .int (nI k)), (2, .int (nI n)), (3, .int dp), (4, .int (nI p)), (5, .int (nI m)), (6, .int (nI pl))] [] (rM ac o ad (s.1) M0) Q := by
  refine V_ar_n d_Mod_ship_218 rfl ?_
  refine V_sipush (v := 140) d_Mod_ship_219 (by decide) ?_
  refine V_iconst (v := nI 1) d_Mod_ship_222 (by decide) ?_
  refine VR_cv2 d_Mod_ship_223 c_Mod_149 (Mod_write hA _ (hs) (by decide) (by omega)) ⟨by decide, by decide⟩ rfl (Nat.le_of_ble_eq_true rfl) ?_
  refine V_ar_n d_Mod_ship_226 rfl ?_
  refine VR_geti d_Mod_ship_227 f_Mod_156 (by decide) ?_
  refine V_if_eq 326 d_Mod_ship_230 (by decide) (fun h230 => ?_) (fun h230 => ?_)
  · rw [she, if_pos (show gF (wp s 140 1).1 33 = 0 from h230)] at hK
    exact SH_326 hA hK
  · rw [she, if_neg (show ¬ gF (wp s 140 1).1 33 = 0 from h230)] at hK
    exact SH_233 hA hp hK
def shw (s : FS) (p m : Nat) : FS := if gF s.1 33 = 0 then s else war p m p (sF s.1 27 (nI 0), s.2)
set_option maxRecDepth 100000 in
set_option maxHeartbeats 4000000 in
theorem SH_203 {l : Launch} {D : va_G} {ac : Nat → ClassId} {o : Nat} {ad : Nat → Nat} {M0 : MP} {Q : Option Value → MP → Prop} (hA : rAD o ad) {s : FS} {k n p m pl : Nat} {dp : Int32} (hp : p < 6200) (hpm : p + m ≤ 6200) (hm : m ≤ 3100) (hok : ¬ gF s.1 33 = 0 → waok p m p (sF s.1 27 (nI 0), s.2)) (hs2 : okf (shw s p m)) (hb : (shw s p m).2 + 1 ≤ 320000) (hK : V l D (tyl ac) t_Mod_ship 0 0 371 [(0, .ref o), (1, .int (nI k)), (2, .int (nI n)), (3, .int dp), (4, .int (nI p)), (5, .int (nI m)), (6, .int (nI pl))] [] (rM ac o ad (she (shw s p m) n pl p dp) M0) Q) : V l D (tyl ac) t_Mod_ship 0 0 203 [(0, .ref o), (1, .int (nI k)), (2, .int (nI n)), (3, .int dp), (4, .int (nI p)), (5, .int (nI m)), (6, .int (nI pl))] [] (rM ac o ad (s.1) M0) Q := by
  refine V_ar_n d_Mod_ship_203 rfl ?_
  refine VR_geti d_Mod_ship_204 f_Mod_156 (by decide) ?_
  refine V_if_eq 218 d_Mod_ship_207 (by decide) (fun h207 => ?_) (fun h207 => ?_)
  · rw [shw, if_pos h207] at hs2 hb hK
    exact SH_218 hA hp hs2 hb hK
  · rw [shw, if_neg h207] at hs2 hb hK
    refine V_ar_n d_Mod_ship_210 rfl ?_
    refine V_iload d_Mod_ship_211 rfl ?_
    refine V_iload d_Mod_ship_213 rfl ?_
    refine VR_cv2 d_Mod_ship_215 c_Mod_217 (Mod_writeAll hA hpm hm (hok h207)) ⟨by decide, by decide⟩ rfl (Nat.le_of_ble_eq_true rfl) ?_
    generalize war p m p (sF s.1 27 (nI 0), s.2) = G at hs2 hb hK ⊢
    exact SH_218 hA hp hs2 hb hK
set_option maxRecDepth 100000 in
set_option maxHeartbeats 4000000 in
theorem SH_177 {l : Launch} {D : va_G} {ac : Nat → ClassId} {o : Nat} {ad : Nat → Nat} {M0 : MP} {Q : Option Value → MP → Prop} (hA : rAD o ad) {k n p m pl : Nat} {dp : Int32} : ∀ (c j : Nat) (r : RS), j + c = 8 → V l D (tyl ac) t_Mod_ship 0 0 198 [(0, .ref o), (1, .int (nI k)), (2, .int (nI n)), (3, .int dp), (4, .int (nI p)), (5, .int (nI m)), (6, .int (nI pl))] [] (rM ac o ad (nz8 c r j) M0) Q → V l D (tyl ac) t_Mod_ship 0 0 177 [(0, .ref o), (1, .int (nI k)), (2, .int (nI n)), (3, .int dp), (4, .int (nI p)), (5, .int (nI m)), (6, .int (nI pl)), (7, .int (nI j))] [] (rM ac o ad (r) M0) Q := by
  intro c
  induction c with
  | zero =>
    intro j r h1 hK
    refine V_iload d_Mod_ship_177 rfl ?_
    refine V_bipush (v := nI 8) d_Mod_ship_179 (by decide) ?_
    refine V_icmp_ge 198 d_Mod_ship_181 (by decide) (fun h181 => ?_) (fun h181 => ?_)
    · refine V_lv [0, 1, 2, 3, 4, 5, 6] rfl ?_
      exact hK
    · exact absurd (nI_le (show 8 ≤ j by omega) (by omega)) h181
  | succ c ih =>
    intro j r h1 hK
    refine V_iload d_Mod_ship_177 rfl ?_
    refine V_bipush (v := nI 8) d_Mod_ship_179 (by decide) ?_
    refine V_icmp_ge 198 d_Mod_ship_181 (by decide) (fun h181 => ?_) (fun h181 => ?_)
    · exact absurd h181 (nI_ge (by omega) (by decide))
    · refine V_ar_n d_Mod_ship_184 rfl ?_
      refine VR_geta d_Mod_ship_185 f_Mod_78 (by decide) ?_
      refine V_iload d_Mod_ship_188 rfl ?_
      refine V_iconst (v := 0) d_Mod_ship_190 (by decide) ?_
      refine VR_iast hA d_Mod_ship_191 rfl (by omega) (by decide) ?_
      refine V_iinc (v := nI (j + 1)) (lv' := [(7, .int (nI (j + 1))), (0, .ref o), (1, .int (nI k)), (2, .int (nI n)), (3, .int dp), (4, .int (nI p)), (5, .int (nI m)), (6, .int (nI pl))]) 7 d_Mod_ship_192 rfl (nI_1 j) (by decide) rfl ?_
      refine V_goto 177 d_Mod_ship_195 (by decide) ?_
      refine V_lv [1, 2, 3, 4, 5, 6, 7, 0] rfl ?_
      exact ih (j + 1) _ (by omega) hK
set_option maxRecDepth 100000 in
set_option maxHeartbeats 4000000 in
theorem SH_146 {l : Launch} {D : va_G} {ac : Nat → ClassId} {o : Nat} {ad : Nat → Nat} {M0 : MP} {Q : Option Value → MP → Prop} (hA : rAD o ad) {k n p m pl : Nat} {dp : Int32} : ∀ (c j : Nat) (s : FS), j + c = 9 → okf s → s.2 + 4 * c ≤ 320000 → V l D (tyl ac) t_Mod_ship 0 0 165 [(0, .ref o), (1, .int (nI k)), (2, .int (nI n)), (3, .int dp), (4, .int (nI p)), (5, .int (nI m)), (6, .int (nI pl))] [] (rM ac o ad ((zrn c s).1) M0) Q → V l D (tyl ac) t_Mod_ship 0 0 146 [(0, .ref o), (1, .int (nI k)), (2, .int (nI n)), (3, .int dp), (4, .int (nI p)), (5, .int (nI m)), (6, .int (nI pl)), (7, .int (nI j))] [] (rM ac o ad (s.1) M0) Q := by
  intro c
  induction c with
  | zero =>
    intro j s h1 hs hb hK
    refine V_iload d_Mod_ship_146 rfl ?_
    refine V_bipush (v := nI 9) d_Mod_ship_148 (by decide) ?_
    refine V_icmp_ge 165 d_Mod_ship_150 (by decide) (fun h150 => ?_) (fun h150 => ?_)
    · refine V_lv [0, 1, 2, 3, 4, 5, 6] rfl ?_
      exact hK
    · exact absurd (nI_le (show 9 ≤ j by omega) (by omega)) h150
  | succ c ih =>
    intro j s h1 hs hb hK
    refine V_iload d_Mod_ship_146 rfl ?_
    refine V_bipush (v := nI 9) d_Mod_ship_148 (by decide) ?_
    refine V_icmp_ge 165 d_Mod_ship_150 (by decide) (fun h150 => ?_) (fun h150 => ?_)
    · exact absurd h150 (nI_ge (by omega) (by decide))
    · refine V_ar_n d_Mod_ship_153 rfl ?_
      refine V_iconst (v := 0) d_Mod_ship_154 (by decide) ?_
      refine V_iconst (v := nI 4) d_Mod_ship_155 (by decide) ?_
      refine VR_cv2 d_Mod_ship_156 c_Mod_149 (Mod_write hA _ (hs) (by decide) (by omega)) ⟨by decide, by decide⟩ rfl (Nat.le_of_ble_eq_true rfl) ?_
      refine V_iinc (v := nI (j + 1)) (lv' := [(7, .int (nI (j + 1))), (0, .ref o), (1, .int (nI k)), (2, .int (nI n)), (3, .int dp), (4, .int (nI p)), (5, .int (nI m)), (6, .int (nI pl))]) 7 d_Mod_ship_159 rfl (nI_1 j) (by decide) rfl ?_
      refine V_goto 146 d_Mod_ship_162 (by decide) ?_
      refine V_lv [1, 2, 3, 4, 5, 6, 7, 0] rfl ?_
      exact ih (j + 1) (wp s 0 4) (by omega) (wp_ok hs 0 4) (show s.2 + 4 + 4 * c ≤ 320000 by omega) hK
def shn (s : FS) : FS := (sF (nz8 8 (wp s (gF s.1 21) 4).1 0) 32 (-1), s.2 + 4)
theorem sF_ne (r : RS) {k j : Nat} (v : Int32) (h : j ≠ k) : gF (sF r k v) j = gF r j := va_up_ne _ _ h
theorem shn_ok {s : FS} (h : okf s) : okf (shn s) := (sF_ne (nz8 8 (wp s (gF s.1 21) 4).1 0) (-1) (show (18 : Nat) ≠ 32 by decide)).trans ((nz8_F 18 8 (wp s (gF s.1 21) 4).1 0).trans (wp_ok h (gF s.1 21) 4))
set_option maxRecDepth 100000 in
set_option maxHeartbeats 4000000 in
theorem SH_165 {l : Launch} {D : va_G} {ac : Nat → ClassId} {o : Nat} {ad : Nat → Nat} {M0 : MP} {Q : Option Value → MP → Prop} (hA : rAD o ad) {s : FS} {k n p m pl : Nat} {dp : Int32} (hs : okf s) (hb : s.2 + 4 ≤ 320000) (hK : V l D (tyl ac) t_Mod_ship 0 0 203 [(0, .ref o), (1, .int (nI k)), (2, .int (nI n)), (3, .int dp), (4, .int (nI p)), (5, .int (nI m)), (6, .int (nI pl))] [] (rM ac o ad ((shn s).1) M0) Q) : V l D (tyl ac) t_Mod_ship 0 0 165 [(0, .ref o), (1, .int (nI k)), (2, .int (nI n)), (3, .int dp), (4, .int (nI p)), (5, .int (nI m)), (6, .int (nI pl))] [] (rM ac o ad (s.1) M0) Q := by
  refine V_ar_n d_Mod_ship_165 rfl ?_
  refine V_ar_n d_Mod_ship_166 rfl ?_
  refine VR_geti d_Mod_ship_167 f_Mod_58 (by decide) ?_
  refine V_iconst (v := nI 4) d_Mod_ship_170 (by decide) ?_
  refine VR_cv2 d_Mod_ship_171 c_Mod_149 (Mod_write hA _ (hs) (by decide) (by omega)) ⟨by decide, by decide⟩ rfl (Nat.le_of_ble_eq_true rfl) ?_
  refine V_iconst (v := nI 0) d_Mod_ship_174 (by decide) ?_
  refine V_istore (lv' := [(7, .int (nI 0)), (0, .ref o), (1, .int (nI k)), (2, .int (nI n)), (3, .int dp), (4, .int (nI p)), (5, .int (nI m)), (6, .int (nI pl))]) d_Mod_ship_175 (by decide) rfl ?_
  refine V_lv [1, 2, 3, 4, 5, 6, 7, 0] rfl ?_
  refine SH_177 hA 8 0 _ rfl ?_
  refine V_ar_n d_Mod_ship_198 rfl ?_
  refine V_iconst (v := (-1)) d_Mod_ship_199 (by decide) ?_
  refine VR_puti d_Mod_ship_200 f_Mod_182 (by decide) ?_
  exact hK
def shp (s : FS) : FS := shn (zrn 9 (wp (wp s 139 1) (gF s.1 20 + 1) 4))
set_option maxRecDepth 100000 in
set_option maxHeartbeats 4000000 in
theorem SH_118 {l : Launch} {D : va_G} {ac : Nat → ClassId} {o : Nat} {ad : Nat → Nat} {M0 : MP} {Q : Option Value → MP → Prop} (hA : rAD o ad) {s : FS} {k n p m : Nat} {dp : Int32} (hs : okf s) (hb : s.2 + 50 ≤ 320000) (hK : V l D (tyl ac) t_Mod_ship 0 0 203 [(0, .ref o), (1, .int (nI k)), (2, .int (nI n)), (3, .int dp), (4, .int (nI p)), (5, .int (nI m)), (6, .int (nI s.2))] [] (rM ac o ad ((shp s).1) M0) Q) : V l D (tyl ac) t_Mod_ship 0 0 118 [(0, .ref o), (1, .int (nI k)), (2, .int (nI n)), (3, .int dp), (4, .int (nI p)), (5, .int (nI m))] [] (rM ac o ad (s.1) M0) Q := by
  refine V_ar_n d_Mod_ship_118 rfl ?_
  refine VR_geti d_Mod_ship_119 f_Mod_145 (by decide) ?_
  refine V_eqi (show _ = nI s.2 from hs) ?_
  refine V_istore (lv' := [(6, .int (nI s.2)), (0, .ref o), (1, .int (nI k)), (2, .int (nI n)), (3, .int dp), (4, .int (nI p)), (5, .int (nI m))]) d_Mod_ship_122 (by decide) rfl ?_
  refine V_ar_n d_Mod_ship_124 rfl ?_
  refine V_sipush (v := 139) d_Mod_ship_125 (by decide) ?_
  refine V_iconst (v := nI 1) d_Mod_ship_128 (by decide) ?_
  refine VR_cv2 d_Mod_ship_129 c_Mod_149 (Mod_write hA _ (hs) (by decide) (by omega)) ⟨by decide, by decide⟩ rfl (Nat.le_of_ble_eq_true rfl) ?_
  refine V_ar_n d_Mod_ship_132 rfl ?_
  refine V_ar_n d_Mod_ship_133 rfl ?_
  refine VR_geti d_Mod_ship_134 f_Mod_214 (by decide) ?_
  refine V_eqi (show _ = gF s.1 20 from wrt_F (by decide) _ _ _ _) ?_
  refine V_iconst (v := 1) d_Mod_ship_137 (by decide) ?_
  refine V_iadd d_Mod_ship_138 ?_
  refine V_iconst (v := nI 4) d_Mod_ship_139 (by decide) ?_
  refine VR_cv2 d_Mod_ship_140 c_Mod_149 (Mod_write hA _ (wrt_len 1 hs) (by decide) (by omega)) ⟨by decide, by decide⟩ rfl (Nat.le_of_ble_eq_true rfl) ?_
  refine V_iconst (v := nI 0) d_Mod_ship_143 (by decide) ?_
  refine V_istore (lv' := [(7, .int (nI 0)), (6, .int (nI s.2)), (0, .ref o), (1, .int (nI k)), (2, .int (nI n)), (3, .int dp), (4, .int (nI p)), (5, .int (nI m))]) d_Mod_ship_144 (by decide) rfl ?_
  refine V_lv [2, 3, 4, 5, 6, 7, 1, 0] rfl ?_
  have ho := wp_ok (wp_ok hs 139 1) (gF s.1 20 + 1) 4
  have h2 : (wp (wp s 139 1) (gF s.1 20 + 1) 4).2 = s.2 + 5 := rfl
  refine SH_146 hA 9 0 (wp (wp s 139 1) (gF s.1 20 + 1) 4) rfl ho (by omega) ?_
  have hz := zrn_2 9 (wp (wp s 139 1) (gF s.1 20 + 1) 4)
  exact SH_165 hA (zrn_ok 9 ho) (by omega) hK
set_option maxRecDepth 100000 in
set_option maxHeartbeats 4000000 in
theorem SH_59 {l : Launch} {D : va_G} {ac : Nat → ClassId} {o : Nat} {ad : Nat → Nat} {M0 : MP} {Q : Option Value → MP → Prop} (hA : rAD o ad) {k n : Nat} {dp : Int32} : ∀ (c j : Nat) (r : RS), j + c = 32 → V l D (tyl ac) t_Mod_ship 0 0 86 [(0, .ref o), (1, .int (nI k)), (2, .int (nI n)), (3, .int dp)] [] (rM ac o ad (ubk c r j) M0) Q → V l D (tyl ac) t_Mod_ship 0 0 59 [(0, .ref o), (1, .int (nI k)), (2, .int (nI n)), (3, .int dp), (4, .int (nI j))] [] (rM ac o ad (r) M0) Q := by
  intro c
  induction c with
  | zero =>
    intro j r h1 hK
    refine V_iload d_Mod_ship_59 rfl ?_
    refine V_bipush (v := nI 32) d_Mod_ship_61 (by decide) ?_
    refine V_icmp_ge 86 d_Mod_ship_63 (by decide) (fun h63 => ?_) (fun h63 => ?_)
    · refine V_lv [0, 1, 2, 3] rfl ?_
      exact hK
    · exact absurd (nI_le (show 32 ≤ j by omega) (by omega)) h63
  | succ c ih =>
    intro j r h1 hK
    refine V_iload d_Mod_ship_59 rfl ?_
    refine V_bipush (v := nI 32) d_Mod_ship_61 (by decide) ?_
    refine V_icmp_ge 86 d_Mod_ship_63 (by decide) (fun h63 => ?_) (fun h63 => ?_)
    · exact absurd h63 (nI_ge (by omega) (by decide))
    · refine V_ar_n d_Mod_ship_66 rfl ?_
      refine VR_geta d_Mod_ship_67 f_Mod_50 (by decide) ?_
      refine V_iload d_Mod_ship_70 rfl ?_
      refine V_ar_n d_Mod_ship_72 rfl ?_
      refine VR_geta d_Mod_ship_73 f_Mod_47 (by decide) ?_
      refine V_iload d_Mod_ship_76 rfl ?_
      refine VR_zald hA d_Mod_ship_78 rfl (by omega) (by decide) ?_
      refine VR_zast hA d_Mod_ship_79 rfl (by omega) (by decide) ?_
      refine V_iinc (v := nI (j + 1)) (lv' := [(4, .int (nI (j + 1))), (0, .ref o), (1, .int (nI k)), (2, .int (nI n)), (3, .int dp)]) 4 d_Mod_ship_80 rfl (nI_1 j) (by decide) rfl ?_
      refine V_goto 59 d_Mod_ship_83 (by decide) ?_
      refine V_lv [1, 2, 3, 4, 0] rfl ?_
      exact ih (j + 1) _ (by omega) hK
