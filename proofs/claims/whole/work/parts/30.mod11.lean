/-! close -/
def cls1 (r : RS) (i : Nat) : Int64 := if isb r i = 0 then 0 else (gB r 5 i).toInt64
def clsz (r : RS) (i : Nat) : Int32 := if gB r 1 i = 3 then 0 else 1
def clh (r : RS) (i : Nat) (z : Int32) (h : Int64) : Int64 := h + (if z = 0 then (gB r 2 i).toInt64 else (gB r 3 i).toInt64 + (gB r 4 i).toInt64)
/-- the greater of m and field f's number with s, where it counts -/
def clm (r : RS) (f i : Nat) (z : Int32) (x m : Int64) : Int64 := if ¬ z = 0 ∧ ¬ gB r f i = -2147483648 ∧ m < x then x else m
def cld (r : RS) (i : Nat) (z : Int32) : Int64 := if z = 0 then 0 else (gB r 4 i).toInt64
abbrev T3 : Type := Int64 × Int64 × Int64
def cst (r : RS) (v : Int32) (i : Nat) (t : T3) : T3 := if v = 0 then (t.1 + (gB r 2 i).toInt64, clm r 3 i (clsz r i) ((gB r 3 i).toInt64 - cls1 r i) t.2.1, clm r 4 i (clsz r i) ((gB r 4 i).toInt64 + cls1 r i) t.2.2) else (clm r 2 i (clsz r i) ((gB r 2 i).toInt64 + cls1 r i) t.1, clh r i (clsz r i) t.2.1, cld r i (clsz r i))
def clo (r : RS) (v : Int32) (sp : Nat → Nat) (e : Nat) : Nat → Nat → T3 → T3
  | 0, _, t => t
  | m + 1, i, t => if i < e then clo r v sp e m (i + sp i) (cst r v i t) else t
set_option maxRecDepth 100000 in
set_option maxHeartbeats 4000000 in
theorem Mod_cl_344 {l : Launch} {D : va_G} {ac : Nat → ClassId} {o : Nat} {ad : Nat → Nat} {r : RS} {M0 : MP} {Q : Option Value → MP → Prop} (hA : rAD o ad) {a i : Nat} {x v : Int32} {n : Nat} {w h d s : Int64} {z : Int32} (hi : i < 6200) (hsp : gB r 7 i = nI n) (hK : V l D (tyl ac) t_Mod_close 0 0 61 [(0, .ref o), (1, .int x), (2, .int (nI a)), (3, .int v), (4, .long w), (6, .long h), (8, .long d), (10, .int (nI (i + n)))] [] (rM ac o ad (r) M0) Q) : V l D (tyl ac) t_Mod_close 0 0 344 [(0, .ref o), (1, .int x), (2, .int (nI a)), (3, .int v), (4, .long w), (6, .long h), (8, .long d), (10, .int (nI i)), (11, .long s), (13, .int z)] [] (rM ac o ad (r) M0) Q := by
  refine V_iload d_Mod_close_344 rfl ?_
  refine V_ar_n d_Mod_close_346 rfl ?_
  refine VR_geta d_Mod_close_347 f_Mod_28 (by decide) ?_
  refine V_iload d_Mod_close_350 rfl ?_
  refine VR_iald hA d_Mod_close_352 rfl (by omega) (by decide) ?_
  refine V_iadd d_Mod_close_353 ?_
  refine V_eqi (show _ = nI (i + n) from by rw [hsp, nI_add]) ?_
  refine V_istore (lv' := [(10, .int (nI (i + n))), (0, .ref o), (1, .int x), (2, .int (nI a)), (3, .int v), (4, .long w), (6, .long h), (8, .long d), (11, .long s), (13, .int z)]) d_Mod_close_354 (by decide) rfl ?_
  refine V_goto 61 d_Mod_close_356 (by decide) ?_
  refine V_lv [1, 2, 3, 4, 5, 6, 7, 0] rfl ?_
  exact hK
set_option maxRecDepth 100000 in
set_option maxHeartbeats 4000000 in
theorem Mod_cl_292 {l : Launch} {D : va_G} {ac : Nat → ClassId} {o : Nat} {ad : Nat → Nat} {r : RS} {M0 : MP} {Q : Option Value → MP → Prop} (hA : rAD o ad) {a i : Nat} {x v : Int32} {n : Nat} {w h d s : Int64} {z : Int32} (hi : i < 6200) (hsp : gB r 7 i = nI n) (hK : V l D (tyl ac) t_Mod_close 0 0 61 [(0, .ref o), (1, .int x), (2, .int (nI a)), (3, .int v), (4, .long w), (6, .long h), (8, .long (clm r 4 i z ((gB r 4 i).toInt64 + s) d)), (10, .int (nI (i + n)))] [] (rM ac o ad (r) M0) Q) : V l D (tyl ac) t_Mod_close 0 0 292 [(0, .ref o), (1, .int x), (2, .int (nI a)), (3, .int v), (4, .long w), (6, .long h), (8, .long d), (10, .int (nI i)), (11, .long s), (13, .int z)] [] (rM ac o ad (r) M0) Q := by
  refine V_iload d_Mod_close_292 rfl ?_
  refine V_if_eq 340 d_Mod_close_294 (by decide) (fun h294 => ?_) (fun h294 => ?_)
  · refine V_lload d_Mod_close_340 rfl ?_
    refine V_eql (show _ = clm r 4 i z ((gB r 4 i).toInt64 + s) d from (if_neg (fun y => y.1 h294)).symm) ?_
    refine V_lstore (lv' := [(8, .long (clm r 4 i z ((gB r 4 i).toInt64 + s) d)), (0, .ref o), (1, .int x), (2, .int (nI a)), (3, .int v), (4, .long w), (6, .long h), (10, .int (nI i)), (11, .long s), (13, .int z)]) d_Mod_close_342 (by decide) rfl ?_
    refine V_lv [1, 2, 3, 4, 5, 6, 0, 7, 8, 9] rfl ?_
    exact Mod_cl_344 hA hi hsp hK
  · refine V_ar_n d_Mod_close_297 rfl ?_
    refine VR_geta d_Mod_close_298 f_Mod_19 (by decide) ?_
    refine V_iload d_Mod_close_301 rfl ?_
    refine VR_iald hA d_Mod_close_303 rfl (by omega) (by decide) ?_
    refine V_ldc d_Mod_close_304 k_Mod_115 ?_
    refine V_icmp_eq 340 d_Mod_close_306 (by decide) (fun h306 => ?_) (fun h306 => ?_)
    · refine V_lload d_Mod_close_340 rfl ?_
      refine V_eql (show _ = clm r 4 i z ((gB r 4 i).toInt64 + s) d from (if_neg (fun y => y.2.1 h306)).symm) ?_
      refine V_lstore (lv' := [(8, .long (clm r 4 i z ((gB r 4 i).toInt64 + s) d)), (0, .ref o), (1, .int x), (2, .int (nI a)), (3, .int v), (4, .long w), (6, .long h), (10, .int (nI i)), (11, .long s), (13, .int z)]) d_Mod_close_342 (by decide) rfl ?_
      refine V_lv [1, 2, 3, 4, 5, 6, 0, 7, 8, 9] rfl ?_
      exact Mod_cl_344 hA hi hsp hK
    · refine V_ar_n d_Mod_close_309 rfl ?_
      refine VR_geta d_Mod_close_310 f_Mod_19 (by decide) ?_
      refine V_iload d_Mod_close_313 rfl ?_
      refine VR_iald hA d_Mod_close_315 rfl (by omega) (by decide) ?_
      refine V_i2l d_Mod_close_316 ?_
      refine V_lload d_Mod_close_317 rfl ?_
      refine V_ladd d_Mod_close_319 ?_
      refine V_lload d_Mod_close_320 rfl ?_
      refine V_lcmp d_Mod_close_322 ?_
      refine V_if_le 340 d_Mod_close_323 (by decide) (fun h323 => ?_) (fun h323 => ?_)
      · refine V_lload d_Mod_close_340 rfl ?_
        refine V_eql (show _ = clm r 4 i z ((gB r 4 i).toInt64 + s) d from (if_neg (fun y => absurd ((lg_cmp_le _ _).mp h323) (Int64.not_le.mpr y.2.2))).symm) ?_
        refine V_lstore (lv' := [(8, .long (clm r 4 i z ((gB r 4 i).toInt64 + s) d)), (0, .ref o), (1, .int x), (2, .int (nI a)), (3, .int v), (4, .long w), (6, .long h), (10, .int (nI i)), (11, .long s), (13, .int z)]) d_Mod_close_342 (by decide) rfl ?_
        refine V_lv [1, 2, 3, 4, 5, 6, 0, 7, 8, 9] rfl ?_
        exact Mod_cl_344 hA hi hsp hK
      · refine V_ar_n d_Mod_close_326 rfl ?_
        refine VR_geta d_Mod_close_327 f_Mod_19 (by decide) ?_
        refine V_iload d_Mod_close_330 rfl ?_
        refine VR_iald hA d_Mod_close_332 rfl (by omega) (by decide) ?_
        refine V_i2l d_Mod_close_333 ?_
        refine V_lload d_Mod_close_334 rfl ?_
        refine V_ladd d_Mod_close_336 ?_
        refine V_goto 342 d_Mod_close_337 (by decide) ?_
        refine V_eql (show _ = clm r 4 i z ((gB r 4 i).toInt64 + s) d from (if_pos ⟨h294, h306, Int64.not_le.mp (fun y => h323 ((lg_cmp_le _ _).mpr y))⟩).symm) ?_
        refine V_lstore (lv' := [(8, .long (clm r 4 i z ((gB r 4 i).toInt64 + s) d)), (0, .ref o), (1, .int x), (2, .int (nI a)), (3, .int v), (4, .long w), (6, .long h), (10, .int (nI i)), (11, .long s), (13, .int z)]) d_Mod_close_342 (by decide) rfl ?_
        refine V_lv [1, 2, 3, 4, 5, 6, 0, 7, 8, 9] rfl ?_
        exact Mod_cl_344 hA hi hsp hK
set_option maxRecDepth 100000 in
set_option maxHeartbeats 4000000 in
theorem Mod_cl_240 {l : Launch} {D : va_G} {ac : Nat → ClassId} {o : Nat} {ad : Nat → Nat} {r : RS} {M0 : MP} {Q : Option Value → MP → Prop} (hA : rAD o ad) {a i : Nat} {x v : Int32} {n : Nat} {w h d s : Int64} {z : Int32} (hi : i < 6200) (hsp : gB r 7 i = nI n) (hK : V l D (tyl ac) t_Mod_close 0 0 61 [(0, .ref o), (1, .int x), (2, .int (nI a)), (3, .int v), (4, .long w), (6, .long (clm r 3 i z ((gB r 3 i).toInt64 - s) h)), (8, .long (clm r 4 i z ((gB r 4 i).toInt64 + s) d)), (10, .int (nI (i + n)))] [] (rM ac o ad (r) M0) Q) : V l D (tyl ac) t_Mod_close 0 0 240 [(0, .ref o), (1, .int x), (2, .int (nI a)), (3, .int v), (4, .long w), (6, .long h), (8, .long d), (10, .int (nI i)), (11, .long s), (13, .int z)] [] (rM ac o ad (r) M0) Q := by
  refine V_iload d_Mod_close_240 rfl ?_
  refine V_if_eq 288 d_Mod_close_242 (by decide) (fun h242 => ?_) (fun h242 => ?_)
  · refine V_lload d_Mod_close_288 rfl ?_
    refine V_eql (show _ = clm r 3 i z ((gB r 3 i).toInt64 - s) h from (if_neg (fun y => y.1 h242)).symm) ?_
    refine V_lstore (lv' := [(6, .long (clm r 3 i z ((gB r 3 i).toInt64 - s) h)), (0, .ref o), (1, .int x), (2, .int (nI a)), (3, .int v), (4, .long w), (8, .long d), (10, .int (nI i)), (11, .long s), (13, .int z)]) d_Mod_close_290 (by decide) rfl ?_
    refine V_lv [1, 2, 3, 4, 5, 0, 6, 7, 8, 9] rfl ?_
    exact Mod_cl_292 hA hi hsp hK
  · refine V_ar_n d_Mod_close_245 rfl ?_
    refine VR_geta d_Mod_close_246 f_Mod_16 (by decide) ?_
    refine V_iload d_Mod_close_249 rfl ?_
    refine VR_iald hA d_Mod_close_251 rfl (by omega) (by decide) ?_
    refine V_ldc d_Mod_close_252 k_Mod_115 ?_
    refine V_icmp_eq 288 d_Mod_close_254 (by decide) (fun h254 => ?_) (fun h254 => ?_)
    · refine V_lload d_Mod_close_288 rfl ?_
      refine V_eql (show _ = clm r 3 i z ((gB r 3 i).toInt64 - s) h from (if_neg (fun y => y.2.1 h254)).symm) ?_
      refine V_lstore (lv' := [(6, .long (clm r 3 i z ((gB r 3 i).toInt64 - s) h)), (0, .ref o), (1, .int x), (2, .int (nI a)), (3, .int v), (4, .long w), (8, .long d), (10, .int (nI i)), (11, .long s), (13, .int z)]) d_Mod_close_290 (by decide) rfl ?_
      refine V_lv [1, 2, 3, 4, 5, 0, 6, 7, 8, 9] rfl ?_
      exact Mod_cl_292 hA hi hsp hK
    · refine V_ar_n d_Mod_close_257 rfl ?_
      refine VR_geta d_Mod_close_258 f_Mod_16 (by decide) ?_
      refine V_iload d_Mod_close_261 rfl ?_
      refine VR_iald hA d_Mod_close_263 rfl (by omega) (by decide) ?_
      refine V_i2l d_Mod_close_264 ?_
      refine V_lload d_Mod_close_265 rfl ?_
      refine V_lsub d_Mod_close_267 ?_
      refine V_lload d_Mod_close_268 rfl ?_
      refine V_lcmp d_Mod_close_270 ?_
      refine V_if_le 288 d_Mod_close_271 (by decide) (fun h271 => ?_) (fun h271 => ?_)
      · refine V_lload d_Mod_close_288 rfl ?_
        refine V_eql (show _ = clm r 3 i z ((gB r 3 i).toInt64 - s) h from (if_neg (fun y => absurd ((lg_cmp_le _ _).mp h271) (Int64.not_le.mpr y.2.2))).symm) ?_
        refine V_lstore (lv' := [(6, .long (clm r 3 i z ((gB r 3 i).toInt64 - s) h)), (0, .ref o), (1, .int x), (2, .int (nI a)), (3, .int v), (4, .long w), (8, .long d), (10, .int (nI i)), (11, .long s), (13, .int z)]) d_Mod_close_290 (by decide) rfl ?_
        refine V_lv [1, 2, 3, 4, 5, 0, 6, 7, 8, 9] rfl ?_
        exact Mod_cl_292 hA hi hsp hK
      · refine V_ar_n d_Mod_close_274 rfl ?_
        refine VR_geta d_Mod_close_275 f_Mod_16 (by decide) ?_
        refine V_iload d_Mod_close_278 rfl ?_
        refine VR_iald hA d_Mod_close_280 rfl (by omega) (by decide) ?_
        refine V_i2l d_Mod_close_281 ?_
        refine V_lload d_Mod_close_282 rfl ?_
        refine V_lsub d_Mod_close_284 ?_
        refine V_goto 290 d_Mod_close_285 (by decide) ?_
        refine V_eql (show _ = clm r 3 i z ((gB r 3 i).toInt64 - s) h from (if_pos ⟨h242, h254, Int64.not_le.mp (fun y => h271 ((lg_cmp_le _ _).mpr y))⟩).symm) ?_
        refine V_lstore (lv' := [(6, .long (clm r 3 i z ((gB r 3 i).toInt64 - s) h)), (0, .ref o), (1, .int x), (2, .int (nI a)), (3, .int v), (4, .long w), (8, .long d), (10, .int (nI i)), (11, .long s), (13, .int z)]) d_Mod_close_290 (by decide) rfl ?_
        refine V_lv [1, 2, 3, 4, 5, 0, 6, 7, 8, 9] rfl ?_
        exact Mod_cl_292 hA hi hsp hK
set_option maxRecDepth 100000 in
set_option maxHeartbeats 4000000 in
theorem Mod_cl_205 {l : Launch} {D : va_G} {ac : Nat → ClassId} {o : Nat} {ad : Nat → Nat} {r : RS} {M0 : MP} {Q : Option Value → MP → Prop} (hA : rAD o ad) {a i : Nat} {x v : Int32} {n : Nat} {w h d s : Int64} {z : Int32} (hi : i < 6200) (hsp : gB r 7 i = nI n) (hK : V l D (tyl ac) t_Mod_close 0 0 61 [(0, .ref o), (1, .int x), (2, .int (nI a)), (3, .int v), (4, .long w), (6, .long h), (8, .long (cld r i z)), (10, .int (nI (i + n)))] [] (rM ac o ad (r) M0) Q) : V l D (tyl ac) t_Mod_close 0 0 205 [(0, .ref o), (1, .int x), (2, .int (nI a)), (3, .int v), (4, .long w), (6, .long h), (8, .long d), (10, .int (nI i)), (11, .long s), (13, .int z)] [] (rM ac o ad (r) M0) Q := by
  refine V_iload d_Mod_close_205 rfl ?_
  refine V_if_eq 221 d_Mod_close_207 (by decide) (fun h207 => ?_) (fun h207 => ?_)
  · refine V_lconst (v := 0) d_Mod_close_221 (by decide) ?_
    refine V_eql (show _ = cld r i z from (if_pos h207).symm) ?_
    refine V_lstore (lv' := [(8, .long (cld r i z)), (0, .ref o), (1, .int x), (2, .int (nI a)), (3, .int v), (4, .long w), (6, .long h), (10, .int (nI i)), (11, .long s), (13, .int z)]) d_Mod_close_222 (by decide) rfl ?_
    refine V_goto 344 d_Mod_close_224 (by decide) ?_
    refine V_lv [1, 2, 3, 4, 5, 6, 0, 7, 8, 9] rfl ?_
    exact Mod_cl_344 hA hi hsp hK
  · refine V_ar_n d_Mod_close_210 rfl ?_
    refine VR_geta d_Mod_close_211 f_Mod_19 (by decide) ?_
    refine V_iload d_Mod_close_214 rfl ?_
    refine VR_iald hA d_Mod_close_216 rfl (by omega) (by decide) ?_
    refine V_i2l d_Mod_close_217 ?_
    refine V_goto 222 d_Mod_close_218 (by decide) ?_
    refine V_eql (show _ = cld r i z from (if_neg h207).symm) ?_
    refine V_lstore (lv' := [(8, .long (cld r i z)), (0, .ref o), (1, .int x), (2, .int (nI a)), (3, .int v), (4, .long w), (6, .long h), (10, .int (nI i)), (11, .long s), (13, .int z)]) d_Mod_close_222 (by decide) rfl ?_
    refine V_goto 344 d_Mod_close_224 (by decide) ?_
    refine V_lv [1, 2, 3, 4, 5, 6, 0, 7, 8, 9] rfl ?_
    exact Mod_cl_344 hA hi hsp hK
set_option maxRecDepth 100000 in
set_option maxHeartbeats 4000000 in
theorem Mod_cl_153 {l : Launch} {D : va_G} {ac : Nat → ClassId} {o : Nat} {ad : Nat → Nat} {r : RS} {M0 : MP} {Q : Option Value → MP → Prop} (hA : rAD o ad) {a i : Nat} {x v : Int32} {n : Nat} {w h d s : Int64} {z : Int32} (hi : i < 6200) (hsp : gB r 7 i = nI n) (hK : V l D (tyl ac) t_Mod_close 0 0 61 [(0, .ref o), (1, .int x), (2, .int (nI a)), (3, .int v), (4, .long (clm r 2 i z ((gB r 2 i).toInt64 + s) w)), (6, .long h), (8, .long (cld r i z)), (10, .int (nI (i + n)))] [] (rM ac o ad (r) M0) Q) : V l D (tyl ac) t_Mod_close 0 0 153 [(0, .ref o), (1, .int x), (2, .int (nI a)), (3, .int v), (4, .long w), (6, .long h), (8, .long d), (10, .int (nI i)), (11, .long s), (13, .int z)] [] (rM ac o ad (r) M0) Q := by
  refine V_iload d_Mod_close_153 rfl ?_
  refine V_if_eq 201 d_Mod_close_155 (by decide) (fun h155 => ?_) (fun h155 => ?_)
  · refine V_lload d_Mod_close_201 rfl ?_
    refine V_eql (show _ = clm r 2 i z ((gB r 2 i).toInt64 + s) w from (if_neg (fun y => y.1 h155)).symm) ?_
    refine V_lstore (lv' := [(4, .long (clm r 2 i z ((gB r 2 i).toInt64 + s) w)), (0, .ref o), (1, .int x), (2, .int (nI a)), (3, .int v), (6, .long h), (8, .long d), (10, .int (nI i)), (11, .long s), (13, .int z)]) d_Mod_close_203 (by decide) rfl ?_
    refine V_lv [1, 2, 3, 4, 0, 5, 6, 7, 8, 9] rfl ?_
    exact Mod_cl_205 hA hi hsp hK
  · refine V_ar_n d_Mod_close_158 rfl ?_
    refine VR_geta d_Mod_close_159 f_Mod_13 (by decide) ?_
    refine V_iload d_Mod_close_162 rfl ?_
    refine VR_iald hA d_Mod_close_164 rfl (by omega) (by decide) ?_
    refine V_ldc d_Mod_close_165 k_Mod_115 ?_
    refine V_icmp_eq 201 d_Mod_close_167 (by decide) (fun h167 => ?_) (fun h167 => ?_)
    · refine V_lload d_Mod_close_201 rfl ?_
      refine V_eql (show _ = clm r 2 i z ((gB r 2 i).toInt64 + s) w from (if_neg (fun y => y.2.1 h167)).symm) ?_
      refine V_lstore (lv' := [(4, .long (clm r 2 i z ((gB r 2 i).toInt64 + s) w)), (0, .ref o), (1, .int x), (2, .int (nI a)), (3, .int v), (6, .long h), (8, .long d), (10, .int (nI i)), (11, .long s), (13, .int z)]) d_Mod_close_203 (by decide) rfl ?_
      refine V_lv [1, 2, 3, 4, 0, 5, 6, 7, 8, 9] rfl ?_
      exact Mod_cl_205 hA hi hsp hK
    · refine V_ar_n d_Mod_close_170 rfl ?_
      refine VR_geta d_Mod_close_171 f_Mod_13 (by decide) ?_
      refine V_iload d_Mod_close_174 rfl ?_
      refine VR_iald hA d_Mod_close_176 rfl (by omega) (by decide) ?_
      refine V_i2l d_Mod_close_177 ?_
      refine V_lload d_Mod_close_178 rfl ?_
      refine V_ladd d_Mod_close_180 ?_
      refine V_lload d_Mod_close_181 rfl ?_
      refine V_lcmp d_Mod_close_183 ?_
      refine V_if_le 201 d_Mod_close_184 (by decide) (fun h184 => ?_) (fun h184 => ?_)
      · refine V_lload d_Mod_close_201 rfl ?_
        refine V_eql (show _ = clm r 2 i z ((gB r 2 i).toInt64 + s) w from (if_neg (fun y => absurd ((lg_cmp_le _ _).mp h184) (Int64.not_le.mpr y.2.2))).symm) ?_
        refine V_lstore (lv' := [(4, .long (clm r 2 i z ((gB r 2 i).toInt64 + s) w)), (0, .ref o), (1, .int x), (2, .int (nI a)), (3, .int v), (6, .long h), (8, .long d), (10, .int (nI i)), (11, .long s), (13, .int z)]) d_Mod_close_203 (by decide) rfl ?_
        refine V_lv [1, 2, 3, 4, 0, 5, 6, 7, 8, 9] rfl ?_
        exact Mod_cl_205 hA hi hsp hK
      · refine V_ar_n d_Mod_close_187 rfl ?_
        refine VR_geta d_Mod_close_188 f_Mod_13 (by decide) ?_
        refine V_iload d_Mod_close_191 rfl ?_
        refine VR_iald hA d_Mod_close_193 rfl (by omega) (by decide) ?_
        refine V_i2l d_Mod_close_194 ?_
        refine V_lload d_Mod_close_195 rfl ?_
        refine V_ladd d_Mod_close_197 ?_
        refine V_goto 203 d_Mod_close_198 (by decide) ?_
        refine V_eql (show _ = clm r 2 i z ((gB r 2 i).toInt64 + s) w from (if_pos ⟨h155, h167, Int64.not_le.mp (fun y => h184 ((lg_cmp_le _ _).mpr y))⟩).symm) ?_
        refine V_lstore (lv' := [(4, .long (clm r 2 i z ((gB r 2 i).toInt64 + s) w)), (0, .ref o), (1, .int x), (2, .int (nI a)), (3, .int v), (6, .long h), (8, .long d), (10, .int (nI i)), (11, .long s), (13, .int z)]) d_Mod_close_203 (by decide) rfl ?_
        refine V_lv [1, 2, 3, 4, 0, 5, 6, 7, 8, 9] rfl ?_
        exact Mod_cl_205 hA hi hsp hK
set_option maxRecDepth 100000 in
set_option maxHeartbeats 4000000 in
theorem Mod_cl_111 {l : Launch} {D : va_G} {ac : Nat → ClassId} {o : Nat} {ad : Nat → Nat} {r : RS} {M0 : MP} {Q : Option Value → MP → Prop} (hA : rAD o ad) {a i : Nat} {x v : Int32} {n : Nat} {w h d s : Int64} {z : Int32} (hi : i < 6200) (hsp : gB r 7 i = nI n) (hK : V l D (tyl ac) t_Mod_close 0 0 61 [(0, .ref o), (1, .int x), (2, .int (nI a)), (3, .int v), (4, .long (if v = 0 then (w + (gB r 2 i).toInt64, clm r 3 i z ((gB r 3 i).toInt64 - s) h, clm r 4 i z ((gB r 4 i).toInt64 + s) d) else (clm r 2 i z ((gB r 2 i).toInt64 + s) w, clh r i z h, cld r i z) : T3).1), (6, .long (if v = 0 then (w + (gB r 2 i).toInt64, clm r 3 i z ((gB r 3 i).toInt64 - s) h, clm r 4 i z ((gB r 4 i).toInt64 + s) d) else (clm r 2 i z ((gB r 2 i).toInt64 + s) w, clh r i z h, cld r i z) : T3).2.1), (8, .long (if v = 0 then (w + (gB r 2 i).toInt64, clm r 3 i z ((gB r 3 i).toInt64 - s) h, clm r 4 i z ((gB r 4 i).toInt64 + s) d) else (clm r 2 i z ((gB r 2 i).toInt64 + s) w, clh r i z h, cld r i z) : T3).2.2), (10, .int (nI (i + n)))] [] (rM ac o ad (r) M0) Q) : V l D (tyl ac) t_Mod_close 0 0 111 [(0, .ref o), (1, .int x), (2, .int (nI a)), (3, .int v), (4, .long w), (6, .long h), (8, .long d), (10, .int (nI i)), (11, .long s), (13, .int z)] [] (rM ac o ad (r) M0) Q := by
  refine V_iload_n d_Mod_close_111 rfl ?_
  refine V_if_eq 227 d_Mod_close_112 (by decide) (fun h112 => ?_) (fun h112 => ?_)
  · refine V_lload d_Mod_close_227 rfl ?_
    refine V_ar_n d_Mod_close_229 rfl ?_
    refine VR_geta d_Mod_close_230 f_Mod_13 (by decide) ?_
    refine V_iload d_Mod_close_233 rfl ?_
    refine VR_iald hA d_Mod_close_235 rfl (by omega) (by decide) ?_
    refine V_i2l d_Mod_close_236 ?_
    refine V_ladd d_Mod_close_237 ?_
    refine V_lstore (lv' := [(4, .long (w + (gB r 2 i).toInt64)), (0, .ref o), (1, .int x), (2, .int (nI a)), (3, .int v), (6, .long h), (8, .long d), (10, .int (nI i)), (11, .long s), (13, .int z)]) d_Mod_close_238 (by decide) rfl ?_
    refine V_lv [1, 2, 3, 4, 0, 5, 6, 7, 8, 9] rfl ?_
    rw [if_pos h112] at hK
    exact Mod_cl_240 hA hi hsp hK
  · rw [if_neg h112] at hK
    refine V_lload d_Mod_close_115 rfl ?_
    refine V_iload d_Mod_close_117 rfl ?_
    refine V_if_eq 142 d_Mod_close_119 (by decide) (fun h119 => ?_) (fun h119 => ?_)
    · refine V_ar_n d_Mod_close_142 rfl ?_
      refine VR_geta d_Mod_close_143 f_Mod_13 (by decide) ?_
      refine V_iload d_Mod_close_146 rfl ?_
      refine VR_iald hA d_Mod_close_148 rfl (by omega) (by decide) ?_
      refine V_i2l d_Mod_close_149 ?_
      refine V_ladd d_Mod_close_150 ?_
      refine V_eql (show _ = clh r i z h from by rw [clh, if_pos h119]) ?_
      refine V_lstore (lv' := [(6, .long (clh r i z h)), (0, .ref o), (1, .int x), (2, .int (nI a)), (3, .int v), (4, .long w), (8, .long d), (10, .int (nI i)), (11, .long s), (13, .int z)]) d_Mod_close_151 (by decide) rfl ?_
      refine V_lv [1, 2, 3, 4, 5, 0, 6, 7, 8, 9] rfl ?_
      exact Mod_cl_153 hA hi hsp hK
    · refine V_ar_n d_Mod_close_122 rfl ?_
      refine VR_geta d_Mod_close_123 f_Mod_16 (by decide) ?_
      refine V_iload d_Mod_close_126 rfl ?_
      refine VR_iald hA d_Mod_close_128 rfl (by omega) (by decide) ?_
      refine V_i2l d_Mod_close_129 ?_
      refine V_ar_n d_Mod_close_130 rfl ?_
      refine VR_geta d_Mod_close_131 f_Mod_19 (by decide) ?_
      refine V_iload d_Mod_close_134 rfl ?_
      refine VR_iald hA d_Mod_close_136 rfl (by omega) (by decide) ?_
      refine V_i2l d_Mod_close_137 ?_
      refine V_ladd d_Mod_close_138 ?_
      refine V_goto 150 d_Mod_close_139 (by decide) ?_
      refine V_ladd d_Mod_close_150 ?_
      refine V_eql (show _ = clh r i z h from by rw [clh, if_neg h119]) ?_
      refine V_lstore (lv' := [(6, .long (clh r i z h)), (0, .ref o), (1, .int x), (2, .int (nI a)), (3, .int v), (4, .long w), (8, .long d), (10, .int (nI i)), (11, .long s), (13, .int z)]) d_Mod_close_151 (by decide) rfl ?_
      refine V_lv [1, 2, 3, 4, 5, 0, 6, 7, 8, 9] rfl ?_
      exact Mod_cl_153 hA hi hsp hK
set_option maxRecDepth 100000 in
set_option maxHeartbeats 4000000 in
theorem Mod_cl_70 {l : Launch} {D : va_G} {ac : Nat → ClassId} {o : Nat} {ad : Nat → Nat} {r : RS} {M0 : MP} {Q : Option Value → MP → Prop} (hA : rAD o ad) {a i : Nat} {x v : Int32} {n : Nat} {w h d : Int64} (hi : i < 6200) (hsp : gB r 7 i = nI n) (hK : V l D (tyl ac) t_Mod_close 0 0 61 [(0, .ref o), (1, .int x), (2, .int (nI a)), (3, .int v), (4, .long (cst r v i (w, h, d)).1), (6, .long (cst r v i (w, h, d)).2.1), (8, .long (cst r v i (w, h, d)).2.2), (10, .int (nI (i + n)))] [] (rM ac o ad (r) M0) Q) : V l D (tyl ac) t_Mod_close 0 0 70 [(0, .ref o), (1, .int x), (2, .int (nI a)), (3, .int v), (4, .long w), (6, .long h), (8, .long d), (10, .int (nI i))] [] (rM ac o ad (r) M0) Q := by
  refine V_ar_n d_Mod_close_70 rfl ?_
  refine V_iload d_Mod_close_71 rfl ?_
  refine VR_ci1 d_Mod_close_73 c_Mod_116 (Mod_isBox hA hi) ⟨by decide, by decide⟩ rfl (Nat.le_of_ble_eq_true rfl) ?_
  refine V_if_eq 90 d_Mod_close_76 (by decide) (fun h76 => ?_) (fun h76 => ?_)
  · refine V_lconst (v := 0) d_Mod_close_90 (by decide) ?_
    refine V_eql (show _ = cls1 r i from (if_pos h76).symm) ?_
    refine V_lstore (lv' := [(11, .long (cls1 r i)), (0, .ref o), (1, .int x), (2, .int (nI a)), (3, .int v), (4, .long w), (6, .long h), (8, .long d), (10, .int (nI i))]) d_Mod_close_91 (by decide) rfl ?_
    refine V_ar_n d_Mod_close_93 rfl ?_
    refine VR_geta d_Mod_close_94 f_Mod_7 (by decide) ?_
    refine V_iload d_Mod_close_97 rfl ?_
    refine VR_iald hA d_Mod_close_99 rfl (by omega) (by decide) ?_
    refine V_iconst (v := 3) d_Mod_close_100 (by decide) ?_
    refine V_icmp_eq 108 d_Mod_close_101 (by decide) (fun h101 => ?_) (fun h101 => ?_)
    · refine V_iconst (v := 0) d_Mod_close_108 (by decide) ?_
      refine V_eqi (show _ = clsz r i from (if_pos h101).symm) ?_
      refine V_istore (lv' := [(13, .int (clsz r i)), (11, .long (cls1 r i)), (0, .ref o), (1, .int x), (2, .int (nI a)), (3, .int v), (4, .long w), (6, .long h), (8, .long d), (10, .int (nI i))]) d_Mod_close_109 (by decide) rfl ?_
      refine V_lv [2, 3, 4, 5, 6, 7, 8, 9, 1, 0] rfl ?_
      exact Mod_cl_111 hA hi hsp hK
    · refine V_iconst (v := 1) d_Mod_close_104 (by decide) ?_
      refine V_goto 109 d_Mod_close_105 (by decide) ?_
      refine V_eqi (show _ = clsz r i from (if_neg h101).symm) ?_
      refine V_istore (lv' := [(13, .int (clsz r i)), (11, .long (cls1 r i)), (0, .ref o), (1, .int x), (2, .int (nI a)), (3, .int v), (4, .long w), (6, .long h), (8, .long d), (10, .int (nI i))]) d_Mod_close_109 (by decide) rfl ?_
      refine V_lv [2, 3, 4, 5, 6, 7, 8, 9, 1, 0] rfl ?_
      exact Mod_cl_111 hA hi hsp hK
  · refine V_ar_n d_Mod_close_79 rfl ?_
    refine VR_geta d_Mod_close_80 f_Mod_22 (by decide) ?_
    refine V_iload d_Mod_close_83 rfl ?_
    refine VR_iald hA d_Mod_close_85 rfl (by omega) (by decide) ?_
    refine V_i2l d_Mod_close_86 ?_
    refine V_goto 91 d_Mod_close_87 (by decide) ?_
    refine V_eql (show _ = cls1 r i from (if_neg h76).symm) ?_
    refine V_lstore (lv' := [(11, .long (cls1 r i)), (0, .ref o), (1, .int x), (2, .int (nI a)), (3, .int v), (4, .long w), (6, .long h), (8, .long d), (10, .int (nI i))]) d_Mod_close_91 (by decide) rfl ?_
    refine V_ar_n d_Mod_close_93 rfl ?_
    refine VR_geta d_Mod_close_94 f_Mod_7 (by decide) ?_
    refine V_iload d_Mod_close_97 rfl ?_
    refine VR_iald hA d_Mod_close_99 rfl (by omega) (by decide) ?_
    refine V_iconst (v := 3) d_Mod_close_100 (by decide) ?_
    refine V_icmp_eq 108 d_Mod_close_101 (by decide) (fun h101 => ?_) (fun h101 => ?_)
    · refine V_iconst (v := 0) d_Mod_close_108 (by decide) ?_
      refine V_eqi (show _ = clsz r i from (if_pos h101).symm) ?_
      refine V_istore (lv' := [(13, .int (clsz r i)), (11, .long (cls1 r i)), (0, .ref o), (1, .int x), (2, .int (nI a)), (3, .int v), (4, .long w), (6, .long h), (8, .long d), (10, .int (nI i))]) d_Mod_close_109 (by decide) rfl ?_
      refine V_lv [2, 3, 4, 5, 6, 7, 8, 9, 1, 0] rfl ?_
      exact Mod_cl_111 hA hi hsp hK
    · refine V_iconst (v := 1) d_Mod_close_104 (by decide) ?_
      refine V_goto 109 d_Mod_close_105 (by decide) ?_
      refine V_eqi (show _ = clsz r i from (if_neg h101).symm) ?_
      refine V_istore (lv' := [(13, .int (clsz r i)), (11, .long (cls1 r i)), (0, .ref o), (1, .int x), (2, .int (nI a)), (3, .int v), (4, .long w), (6, .long h), (8, .long d), (10, .int (nI i))]) d_Mod_close_109 (by decide) rfl ?_
      refine V_lv [2, 3, 4, 5, 6, 7, 8, 9, 1, 0] rfl ?_
      exact Mod_cl_111 hA hi hsp hK
set_option maxRecDepth 100000 in
set_option maxHeartbeats 4000000 in
theorem Mod_cl_61 {l : Launch} {D : va_G} {ac : Nat → ClassId} {o : Nat} {ad : Nat → Nat} {r : RS} {M0 : MP} {Q : Option Value → MP → Prop} (hA : rAD o ad) {a e : Nat} {x v : Int32} {sp : Nat → Nat} {t9 : T3} (he : gF r 11 = nI e) (he2 : e ≤ 3100) (hsp : ∀ j, a ≤ j → j < e → gB r 7 j = nI (sp j) ∧ 0 < sp j ∧ j + sp j ≤ e) (hX : ∀ (i : Nat) (t : T3), ¬ i < e → t = t9 → V l D (tyl ac) t_Mod_close 0 0 359 [(0, .ref o), (1, .int x), (2, .int (nI a)), (3, .int v), (4, .long t.1), (6, .long t.2.1), (8, .long t.2.2), (10, .int (nI i))] [] (rM ac o ad (r) M0) Q) : ∀ (m i : Nat) (t : T3), a ≤ i → e ≤ i + m → i ≤ e → clo r v sp e m i t = t9 → V l D (tyl ac) t_Mod_close 0 0 61 [(0, .ref o), (1, .int x), (2, .int (nI a)), (3, .int v), (4, .long t.1), (6, .long t.2.1), (8, .long t.2.2), (10, .int (nI i))] [] (rM ac o ad (r) M0) Q := by
  intro m
  induction m with
  | zero =>
    intro i t h1 h2 h3 hT
    refine V_iload d_Mod_close_61 rfl ?_
    refine V_ar_n d_Mod_close_63 rfl ?_
    refine VR_geti d_Mod_close_64 f_Mod_90 (by decide) ?_
    refine V_eqi (show _ = nI e from he) ?_
    refine V_icmp_ge 359 d_Mod_close_67 (by decide) (fun h67 => ?_) (fun h67 => ?_)
    · exact hX i t (by omega) hT
    · exact absurd (nI_le (show e ≤ i by omega) (by omega)) h67
  | succ m ih =>
    intro i t h1 h2 h3 hT
    refine V_iload d_Mod_close_61 rfl ?_
    refine V_ar_n d_Mod_close_63 rfl ?_
    refine VR_geti d_Mod_close_64 f_Mod_90 (by decide) ?_
    refine V_eqi (show _ = nI e from he) ?_
    refine V_icmp_ge 359 d_Mod_close_67 (by decide) (fun h67 => ?_) (fun h67 => ?_)
    · have hge : ¬ i < e := fun y => absurd h67 (nI_ge y (by omega))
      exact hX i t hge (by rw [clo, if_neg hge] at hT; exact hT)
    · have hlt : i < e := by
        rcases Nat.lt_or_ge i e with y | y
        · exact y
        · exact absurd (nI_le y (by omega)) h67
      obtain ⟨s1, s2, s3⟩ := hsp i h1 hlt
      rw [clo, if_pos hlt] at hT
      exact Mod_cl_70 hA (by omega) s1 (ih (i + sp i) (cst r v i t) (by omega) (by omega) (by omega) hT)
