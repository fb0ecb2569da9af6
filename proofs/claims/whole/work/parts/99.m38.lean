/-! the law's loop -/
theorem V_mono {l : Launch} {D : va_G} {tys : TY} {t : MT} {k n k' n' pc : Nat} {lv : List (Nat × Value)} {st : List Value} {M : MP} {Q : Option Value → MP → Prop} (h : V l D tys t k n pc lv st M Q) (hk : k ≤ k') (hn : n ≤ n') : V l D tys t k' n' pc lv st M Q := fun A p e s m args below meth c C k0 n0 H locs cells slots ls hM hS hl hk1 hn1 => h A p e s m args below meth c C k0 n0 H locs cells slots ls hM hS hl (Nat.le_trans (Nat.add_le_add_left hk _) hk1) (Nat.le_trans (Nat.add_le_add_left hn _) hn1)
/-- what may still be made, with c calls to come -/
def kk (c N j : Nat) : Nat := 10 * c + (3 * (3100 - N) + (11 - j))
def kn (c N j : Nat) : Nat := 64 * c + (23 * (3100 - N) + (fw 11 - fw j))
/-- the script's length and ints -/
abbrev xsL (D : va_G) : Nat := D.2 100 1
abbrev xsV (D : va_G) (j : Nat) : Int32 := Int32.ofNat (D.2 101 j)
abbrev lwV (D : va_G) (x0 o ol i : Nat) : List (Nat × Value) := [(0, .ref (D.2 100 0)), (1, .ref x0), (2, .ref o), (3, .ref ol), (4, .int (nI (6 * i)))]
section lw
variable {l : Launch} {D : va_G} {ac : Nat → ClassId} {o : Nat} {ad : Nat → Nat} {x0 ol j N : Nat} {M : MP} {Q : Option Value → MP → Prop}
theorem LX_x (h : LX ac o ad x0 ol j N M) : ∃ fs, M x0 = some (.inr (0, fs)) := by
  obtain ⟨adr, s, r, Z, g, ops, f, rfl, hA, hW, hD, hS, ho, hj, hN⟩ := h
  exact ⟨pfv adr s, PW_c (p := 0) hW (by omega) (fun _ => rfl)⟩
theorem LX_bd (h : LX ac o ad x0 ol j N M) : j ≤ 11 ∧ N ≤ 3100 := by
  obtain ⟨adr, s, r, Z, g, ops, f, rfl, hA, hW, hD, hS, ho, hj, hN⟩ := h
  have h1 := (PW_ok hW).2.2
  have h2 := hS.2.2.2.2.2.2.2.2.2.2.1
  omega
theorem V_xld {t : MT} {k n pc : Nat} {lv : List (Nat × Value)} {st : List Value} {i : Int32} (hd : decode t.2.1 pc = .ok (.iaload, 1)) (hin : vp_in i (xsL D)) (h : V l D (tyl ac) t k n (pc + 1) lv (.int (xsV D i.toNatClampNeg) :: st) M Q) : V l D (tyl ac) t k n pc lv (.int i :: .ref (D.2 100 0) :: st) M Q := fun A p e s m args below meth c C k0 n0 H locs cells slots ls hM hS hl hk hn => by
  have hX := C.2.2.2.2.2.1.1.2
  have hbl : D.2 100 0 < s.heap.size := by
    obtain ⟨scr, e1, -⟩ := hX.1
    exact (Array.getElem?_eq_some_iff.mp e1).1
  exact va_sld C.1.1 C.1.2.1 hX.1 hbl hX.2 hS hin hd (h A p e s m args below meth c C k0 n0 H locs cells slots ls hM hS hl hk hn)
theorem V_xlen {t : MT} {k n pc : Nat} {lv : List (Nat × Value)} {st : List Value} (hd : decode t.2.1 pc = .ok (.arraylength, 1)) (h : V l D (tyl ac) t k n (pc + 1) lv (.int (Int32.ofNat (xsL D)) :: st) M Q) : V l D (tyl ac) t k n pc lv (.ref (D.2 100 0) :: st) M Q := fun A p e s m args below meth c C k0 n0 H locs cells slots ls hM hS hl hk hn => by
  have hX := C.2.2.2.2.2.1.1.2
  have hbl : D.2 100 0 < s.heap.size := by
    obtain ⟨scr, e1, -⟩ := hX.1
    exact (Array.getElem?_eq_some_iff.mp e1).1
  exact va_slen C.1.1 C.1.2.1 hX.1 hbl hX.2 hS hd (h A p e s m args below meth c C k0 n0 H locs cells slots ls hM hS hl hk hn)
/-- script[i + j] -/
theorem V_arg {k n pc i j : Nat} {ji : Int} {lv : List (Nat × Value)} {st : List Value} (d1 : decode t_Law_law.2.1 pc = .ok (.aload_n 0, 1)) (d2 : decode t_Law_law.2.1 (pc + 1) = .ok (.iload 4, 2)) (d3 : decode t_Law_law.2.1 (pc + 1 + 2) = .ok (.iconst ji, 1)) (d4 : decode t_Law_law.2.1 (pc + 1 + 2 + 1) = .ok (.iadd, 1)) (d5 : decode t_Law_law.2.1 (pc + 1 + 2 + 1 + 1) = .ok (.iaload, 1)) (hji : Int32.ofInt ji = nI j) (hi : 6 * i + j < xsL D) (hL : xsL D ≤ 3072) (h0 : lv.lookup 0 = some (.ref (D.2 100 0))) (h4 : lv.lookup 4 = some (.int (nI (6 * i)))) (h : V l D (tyl ac) t_Law_law k n (pc + 6) lv (.int (xsV D (6 * i + j)) :: st) M Q) : V l D (tyl ac) t_Law_law k n pc lv st M Q := by
  refine V_aload_n d1 h0 (isr_ref _) ?_
  refine V_iload d2 h4 ?_
  refine V_iconst d3 hji ?_
  refine V_iadd d4 ?_
  refine V_eqi (nI_add _ _) ?_
  refine V_xld d5 (vp_in_nI hi (by omega)) ?_
  refine V_eqi (show xsV D (nI (6 * i + j)).toNatClampNeg = xsV D (6 * i + j) by rw [nI_clamp (by omega)]) ?_
  exact h
def bz (x : Int32) : Int32 := if x = 0 then 0 else 1
theorem bz_1 (x : Int32) : isz1 (bz x) ∧ vp_nar .boolean (bz x) = bz x := by
  unfold bz
  split
  · exact ⟨⟨rfl, rfl⟩, rfl⟩
  · exact ⟨⟨rfl, rfl⟩, rfl⟩
theorem V_bz {t : MT} {k n pc : Nat} {lv : List (Nat × Value)} {st : List Value} {x : Int32} (d1 : decode t.2.1 pc = .ok (.ifCond .eq 7, 3)) (d2 : decode t.2.1 (pc + 3) = .ok (.iconst 1, 1)) (d3 : decode t.2.1 (pc + 3 + 1) = .ok (.goto 4, 3)) (d4 : decode t.2.1 (pc + 7) = .ok (.iconst 0, 1)) (h : V l D (tyl ac) t k n (pc + 8) lv (.int (bz x) :: st) M Q) : V l D (tyl ac) t k n pc lv (.int x :: st) M Q := by
  refine V_if_eq (pc + 7) d1 (by omega) (fun hx => ?_) (fun hx => ?_)
  · refine V_iconst (v := 0) d4 (by decide) ?_
    have e : bz x = 0 := if_pos hx
    rw [e] at h
    exact h
  · refine V_iconst (v := 1) d2 (by decide) ?_
    refine V_goto (pc + 8) d3 (by omega) ?_
    have e : bz x = 1 := if_neg hx
    rw [e] at h
    exact h
variable {c i : Nat}
set_option maxRecDepth 100000 in
set_option maxHeartbeats 4000000 in
theorem lc_font (h : LX ac o ad x0 ol j N M) (hi : 6 * i + 6 ≤ xsL D) (hL : xsL D ≤ 3072) (hC : ∀ j' N' M2, LX ac o ad x0 ol j' N' M2 → V l D (tyl ac) t_Law_law (kk c N' j') (kn c N' j') 630 (lwV D x0 o ol i) [] M2 Q) : V l D (tyl ac) t_Law_law (kk (c + 1) N j) (kn (c + 1) N j) 104 (lwV D x0 o ol i) [] M Q := by
  obtain ⟨fx, hx⟩ := LX_x h
  have hd := LX_bd h
  have hf1 := fw_mono hd.1
  obtain ⟨Q1, ct, hQ⟩ := op_font (l := l) (D := D) h (xsV D (6 * i + 1)) (xsV D (6 * i + 2)) (xsV D (6 * i + 3))
  refine V_aload_n d_Law_law_104 rfl (isr_ref _) ?_
  refine V_arg (i := i) (j := 1) d_Law_law_105 d_Law_law_106 d_Law_law_108 d_Law_law_109 d_Law_law_110 (by decide) (by omega) hL rfl rfl ?_
  refine V_arg (i := i) (j := 2) d_Law_law_111 d_Law_law_112 d_Law_law_114 d_Law_law_115 d_Law_law_116 (by decide) (by omega) hL rfl rfl ?_
  refine V_arg (i := i) (j := 3) d_Law_law_117 d_Law_law_118 d_Law_law_120 d_Law_law_121 d_Law_law_122 (by decide) (by omega) hL rfl rfl ?_
  refine V_callV (As := [.int (xsV D (6 * i + 1)), .int (xsV D (6 * i + 2)), .int (xsV D (6 * i + 3))]) (rest := []) (k' := kk (c + 1) N j - 0) (n' := kn (c + 1) N j - 0) hx rfl d_Law_law_123 c_Law_25 ⟨by decide, by decide⟩ rfl rfl (Nat.le_of_ble_eq_true rfl) (by unfold kk; omega) (by unfold kn; omega) ct (fun r1 M1 hq => ?_)
  obtain ⟨v, fs, r', rfl, hm, ct2, hend⟩ := hQ _ _ hq
  refine V_aload_n d_Law_law_126 rfl (isr_ref _) ?_
  refine V_arg (i := i) (j := 1) d_Law_law_127 d_Law_law_128 d_Law_law_130 d_Law_law_131 d_Law_law_132 (by decide) (by omega) hL rfl rfl ?_
  refine V_arg (i := i) (j := 2) d_Law_law_133 d_Law_law_134 d_Law_law_136 d_Law_law_137 d_Law_law_138 (by decide) (by omega) hL rfl rfl ?_
  refine V_arg (i := i) (j := 3) d_Law_law_139 d_Law_law_140 d_Law_law_142 d_Law_law_143 d_Law_law_144 (by decide) (by omega) hL rfl rfl ?_
  refine V_callV (As := [.int (xsV D (6 * i + 1)), .int (xsV D (6 * i + 2)), .int (xsV D (6 * i + 3))]) (rest := [.int v]) (k' := kk (c + 1) N j - 0) (n' := kn (c + 1) N j - 0) hm rfl d_Law_law_145 c_Law_29 ⟨by decide, by decide⟩ rfl rfl (Nat.le_of_ble_eq_true rfl) (Nat.add_zero _).symm (Nat.add_zero _).symm ct2 (fun r2 M2 hq2 => ?_)
  obtain ⟨rfl, hl3⟩ := hend _ _ hq2
  refine V_icmp_eq 630 d_Law_law_148 (by decide) (fun _ => ?_) (fun z => absurd rfl z)
  exact V_mono (hC _ _ _ hl3) (by unfold kk; omega) (by unfold kn; omega)
set_option maxRecDepth 100000 in
set_option maxHeartbeats 4000000 in
theorem lc_open (h : LX ac o ad x0 ol j N M) (hi : 6 * i + 6 ≤ xsL D) (hL : xsL D ≤ 3072) (hC : ∀ j' N' M2, LX ac o ad x0 ol j' N' M2 → V l D (tyl ac) t_Law_law (kk c N' j') (kn c N' j') 630 (lwV D x0 o ol i) [] M2 Q) : V l D (tyl ac) t_Law_law (kk (c + 1) N j) (kn (c + 1) N j) 153 (lwV D x0 o ol i) [] M Q := by
  obtain ⟨fx, hx⟩ := LX_x h
  have hd := LX_bd h
  have hf1 := fw_mono hd.1
  obtain ⟨Q1, ct, hQ⟩ := op_open (l := l) (D := D) h (bz_1 (xsV D (6 * i + 1))).1 (bz_1 (xsV D (6 * i + 1))).2
  refine V_aload_n d_Law_law_153 rfl (isr_ref _) ?_
  refine V_arg (i := i) (j := 1) d_Law_law_154 d_Law_law_155 d_Law_law_157 d_Law_law_158 d_Law_law_159 (by decide) (by omega) hL rfl rfl ?_
  refine V_bz d_Law_law_160 d_Law_law_163 d_Law_law_164 d_Law_law_167 ?_
  refine V_callV (As := [.int (bz (xsV D (6 * i + 1)))]) (rest := []) (k' := kk (c + 1) N j - 1) (n' := kn (c + 1) N j - 10) hx rfl d_Law_law_168 c_Law_30 ⟨by decide, by decide⟩ rfl rfl (Nat.le_of_ble_eq_true rfl) (by unfold kk; omega) (by unfold kn; omega) ct (fun r1 M1 hq => ?_)
  obtain ⟨v, fs, r', rfl, hm, ct2, hend⟩ := hQ _ _ hq
  refine V_aload_n d_Law_law_171 rfl (isr_ref _) ?_
  refine V_arg (i := i) (j := 1) d_Law_law_172 d_Law_law_173 d_Law_law_175 d_Law_law_176 d_Law_law_177 (by decide) (by omega) hL rfl rfl ?_
  refine V_bz d_Law_law_178 d_Law_law_181 d_Law_law_182 d_Law_law_185 ?_
  refine V_callV (As := [.int (bz (xsV D (6 * i + 1)))]) (rest := [.int v]) (k' := kk (c + 1) N j - 1) (n' := kn (c + 1) N j - 10) hm rfl d_Law_law_186 c_Law_34 ⟨by decide, by decide⟩ rfl rfl (Nat.le_of_ble_eq_true rfl) (Nat.add_zero _).symm (Nat.add_zero _).symm ct2 (fun r2 M2 hq2 => ?_)
  obtain ⟨rfl, hl3⟩ := hend _ _ hq2
  refine V_icmp_eq 630 d_Law_law_189 (by decide) (fun _ => ?_) (fun z => absurd rfl z)
  exact V_mono (hC _ _ _ hl3) (by unfold kk; omega) (by unfold kn; omega)
set_option maxRecDepth 100000 in
set_option maxHeartbeats 4000000 in
theorem lc_chr (h : LX ac o ad x0 ol j N M) (hi : 6 * i + 6 ≤ xsL D) (hL : xsL D ≤ 3072) (hC : ∀ j' N' M2, LX ac o ad x0 ol j' N' M2 → V l D (tyl ac) t_Law_law (kk c N' j') (kn c N' j') 630 (lwV D x0 o ol i) [] M2 Q) : V l D (tyl ac) t_Law_law (kk (c + 1) N j) (kn (c + 1) N j) 194 (lwV D x0 o ol i) [] M Q := by
  obtain ⟨fx, hx⟩ := LX_x h
  have hd := LX_bd h
  have hf1 := fw_mono hd.1
  obtain ⟨Q1, ct, hQ⟩ := op_chr (l := l) (D := D) h (xsV D (6 * i + 1)) (xsV D (6 * i + 2)) (xsV D (6 * i + 3)) (xsV D (6 * i + 4)) (xsV D (6 * i + 5))
  refine V_aload_n d_Law_law_194 rfl (isr_ref _) ?_
  refine V_arg (i := i) (j := 1) d_Law_law_195 d_Law_law_196 d_Law_law_198 d_Law_law_199 d_Law_law_200 (by decide) (by omega) hL rfl rfl ?_
  refine V_arg (i := i) (j := 2) d_Law_law_201 d_Law_law_202 d_Law_law_204 d_Law_law_205 d_Law_law_206 (by decide) (by omega) hL rfl rfl ?_
  refine V_arg (i := i) (j := 3) d_Law_law_207 d_Law_law_208 d_Law_law_210 d_Law_law_211 d_Law_law_212 (by decide) (by omega) hL rfl rfl ?_
  refine V_arg (i := i) (j := 4) d_Law_law_213 d_Law_law_214 d_Law_law_216 d_Law_law_217 d_Law_law_218 (by decide) (by omega) hL rfl rfl ?_
  refine V_arg (i := i) (j := 5) d_Law_law_219 d_Law_law_220 d_Law_law_222 d_Law_law_223 d_Law_law_224 (by decide) (by omega) hL rfl rfl ?_
  refine V_callV (As := [.int (xsV D (6 * i + 1)), .int (xsV D (6 * i + 2)), .int (xsV D (6 * i + 3)), .int (xsV D (6 * i + 4)), .int (xsV D (6 * i + 5))]) (rest := []) (k' := kk (c + 1) N j - 1) (n' := kn (c + 1) N j - 10) hx rfl d_Law_law_225 c_Law_35 ⟨by decide, by decide⟩ rfl rfl (Nat.le_of_ble_eq_true rfl) (by unfold kk; omega) (by unfold kn; omega) ct (fun r1 M1 hq => ?_)
  obtain ⟨v, fs, r', rfl, hm, ct2, hend⟩ := hQ _ _ hq
  refine V_aload_n d_Law_law_228 rfl (isr_ref _) ?_
  refine V_arg (i := i) (j := 1) d_Law_law_229 d_Law_law_230 d_Law_law_232 d_Law_law_233 d_Law_law_234 (by decide) (by omega) hL rfl rfl ?_
  refine V_arg (i := i) (j := 2) d_Law_law_235 d_Law_law_236 d_Law_law_238 d_Law_law_239 d_Law_law_240 (by decide) (by omega) hL rfl rfl ?_
  refine V_arg (i := i) (j := 3) d_Law_law_241 d_Law_law_242 d_Law_law_244 d_Law_law_245 d_Law_law_246 (by decide) (by omega) hL rfl rfl ?_
  refine V_arg (i := i) (j := 4) d_Law_law_247 d_Law_law_248 d_Law_law_250 d_Law_law_251 d_Law_law_252 (by decide) (by omega) hL rfl rfl ?_
  refine V_arg (i := i) (j := 5) d_Law_law_253 d_Law_law_254 d_Law_law_256 d_Law_law_257 d_Law_law_258 (by decide) (by omega) hL rfl rfl ?_
  refine V_callV (As := [.int (xsV D (6 * i + 1)), .int (xsV D (6 * i + 2)), .int (xsV D (6 * i + 3)), .int (xsV D (6 * i + 4)), .int (xsV D (6 * i + 5))]) (rest := [.int v]) (k' := kk (c + 1) N j - 1) (n' := kn (c + 1) N j - 10) hm rfl d_Law_law_259 c_Law_39 ⟨by decide, by decide⟩ rfl rfl (Nat.le_of_ble_eq_true rfl) (Nat.add_zero _).symm (Nat.add_zero _).symm ct2 (fun r2 M2 hq2 => ?_)
  obtain ⟨rfl, hl3⟩ := hend _ _ hq2
  refine V_icmp_eq 630 d_Law_law_262 (by decide) (fun _ => ?_) (fun z => absurd rfl z)
  exact V_mono (hC _ _ _ hl3) (by unfold kk; omega) (by unfold kn; omega)
set_option maxRecDepth 100000 in
set_option maxHeartbeats 4000000 in
theorem lc_rul (h : LX ac o ad x0 ol j N M) (hi : 6 * i + 6 ≤ xsL D) (hL : xsL D ≤ 3072) (hC : ∀ j' N' M2, LX ac o ad x0 ol j' N' M2 → V l D (tyl ac) t_Law_law (kk c N' j') (kn c N' j') 630 (lwV D x0 o ol i) [] M2 Q) : V l D (tyl ac) t_Law_law (kk (c + 1) N j) (kn (c + 1) N j) 267 (lwV D x0 o ol i) [] M Q := by
  obtain ⟨fx, hx⟩ := LX_x h
  have hd := LX_bd h
  have hf1 := fw_mono hd.1
  obtain ⟨Q1, ct, hQ⟩ := op_rul (l := l) (D := D) h (xsV D (6 * i + 1)) (xsV D (6 * i + 2)) (xsV D (6 * i + 3)) (xsV D (6 * i + 4))
  refine V_aload_n d_Law_law_267 rfl (isr_ref _) ?_
  refine V_arg (i := i) (j := 1) d_Law_law_268 d_Law_law_269 d_Law_law_271 d_Law_law_272 d_Law_law_273 (by decide) (by omega) hL rfl rfl ?_
  refine V_arg (i := i) (j := 2) d_Law_law_274 d_Law_law_275 d_Law_law_277 d_Law_law_278 d_Law_law_279 (by decide) (by omega) hL rfl rfl ?_
  refine V_arg (i := i) (j := 3) d_Law_law_280 d_Law_law_281 d_Law_law_283 d_Law_law_284 d_Law_law_285 (by decide) (by omega) hL rfl rfl ?_
  refine V_arg (i := i) (j := 4) d_Law_law_286 d_Law_law_287 d_Law_law_289 d_Law_law_290 d_Law_law_291 (by decide) (by omega) hL rfl rfl ?_
  refine V_callV (As := [.int (xsV D (6 * i + 1)), .int (xsV D (6 * i + 2)), .int (xsV D (6 * i + 3)), .int (xsV D (6 * i + 4))]) (rest := []) (k' := kk (c + 1) N j - 1) (n' := kn (c + 1) N j - 10) hx rfl d_Law_law_292 c_Law_40 ⟨by decide, by decide⟩ rfl rfl (Nat.le_of_ble_eq_true rfl) (by unfold kk; omega) (by unfold kn; omega) ct (fun r1 M1 hq => ?_)
  obtain ⟨v, fs, r', rfl, hm, ct2, hend⟩ := hQ _ _ hq
  refine V_aload_n d_Law_law_295 rfl (isr_ref _) ?_
  refine V_arg (i := i) (j := 1) d_Law_law_296 d_Law_law_297 d_Law_law_299 d_Law_law_300 d_Law_law_301 (by decide) (by omega) hL rfl rfl ?_
  refine V_arg (i := i) (j := 2) d_Law_law_302 d_Law_law_303 d_Law_law_305 d_Law_law_306 d_Law_law_307 (by decide) (by omega) hL rfl rfl ?_
  refine V_arg (i := i) (j := 3) d_Law_law_308 d_Law_law_309 d_Law_law_311 d_Law_law_312 d_Law_law_313 (by decide) (by omega) hL rfl rfl ?_
  refine V_arg (i := i) (j := 4) d_Law_law_314 d_Law_law_315 d_Law_law_317 d_Law_law_318 d_Law_law_319 (by decide) (by omega) hL rfl rfl ?_
  refine V_callV (As := [.int (xsV D (6 * i + 1)), .int (xsV D (6 * i + 2)), .int (xsV D (6 * i + 3)), .int (xsV D (6 * i + 4))]) (rest := [.int v]) (k' := kk (c + 1) N j - 1) (n' := kn (c + 1) N j - 10) hm rfl d_Law_law_320 c_Law_44 ⟨by decide, by decide⟩ rfl rfl (Nat.le_of_ble_eq_true rfl) (Nat.add_zero _).symm (Nat.add_zero _).symm ct2 (fun r2 M2 hq2 => ?_)
  obtain ⟨rfl, hl3⟩ := hend _ _ hq2
  refine V_icmp_eq 630 d_Law_law_323 (by decide) (fun _ => ?_) (fun z => absurd rfl z)
  exact V_mono (hC _ _ _ hl3) (by unfold kk; omega) (by unfold kn; omega)
set_option maxRecDepth 100000 in
set_option maxHeartbeats 4000000 in
theorem lc_spc (h : LX ac o ad x0 ol j N M) (hi : 6 * i + 6 ≤ xsL D) (hL : xsL D ≤ 3072) (hC : ∀ j' N' M2, LX ac o ad x0 ol j' N' M2 → V l D (tyl ac) t_Law_law (kk c N' j') (kn c N' j') 630 (lwV D x0 o ol i) [] M2 Q) : V l D (tyl ac) t_Law_law (kk (c + 1) N j) (kn (c + 1) N j) 328 (lwV D x0 o ol i) [] M Q := by
  obtain ⟨fx, hx⟩ := LX_x h
  have hd := LX_bd h
  have hf1 := fw_mono hd.1
  obtain ⟨Q1, ct, hQ⟩ := op_spc (l := l) (D := D) h (xsV D (6 * i + 1))
  refine V_aload_n d_Law_law_328 rfl (isr_ref _) ?_
  refine V_arg (i := i) (j := 1) d_Law_law_329 d_Law_law_330 d_Law_law_332 d_Law_law_333 d_Law_law_334 (by decide) (by omega) hL rfl rfl ?_
  refine V_callV (As := [.int (xsV D (6 * i + 1))]) (rest := []) (k' := kk (c + 1) N j - 1) (n' := kn (c + 1) N j - 10) hx rfl d_Law_law_335 c_Law_45 ⟨by decide, by decide⟩ rfl rfl (Nat.le_of_ble_eq_true rfl) (by unfold kk; omega) (by unfold kn; omega) ct (fun r1 M1 hq => ?_)
  obtain ⟨v, fs, r', rfl, hm, ct2, hend⟩ := hQ _ _ hq
  refine V_aload_n d_Law_law_338 rfl (isr_ref _) ?_
  refine V_arg (i := i) (j := 1) d_Law_law_339 d_Law_law_340 d_Law_law_342 d_Law_law_343 d_Law_law_344 (by decide) (by omega) hL rfl rfl ?_
  refine V_callV (As := [.int (xsV D (6 * i + 1))]) (rest := [.int v]) (k' := kk (c + 1) N j - 1) (n' := kn (c + 1) N j - 10) hm rfl d_Law_law_345 c_Law_49 ⟨by decide, by decide⟩ rfl rfl (Nat.le_of_ble_eq_true rfl) (Nat.add_zero _).symm (Nat.add_zero _).symm ct2 (fun r2 M2 hq2 => ?_)
  obtain ⟨rfl, hl3⟩ := hend _ _ hq2
  refine V_icmp_eq 630 d_Law_law_348 (by decide) (fun _ => ?_) (fun z => absurd rfl z)
  exact V_mono (hC _ _ _ hl3) (by unfold kk; omega) (by unfold kn; omega)
set_option maxRecDepth 100000 in
set_option maxHeartbeats 4000000 in
theorem lc_clo (h : LX ac o ad x0 ol j N M) (hi : 6 * i + 6 ≤ xsL D) (hL : xsL D ≤ 3072) (hC : ∀ j' N' M2, LX ac o ad x0 ol j' N' M2 → V l D (tyl ac) t_Law_law (kk c N' j') (kn c N' j') 630 (lwV D x0 o ol i) [] M2 Q) : V l D (tyl ac) t_Law_law (kk (c + 1) N j) (kn (c + 1) N j) 353 (lwV D x0 o ol i) [] M Q := by
  obtain ⟨fx, hx⟩ := LX_x h
  have hd := LX_bd h
  have hf1 := fw_mono hd.1
  obtain ⟨Q1, ct, hQ⟩ := op_clo (l := l) (D := D) h (xsV D (6 * i + 1))
  refine V_aload_n d_Law_law_353 rfl (isr_ref _) ?_
  refine V_arg (i := i) (j := 1) d_Law_law_354 d_Law_law_355 d_Law_law_357 d_Law_law_358 d_Law_law_359 (by decide) (by omega) hL rfl rfl ?_
  refine V_callV (As := [.int (xsV D (6 * i + 1))]) (rest := []) (k' := kk (c + 1) N j - 1) (n' := kn (c + 1) N j - 7) hx rfl d_Law_law_360 c_Law_50 ⟨by decide, by decide⟩ rfl rfl (Nat.le_of_ble_eq_true rfl) (by unfold kk; omega) (by unfold kn; omega) ct (fun r1 M1 hq => ?_)
  obtain ⟨v, fs, r', rfl, hm, ct2, hend⟩ := hQ _ _ hq
  refine V_aload_n d_Law_law_363 rfl (isr_ref _) ?_
  refine V_arg (i := i) (j := 1) d_Law_law_364 d_Law_law_365 d_Law_law_367 d_Law_law_368 d_Law_law_369 (by decide) (by omega) hL rfl rfl ?_
  refine V_callV (As := [.int (xsV D (6 * i + 1))]) (rest := [.int v]) (k' := kk (c + 1) N j - 1) (n' := kn (c + 1) N j - 7) hm rfl d_Law_law_370 c_Law_53 ⟨by decide, by decide⟩ rfl rfl (Nat.le_of_ble_eq_true rfl) (Nat.add_zero _).symm (Nat.add_zero _).symm ct2 (fun r2 M2 hq2 => ?_)
  obtain ⟨rfl, hl3⟩ := hend _ _ hq2
  refine V_icmp_eq 630 d_Law_law_373 (by decide) (fun _ => ?_) (fun z => absurd rfl z)
  exact V_mono (hC _ _ _ hl3) (by unfold kk; omega) (by unfold kn; omega)
set_option maxRecDepth 100000 in
set_option maxHeartbeats 4000000 in
theorem lc_put (h : LX ac o ad x0 ol j N M) (hi : 6 * i + 6 ≤ xsL D) (hL : xsL D ≤ 3072) (hC : ∀ j' N' M2, LX ac o ad x0 ol j' N' M2 → V l D (tyl ac) t_Law_law (kk c N' j') (kn c N' j') 630 (lwV D x0 o ol i) [] M2 Q) : V l D (tyl ac) t_Law_law (kk (c + 1) N j) (kn (c + 1) N j) 378 (lwV D x0 o ol i) [] M Q := by
  obtain ⟨fx, hx⟩ := LX_x h
  have hd := LX_bd h
  have hf1 := fw_mono hd.1
  obtain ⟨Q1, ct, hQ⟩ := op_put (l := l) (D := D) h (xsV D (6 * i + 1)) (xsV D (6 * i + 2)) (bz (xsV D (6 * i + 3)))
  refine V_aload_n d_Law_law_378 rfl (isr_ref _) ?_
  refine V_arg (i := i) (j := 1) d_Law_law_379 d_Law_law_380 d_Law_law_382 d_Law_law_383 d_Law_law_384 (by decide) (by omega) hL rfl rfl ?_
  refine V_arg (i := i) (j := 2) d_Law_law_385 d_Law_law_386 d_Law_law_388 d_Law_law_389 d_Law_law_390 (by decide) (by omega) hL rfl rfl ?_
  refine V_arg (i := i) (j := 3) d_Law_law_391 d_Law_law_392 d_Law_law_394 d_Law_law_395 d_Law_law_396 (by decide) (by omega) hL rfl rfl ?_
  refine V_bz d_Law_law_397 d_Law_law_400 d_Law_law_401 d_Law_law_404 ?_
  refine V_callV (As := [.int (xsV D (6 * i + 1)), .int (xsV D (6 * i + 2)), .int (bz (xsV D (6 * i + 3)))]) (rest := []) (k' := kk (c + 1) N j - 1) (n' := kn (c + 1) N j - 10) hx rfl d_Law_law_405 c_Law_54 ⟨by decide, by decide⟩ rfl rfl (Nat.le_of_ble_eq_true rfl) (by unfold kk; omega) (by unfold kn; omega) ct (fun r1 M1 hq => ?_)
  obtain ⟨v, fs, r', rfl, hm, ct2, hend⟩ := hQ _ _ hq
  refine V_aload_n d_Law_law_408 rfl (isr_ref _) ?_
  refine V_arg (i := i) (j := 1) d_Law_law_409 d_Law_law_410 d_Law_law_412 d_Law_law_413 d_Law_law_414 (by decide) (by omega) hL rfl rfl ?_
  refine V_arg (i := i) (j := 2) d_Law_law_415 d_Law_law_416 d_Law_law_418 d_Law_law_419 d_Law_law_420 (by decide) (by omega) hL rfl rfl ?_
  refine V_arg (i := i) (j := 3) d_Law_law_421 d_Law_law_422 d_Law_law_424 d_Law_law_425 d_Law_law_426 (by decide) (by omega) hL rfl rfl ?_
  refine V_bz d_Law_law_427 d_Law_law_430 d_Law_law_431 d_Law_law_434 ?_
  refine V_callV (As := [.int (xsV D (6 * i + 1)), .int (xsV D (6 * i + 2)), .int (bz (xsV D (6 * i + 3)))]) (rest := [.int v]) (k' := kk (c + 1) N j - 1) (n' := kn (c + 1) N j - 10) hm rfl d_Law_law_435 c_Law_58 ⟨by decide, by decide⟩ rfl rfl (Nat.le_of_ble_eq_true rfl) (Nat.add_zero _).symm (Nat.add_zero _).symm ct2 (fun r2 M2 hq2 => ?_)
  obtain ⟨rfl, hl3⟩ := hend _ _ hq2
  refine V_icmp_eq 630 d_Law_law_438 (by decide) (fun _ => ?_) (fun z => absurd rfl z)
  exact V_mono (hC _ _ _ hl3) (by unfold kk; omega) (by unfold kn; omega)
set_option maxRecDepth 100000 in
set_option maxHeartbeats 4000000 in
theorem lc_byt (h : LX ac o ad x0 ol j N M) (hi : 6 * i + 6 ≤ xsL D) (hL : xsL D ≤ 3072) (hC : ∀ j' N' M2, LX ac o ad x0 ol j' N' M2 → V l D (tyl ac) t_Law_law (kk c N' j') (kn c N' j') 630 (lwV D x0 o ol i) [] M2 Q) : V l D (tyl ac) t_Law_law (kk (c + 1) N j) (kn (c + 1) N j) 543 (lwV D x0 o ol i) [] M Q := by
  obtain ⟨fx, hx⟩ := LX_x h
  have hd := LX_bd h
  have hf1 := fw_mono hd.1
  obtain ⟨Q1, ct, hQ⟩ := op_byt (l := l) (D := D) h (xsV D (6 * i + 1))
  refine V_aload_n d_Law_law_543 rfl (isr_ref _) ?_
  refine V_arg (i := i) (j := 1) d_Law_law_544 d_Law_law_545 d_Law_law_547 d_Law_law_548 d_Law_law_549 (by decide) (by omega) hL rfl rfl ?_
  refine V_callV (As := [.int (xsV D (6 * i + 1))]) (rest := []) (k' := kk (c + 1) N j - 0) (n' := kn (c + 1) N j - 0) hx rfl d_Law_law_550 c_Law_72 ⟨by decide, by decide⟩ rfl rfl (Nat.le_of_ble_eq_true rfl) (by unfold kk; omega) (by unfold kn; omega) ct (fun r1 M1 hq => ?_)
  obtain ⟨v, fs, r', rfl, hm, ct2, hend⟩ := hQ _ _ hq
  refine V_aload_n d_Law_law_553 rfl (isr_ref _) ?_
  refine V_arg (i := i) (j := 1) d_Law_law_554 d_Law_law_555 d_Law_law_557 d_Law_law_558 d_Law_law_559 (by decide) (by omega) hL rfl rfl ?_
  refine V_callV (As := [.int (xsV D (6 * i + 1))]) (rest := [.int v]) (k' := kk (c + 1) N j - 0) (n' := kn (c + 1) N j - 0) hm rfl d_Law_law_560 c_Law_75 ⟨by decide, by decide⟩ rfl rfl (Nat.le_of_ble_eq_true rfl) (Nat.add_zero _).symm (Nat.add_zero _).symm ct2 (fun r2 M2 hq2 => ?_)
  obtain ⟨rfl, hl3⟩ := hend _ _ hq2
  refine V_icmp_eq 630 d_Law_law_563 (by decide) (fun _ => ?_) (fun z => absurd rfl z)
  exact V_mono (hC _ _ _ hl3) (by unfold kk; omega) (by unfold kn; omega)
set_option maxRecDepth 100000 in
set_option maxHeartbeats 4000000 in
theorem lc_cnt (h : LX ac o ad x0 ol j N M) (hi : 6 * i + 6 ≤ xsL D) (hL : xsL D ≤ 3072) (hC : ∀ j' N' M2, LX ac o ad x0 ol j' N' M2 → V l D (tyl ac) t_Law_law (kk c N' j') (kn c N' j') 630 (lwV D x0 o ol i) [] M2 Q) : V l D (tyl ac) t_Law_law (kk (c + 1) N j) (kn (c + 1) N j) 568 (lwV D x0 o ol i) [] M Q := by
  obtain ⟨fx, hx⟩ := LX_x h
  have hd := LX_bd h
  have hf1 := fw_mono hd.1
  obtain ⟨Q1, ct, hQ⟩ := op_cnt (l := l) (D := D) h (xsV D (6 * i + 1))
  refine V_aload_n d_Law_law_568 rfl (isr_ref _) ?_
  refine V_arg (i := i) (j := 1) d_Law_law_569 d_Law_law_570 d_Law_law_572 d_Law_law_573 d_Law_law_574 (by decide) (by omega) hL rfl rfl ?_
  refine V_callV (As := [.int (xsV D (6 * i + 1))]) (rest := []) (k' := kk (c + 1) N j - 0) (n' := kn (c + 1) N j - 0) hx rfl d_Law_law_575 c_Law_76 ⟨by decide, by decide⟩ rfl rfl (Nat.le_of_ble_eq_true rfl) (by unfold kk; omega) (by unfold kn; omega) ct (fun r1 M1 hq => ?_)
  obtain ⟨v, fs, r', rfl, hm, ct2, hend⟩ := hQ _ _ hq
  refine V_aload_n d_Law_law_578 rfl (isr_ref _) ?_
  refine V_arg (i := i) (j := 1) d_Law_law_579 d_Law_law_580 d_Law_law_582 d_Law_law_583 d_Law_law_584 (by decide) (by omega) hL rfl rfl ?_
  refine V_callV (As := [.int (xsV D (6 * i + 1))]) (rest := [.int v]) (k' := kk (c + 1) N j - 0) (n' := kn (c + 1) N j - 0) hm rfl d_Law_law_585 c_Law_79 ⟨by decide, by decide⟩ rfl rfl (Nat.le_of_ble_eq_true rfl) (Nat.add_zero _).symm (Nat.add_zero _).symm ct2 (fun r2 M2 hq2 => ?_)
  obtain ⟨rfl, hl3⟩ := hend _ _ hq2
  refine V_icmp_eq 630 d_Law_law_588 (by decide) (fun _ => ?_) (fun z => absurd rfl z)
  exact V_mono (hC _ _ _ hl3) (by unfold kk; omega) (by unfold kn; omega)
set_option maxRecDepth 100000 in
set_option maxHeartbeats 4000000 in
theorem lc_siz (h : LX ac o ad x0 ol j N M) (hi : 6 * i + 6 ≤ xsL D) (hL : xsL D ≤ 3072) (hC : ∀ j' N' M2, LX ac o ad x0 ol j' N' M2 → V l D (tyl ac) t_Law_law (kk c N' j') (kn c N' j') 630 (lwV D x0 o ol i) [] M2 Q) : V l D (tyl ac) t_Law_law (kk (c + 1) N j) (kn (c + 1) N j) 593 (lwV D x0 o ol i) [] M Q := by
  obtain ⟨fx, hx⟩ := LX_x h
  have hd := LX_bd h
  have hf1 := fw_mono hd.1
  obtain ⟨Q1, ct, hQ⟩ := op_siz (l := l) (D := D) h (xsV D (6 * i + 1)) (xsV D (6 * i + 2))
  refine V_aload_n d_Law_law_593 rfl (isr_ref _) ?_
  refine V_arg (i := i) (j := 1) d_Law_law_594 d_Law_law_595 d_Law_law_597 d_Law_law_598 d_Law_law_599 (by decide) (by omega) hL rfl rfl ?_
  refine V_arg (i := i) (j := 2) d_Law_law_600 d_Law_law_601 d_Law_law_603 d_Law_law_604 d_Law_law_605 (by decide) (by omega) hL rfl rfl ?_
  refine V_callV (As := [.int (xsV D (6 * i + 1)), .int (xsV D (6 * i + 2))]) (rest := []) (k' := kk (c + 1) N j - 0) (n' := kn (c + 1) N j - 0) hx rfl d_Law_law_606 c_Law_80 ⟨by decide, by decide⟩ rfl rfl (Nat.le_of_ble_eq_true rfl) (by unfold kk; omega) (by unfold kn; omega) ct (fun r1 M1 hq => ?_)
  obtain ⟨v, fs, r', rfl, hm, ct2, hend⟩ := hQ _ _ hq
  refine V_aload_n d_Law_law_609 rfl (isr_ref _) ?_
  refine V_arg (i := i) (j := 1) d_Law_law_610 d_Law_law_611 d_Law_law_613 d_Law_law_614 d_Law_law_615 (by decide) (by omega) hL rfl rfl ?_
  refine V_arg (i := i) (j := 2) d_Law_law_616 d_Law_law_617 d_Law_law_619 d_Law_law_620 d_Law_law_621 (by decide) (by omega) hL rfl rfl ?_
  refine V_callV (As := [.int (xsV D (6 * i + 1)), .int (xsV D (6 * i + 2))]) (rest := [.int v]) (k' := kk (c + 1) N j - 0) (n' := kn (c + 1) N j - 0) hm rfl d_Law_law_622 c_Law_84 ⟨by decide, by decide⟩ rfl rfl (Nat.le_of_ble_eq_true rfl) (Nat.add_zero _).symm (Nat.add_zero _).symm ct2 (fun r2 M2 hq2 => ?_)
  obtain ⟨rfl, hl3⟩ := hend _ _ hq2
  refine V_icmp_eq 630 d_Law_law_625 (by decide) (fun _ => ?_) (fun z => absurd rfl z)
  exact V_mono (hC _ _ _ hl3) (by unfold kk; omega) (by unfold kn; omega)
theorem lg_cmp_self (x : Int64) : lg_cmp x x = 0 := by simp [lg_cmp]
set_option maxRecDepth 100000 in
set_option maxHeartbeats 4000000 in
theorem lc_ship (hno : ∀ e, l.admits e → e.platform.stackTraces = false) (h : LX ac o ad x0 ol j N M) (hi : 6 * i + 6 ≤ xsL D) (hL : xsL D ≤ 3072) (hC : ∀ j' N' M2, LX ac o ad x0 ol j' N' M2 → V l D (tyl ac) t_Law_law (kk c N' j') (kn c N' j') 630 (lwV D x0 o ol i) [] M2 Q) : V l D (tyl ac) t_Law_law (kk (c + 1) N j) (kn (c + 1) N j) 443 (lwV D x0 o ol i) [] M Q := by
  have hd := LX_bd h
  obtain ⟨K, n0, j', N', hK, hn0, hj', hN', hd9, Q1, ct, hQ⟩ := op_ship (l := l) (D := D) hno h (xsV D (6 * i + 1))
  have hf1 := fw_mono hd.1
  have hf3 := fw_mono hj'
  have hf9 := fw_mono hd9.1
  refine V_aload_n d_Law_law_443 rfl (isr_ref _) ?_
  refine V_arg (i := i) (j := 1) d_Law_law_444 d_Law_law_445 d_Law_law_447 d_Law_law_448 d_Law_law_449 (by decide) (by omega) hL rfl rfl ?_
  refine V_aload_n d_Law_law_450 rfl (isr_ref _) ?_
  have hkb : K ≤ kk (c + 1) N j := by unfold kk; omega
  have hnb : n0 ≤ kn (c + 1) N j := by unfold kn; omega
  refine V_callSW (As := [.ref x0, .int (xsV D (6 * i + 1)), .ref ol]) (rest := []) (k' := kk (c + 1) N j - K) (n' := kn (c + 1) N j - n0) d_Law_law_451 lw1_ship lw2 lw3_ship lw4_ship lw5_ship ⟨by decide, by decide⟩ rfl rfl (Nat.le_of_ble_eq_true rfl) (by omega) (by omega) ct (fun r1 M1 hq => ?_)
  obtain ⟨a, v, fs, r', rfl, hm, ct2, h0, ha, hl2⟩ := hQ _ _ hq
  have hd2 := LX_bd hl2
  have hf2 := fw_mono hd2.1
  refine V_istore (lv' := (5, .int a) :: lwV D x0 o ol i) d_Law_law_454 (by decide) rfl ?_
  refine V_aload_n d_Law_law_456 rfl (isr_ref _) ?_
  refine V_arg (i := i) (j := 1) d_Law_law_457 d_Law_law_458 d_Law_law_460 d_Law_law_461 d_Law_law_462 (by decide) (by omega) hL rfl rfl ?_
  refine V_callV (As := [.int (xsV D (6 * i + 1))]) (rest := []) (k' := kk (c + 1) N j - K) (n' := kn (c + 1) N j - n0) hm rfl d_Law_law_463 c_Law_64 ⟨by decide, by decide⟩ rfl rfl (Nat.le_of_ble_eq_true rfl) (Nat.add_zero _).symm (Nat.add_zero _).symm ct2 (fun r2 M2 hq2 => ?_)
  obtain ⟨rfl, rfl⟩ := hq2
  refine V_istore (lv' := (6, .int v) :: (5, .int a) :: lwV D x0 o ol i) d_Law_law_466 (by decide) rfl ?_
  refine V_aload_n d_Law_law_468 rfl (isr_ref _) ?_
  refine V_callV (As := []) (rest := []) (k' := kk (c + 1) N j - K) (n' := kn (c + 1) N j - n0) rM_o rfl d_Law_law_469 c_Law_65 ⟨by decide, by decide⟩ rfl rfl (Nat.le_of_ble_eq_true rfl) (Nat.add_zero _).symm (Nat.add_zero _).symm (Mod_thrown M1) (fun r3 M3 hq3 => ?_)
  obtain ⟨rfl, rfl⟩ := hq3
  refine V_iload d_Law_law_472 rfl ?_
  refine V_icmp_eq 479 d_Law_law_474 (by decide) (fun _ => ?_) (fun z => absurd h0 z)
  refine V_iload d_Law_law_479 rfl ?_
  have fin : V l D (tyl ac) t_Law_law (kk (c + 1) N j - K) (kn (c + 1) N j - n0) 496 ((6, .int v) :: (5, .int a) :: lwV D x0 o ol i) [] (rM ac o ad r' M1) Q := by
    refine V_goto 630 d_Law_law_496 (by decide) ?_
    refine V_lv [2, 3, 4, 5, 6] rfl ?_
    exact V_mono (hC _ _ _ hl2) (by unfold kk; omega) (by unfold kn; omega)
  refine V_if_ne 496 d_Law_law_481 (by decide) (fun _ => fin) (fun hz => ?_)
  obtain ⟨f, hf, hf0⟩ := ha (Classical.not_not.mp hz)
  refine V_aload_n d_Law_law_484 rfl (isr_ref _) ?_
  refine V_iconst (v := nI 0) d_Law_law_485 (by decide) ?_
  refine V_lald (N := 1) d_Law_law_486 hf (vp_in_nI (by decide) (by decide)) ?_
  refine V_iload d_Law_law_487 rfl ?_
  refine V_i2l d_Law_law_489 ?_
  refine V_lcmp d_Law_law_490 ?_
  refine V_if_eq 496 d_Law_law_491 (by decide) (fun _ => fin) (fun z => absurd ?_ z)
  rw [nI_clamp (by decide), hf0]
  exact lg_cmp_self _
set_option maxRecDepth 100000 in
set_option maxHeartbeats 4000000 in
theorem lc_finish (hno : ∀ e, l.admits e → e.platform.stackTraces = false) (h : LX ac o ad x0 ol j N M) (hi : 6 * i + 6 ≤ xsL D) (hL : xsL D ≤ 3072) (hC : ∀ j' N' M2, LX ac o ad x0 ol j' N' M2 → V l D (tyl ac) t_Law_law (kk c N' j') (kn c N' j') 630 (lwV D x0 o ol i) [] M2 Q) : V l D (tyl ac) t_Law_law (kk (c + 1) N j) (kn (c + 1) N j) 499 (lwV D x0 o ol i) [] M Q := by
  have hd := LX_bd h
  obtain ⟨K, n0, j', N', hK, hn0, hj', hN', hd9, Q1, ct, hQ⟩ := op_finish (l := l) (D := D) hno h
  have hf1 := fw_mono hd.1
  have hf3 := fw_mono hj'
  have hf9 := fw_mono hd9.1
  refine V_aload_n d_Law_law_499 rfl (isr_ref _) ?_
  refine V_aload_n d_Law_law_500 rfl (isr_ref _) ?_
  have hkb : K ≤ kk (c + 1) N j := by unfold kk; omega
  have hnb : n0 ≤ kn (c + 1) N j := by unfold kn; omega
  refine V_callSW (As := [.ref x0, .ref ol]) (rest := []) (k' := kk (c + 1) N j - K) (n' := kn (c + 1) N j - n0) d_Law_law_501 lw1_finish lw2 lw3_finish lw4_finish lw5_finish ⟨by decide, by decide⟩ rfl rfl (Nat.le_of_ble_eq_true rfl) (by omega) (by omega) ct (fun r1 M1 hq => ?_)
  obtain ⟨a, v, fs, r', rfl, hm, ct2, h0, ha, hl2⟩ := hQ _ _ hq
  have hd2 := LX_bd hl2
  have hf2 := fw_mono hd2.1
  refine V_istore (lv' := (5, .int a) :: lwV D x0 o ol i) d_Law_law_504 (by decide) rfl ?_
  refine V_aload_n d_Law_law_506 rfl (isr_ref _) ?_
  refine V_callV (As := []) (rest := []) (k' := kk (c + 1) N j - K) (n' := kn (c + 1) N j - n0) hm rfl d_Law_law_507 c_Law_71 ⟨by decide, by decide⟩ rfl rfl (Nat.le_of_ble_eq_true rfl) (Nat.add_zero _).symm (Nat.add_zero _).symm ct2 (fun r2 M2 hq2 => ?_)
  obtain ⟨rfl, rfl⟩ := hq2
  refine V_istore (lv' := (6, .int v) :: (5, .int a) :: lwV D x0 o ol i) d_Law_law_510 (by decide) rfl ?_
  refine V_aload_n d_Law_law_512 rfl (isr_ref _) ?_
  refine V_callV (As := []) (rest := []) (k' := kk (c + 1) N j - K) (n' := kn (c + 1) N j - n0) rM_o rfl d_Law_law_513 c_Law_65 ⟨by decide, by decide⟩ rfl rfl (Nat.le_of_ble_eq_true rfl) (Nat.add_zero _).symm (Nat.add_zero _).symm (Mod_thrown M1) (fun r3 M3 hq3 => ?_)
  obtain ⟨rfl, rfl⟩ := hq3
  refine V_iload d_Law_law_516 rfl ?_
  refine V_icmp_eq 523 d_Law_law_518 (by decide) (fun _ => ?_) (fun z => absurd h0 z)
  refine V_iload d_Law_law_523 rfl ?_
  have fin : V l D (tyl ac) t_Law_law (kk (c + 1) N j - K) (kn (c + 1) N j - n0) 540 ((6, .int v) :: (5, .int a) :: lwV D x0 o ol i) [] (rM ac o ad r' M1) Q := by
    refine V_goto 630 d_Law_law_540 (by decide) ?_
    refine V_lv [2, 3, 4, 5, 6] rfl ?_
    exact V_mono (hC _ _ _ hl2) (by unfold kk; omega) (by unfold kn; omega)
  refine V_if_ne 540 d_Law_law_525 (by decide) (fun _ => fin) (fun hz => ?_)
  obtain ⟨f, hf, hf0⟩ := ha (Classical.not_not.mp hz)
  refine V_aload_n d_Law_law_528 rfl (isr_ref _) ?_
  refine V_iconst (v := nI 0) d_Law_law_529 (by decide) ?_
  refine V_lald (N := 1) d_Law_law_530 hf (vp_in_nI (by decide) (by decide)) ?_
  refine V_iload d_Law_law_531 rfl ?_
  refine V_i2l d_Law_law_533 ?_
  refine V_lcmp d_Law_law_534 ?_
  refine V_if_eq 540 d_Law_law_535 (by decide) (fun _ => fin) (fun z => absurd ?_ z)
  rw [nI_clamp (by decide), hf0]
  exact lg_cmp_self _
theorem lt6 {L i : Nat} (hL : L ≤ 3072) (hi : 6 * i ≤ 3072) : nI L - 6 < nI (6 * i) ↔ L < 6 * i + 6 := by
  have h1 : ∀ n : Nat, n ≤ 3072 → (nI n).toInt = n := fun n hn => Int32.toInt_ofNat_of_lt (by omega)
  rw [Int32.lt_iff_toInt_lt, Int32.toInt_sub, h1 L hL, h1 _ hi, show (6 : Int32).toInt = 6 from rfl, Int.bmod_eq_of_le (by omega) (by omega)]
  omega
theorem and15 (x : Int32) : ∃ m : Nat, m ≤ 15 ∧ x &&& 15 = nI m := by
  refine ⟨(x &&& 15).toBitVec.toNat, ?_, ?_⟩
  · rw [Int32.toBitVec_and, BitVec.toNat_and]
    exact Nat.and_le_right
  · apply Int32.toBitVec_inj.mp
    show _ = BitVec.ofNat 32 _
    rw [BitVec.ofNat_toNat, BitVec.setWidth_eq]
set_option maxRecDepth 100000 in
set_option maxHeartbeats 4000000 in
theorem lw_loop (hno : ∀ e, l.admits e → e.platform.stackTraces = false) (hL : xsL D ≤ 3072) (hQ : ∀ M2, Q (some (.int 1)) M2) : ∀ (c i j N : Nat) (M : MP), 6 * i ≤ 3072 → xsL D < 6 * i + 6 * (c + 1) → LX ac o ad x0 ol j N M → V l D (tyl ac) t_Law_law (kk c N j) (kn c N j) 23 (lwV D x0 o ol i) [] M Q := by
  intro c
  induction c with
  | zero =>
    intro i j N M hi hc h
    refine V_iload d_Law_law_23 rfl ?_
    refine V_aload_n d_Law_law_25 rfl (isr_ref _) ?_
    refine V_xlen d_Law_law_26 ?_
    refine V_bipush (v := 6) d_Law_law_27 (by decide) ?_
    refine V_isub d_Law_law_29 ?_
    refine V_icmp_gt 636 d_Law_law_30 (by decide) (fun _ => ?_) (fun z => absurd ((lt6 hL hi).mpr (by omega)) z)
    refine V_iconst (v := 1) d_Law_law_636 (by decide) ?_
    exact V_zreturn d_Law_law_637 rfl nz1 (hQ M)
  | succ c ih =>
    intro i j N M hi hc h
    have hC : 6 * i + 6 ≤ xsL D → ∀ j' N' M2, LX ac o ad x0 ol j' N' M2 → V l D (tyl ac) t_Law_law (kk c N' j') (kn c N' j') 630 (lwV D x0 o ol i) [] M2 Q := fun hi6 j' N' M2 h2 => by
      refine V_iinc (v := nI (6 * (i + 1))) (lv' := [(4, .int (nI (6 * (i + 1)))), (0, .ref (D.2 100 0)), (1, .ref x0), (2, .ref o), (3, .ref ol)]) 4 d_Law_law_630 rfl (nI_add (6 * i) 6) (by decide) rfl ?_
      refine V_goto 23 d_Law_law_633 (by decide) ?_
      refine V_lv [1, 2, 3, 4, 0] rfl ?_
      exact ih (i + 1) j' N' M2 (by omega) (by omega) h2
    refine V_iload d_Law_law_23 rfl ?_
    refine V_aload_n d_Law_law_25 rfl (isr_ref _) ?_
    refine V_xlen d_Law_law_26 ?_
    refine V_bipush (v := 6) d_Law_law_27 (by decide) ?_
    refine V_isub d_Law_law_29 ?_
    refine V_icmp_gt 636 d_Law_law_30 (by decide) (fun _ => ?_) (fun z => ?_)
    · refine V_iconst (v := 1) d_Law_law_636 (by decide) ?_
      exact V_zreturn d_Law_law_637 rfl nz1 (hQ M)
    have hi6 : 6 * i + 6 ≤ xsL D := Classical.byContradiction fun w => z ((lt6 hL hi).mpr (by omega))
    have hC := hC hi6
    refine V_aload_n d_Law_law_33 rfl (isr_ref _) ?_
    refine V_iload d_Law_law_34 rfl ?_
    refine V_xld d_Law_law_36 (vp_in_nI (by omega) (by omega)) ?_
    refine V_bipush (v := 15) d_Law_law_37 (by decide) ?_
    refine V_iand d_Law_law_39 ?_
    obtain ⟨m, hm, e⟩ := and15 (xsV D (nI (6 * i)).toNatClampNeg)
    refine V_eqi e ?_
    have hti : (nI m).toInt = m := Int32.toInt_ofNat_of_lt (by omega)
    rcases (show m = 0 ∨ m = 1 ∨ m = 2 ∨ m = 3 ∨ m = 4 ∨ m = 5 ∨ m = 6 ∨ m = 7 ∨ m = 8 ∨ m = 9 ∨ m = 10 ∨ m = 11 ∨ 12 ≤ m by omega) with rfl | rfl | rfl | rfl | rfl | rfl | rfl | rfl | rfl | rfl | rfl | rfl | hm12
    · exact V_tabIn (off := 64) 104 d_Law_law_40 (by decide) (by decide) (by decide) (by decide) (lc_font h hi6 hL hC)
    · exact V_tabIn (off := 113) 153 d_Law_law_40 (by decide) (by decide) (by decide) (by decide) (lc_open h hi6 hL hC)
    · exact V_tabIn (off := 154) 194 d_Law_law_40 (by decide) (by decide) (by decide) (by decide) (lc_chr h hi6 hL hC)
    · exact V_tabIn (off := 227) 267 d_Law_law_40 (by decide) (by decide) (by decide) (by decide) (lc_rul h hi6 hL hC)
    · exact V_tabIn (off := 288) 328 d_Law_law_40 (by decide) (by decide) (by decide) (by decide) (lc_spc h hi6 hL hC)
    · exact V_tabIn (off := 313) 353 d_Law_law_40 (by decide) (by decide) (by decide) (by decide) (lc_clo h hi6 hL hC)
    · exact V_tabIn (off := 338) 378 d_Law_law_40 (by decide) (by decide) (by decide) (by decide) (lc_put h hi6 hL hC)
    · exact V_tabIn (off := 403) 443 d_Law_law_40 (by decide) (by decide) (by decide) (by decide) (lc_ship hno h hi6 hL hC)
    · exact V_tabIn (off := 459) 499 d_Law_law_40 (by decide) (by decide) (by decide) (by decide) (lc_finish hno h hi6 hL hC)
    · exact V_tabIn (off := 503) 543 d_Law_law_40 (by decide) (by decide) (by decide) (by decide) (lc_byt h hi6 hL hC)
    · exact V_tabIn (off := 528) 568 d_Law_law_40 (by decide) (by decide) (by decide) (by decide) (lc_cnt h hi6 hL hC)
    · exact V_tabIn (off := 553) 593 d_Law_law_40 (by decide) (by decide) (by decide) (by decide) (lc_siz h hi6 hL hC)
    · refine V_tabOut 630 d_Law_law_40 (Or.inr (by rw [hti]; omega)) (by decide) ?_
      have hd := LX_bd h
      exact V_mono (hC _ _ _ h) (by unfold kk; omega) (by unfold kn; omega)
end lw
