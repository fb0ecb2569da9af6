/-! the law's calls: items, readers -/
theorem aok_0 {r : RS} (h : gF r 8 = 0) (b : Int32) : ¬ aok r b := fun z => z.2.1 h
theorem addv_n {r : RS} {b : Int32} (h : ¬ aok r b) : addv r b = 0 := if_neg h
theorem addv_y {r : RS} {b : Int32} (h : aok r b) : addv r b = 1 := if_pos h
theorem adds_n {r : RS} {b : Int32} (h : ¬ aok r b) (e : Nat) (k w h' d s c : Int32) : adds r e b k w h' d s c = sF r 0 0 := if_neg h
theorem adds_y {r : RS} {b : Int32} (h : aok r b) (e : Nat) (k w h' d s c : Int32) : adds r e b k w h' d s c = put1 (sF r 0 0) e k w h' d s c := if_pos h
section ops2
variable {l : Launch} {D : va_G} {ac : Nat → ClassId} {o : Nat} {ad : Nat → Nat} {x0 ol j N : Nat} {M : MP}
theorem op_chr (h : LX ac o ad x0 ol j N M) (f c w h1 d : Int32) : OPR l D ac ad t_PF_character t_Mod_character 1 10 x0 o [.int f, .int c, .int w, .int h1, .int d] M (LX ac o ad x0 ol j N) := by
  obtain ⟨adr, s, r, Z, g, ops, f9, rfl, hA, hW, hD, hS, ho, hj, hN⟩ := h
  have hR := hS.2.1
  have h31 : (cat ops).length < 3100 := by have := hR.2.1.1; omega
  cases ops with
  | nil =>
    obtain ⟨e1, e2⟩ := S_emp hS
    have hm := Mod_character (l := l) (D := D) (ac := ac) (r := r) hA hR.2.2.1 hR.1 hR.2.2.2.1 h31 f c w h1 d
    rw [addv_n (aok_0 e2 _), adds_n (aok_0 e2 _)] at hm
    refine ⟨_, PF_character0 hW e1 f c w h1 d, fun r1 M1 hq => ?_⟩
    obtain ⟨rfl, hW1⟩ := hq
    obtain ⟨⟨fs, k1⟩, k2, k3⟩ := ref_do hA hW1 hm
    exact ⟨0, fs, _, rfl, k1, k2, fun r2 M2 hq2 => ⟨hq2.1, by rw [hq2.2]; exact ⟨adr, _, _, _, g, _, f9, rfl, hA, k3, hD, SIM_0 hS 0, ho, hj, hN⟩⟩⟩
  | cons p o' =>
    obtain ⟨v, ts⟩ := p
    have hm := Mod_character (l := l) (D := D) (ac := ac) (r := r) (L := o'.length + 1) hA hR.2.2.1 hR.1 hR.2.2.2.1 h31 f c w h1 d
    obtain ⟨a, oo, as, Ic, bc, Zf, fp', i1, i2, i3, i4, i5, i6, i7, i8, i9, i10⟩ := SIM_in hS
    have hiff := S_chr hS f c w h1 d
    refine ⟨_, PF_character1 hW i1 (rM_get hD i2) (fun c hc => by obtain ⟨nc, hc⟩ := i4 c hc; exact ⟨nc, rM_get hD hc⟩) f c w h1 d, fun r1 M1 hq => ?_⟩
    by_cases hc : chc s v f c w h1 d
    · have hq := (if_pos hc).mp hq
      obtain ⟨q, hq0, rfl, hW1⟩ := hq
      obtain ⟨nq, hq1⟩ := rM_none hA hq0
      rw [adZ_rM hD i2 nq i4] at hW1
      rw [addv_y (hiff.mp hc), adds_y (hiff.mp hc)] at hm
      obtain ⟨⟨fs, k1⟩, k2, k3⟩ := ref_do hA hW1 hm
      obtain ⟨y1, y2, y3⟩ := I_chr hc
      have s2 := S_add hS i2 i3 i4 i5 i6 i7 i8 i9 i10 i1 hq1 y1 y2 y3 hc.2.1
      exact ⟨1, fs, _, rfl, k1, k2, fun r2 M2 hq2 => ⟨hq2.1, by rw [hq2.2]; exact ⟨adr, _, _, _, g, _, f9, rfl, hA, k3, adZ_DJ hD i2 nq i4, s2, adZ_get i2 hq1 i4 ho, hj, hN⟩⟩⟩
    · have hq := (if_neg hc).mp hq
      obtain ⟨rfl, hW1⟩ := hq
      rw [addv_n (fun z => hc (hiff.mpr z)), adds_n (fun z => hc (hiff.mpr z))] at hm
      obtain ⟨⟨fs, k1⟩, k2, k3⟩ := ref_do hA hW1 hm
      exact ⟨0, fs, _, rfl, k1, k2, fun r2 M2 hq2 => ⟨hq2.1, by rw [hq2.2]; exact ⟨adr, _, _, _, g, _, f9, rfl, hA, k3, hD, SIM_0 hS 0, ho, hj, hN⟩⟩⟩
theorem op_rul (h : LX ac o ad x0 ol j N M) (w h1 d x : Int32) : OPR l D ac ad t_PF_rule t_Mod_rule 1 10 x0 o [.int w, .int h1, .int d, .int x] M (LX ac o ad x0 ol j N) := by
  obtain ⟨adr, s, r, Z, g, ops, f9, rfl, hA, hW, hD, hS, ho, hj, hN⟩ := h
  have hR := hS.2.1
  have h31 : (cat ops).length < 3100 := by have := hR.2.1.1; omega
  cases ops with
  | nil =>
    obtain ⟨e1, e2⟩ := S_emp hS
    have hm := Mod_rule (l := l) (D := D) (ac := ac) (r := r) hA hR.2.2.1 hR.1 hR.2.2.2.1 h31 w h1 d x
    rw [addv_n (aok_0 e2 _), adds_n (aok_0 e2 _)] at hm
    refine ⟨_, PF_rule0 hW e1 w h1 d x, fun r1 M1 hq => ?_⟩
    obtain ⟨rfl, hW1⟩ := hq
    obtain ⟨⟨fs, k1⟩, k2, k3⟩ := ref_do hA hW1 hm
    exact ⟨0, fs, _, rfl, k1, k2, fun r2 M2 hq2 => ⟨hq2.1, by rw [hq2.2]; exact ⟨adr, _, _, _, g, _, f9, rfl, hA, k3, hD, SIM_0 hS 0, ho, hj, hN⟩⟩⟩
  | cons p o' =>
    obtain ⟨v, ts⟩ := p
    have hm := Mod_rule (l := l) (D := D) (ac := ac) (r := r) (L := o'.length + 1) hA hR.2.2.1 hR.1 hR.2.2.2.1 h31 w h1 d x
    obtain ⟨a, oo, as, Ic, bc, Zf, fp', i1, i2, i3, i4, i5, i6, i7, i8, i9, i10⟩ := SIM_in hS
    have hiff := S_rul hS w h1 d x
    refine ⟨_, PF_rule1 hW i1 (rM_get hD i2) (fun c hc => by obtain ⟨nc, hc⟩ := i4 c hc; exact ⟨nc, rM_get hD hc⟩) w h1 d x, fun r1 M1 hq => ?_⟩
    by_cases hc : rlc s v w h1 d x
    · have hq := (if_pos hc).mp hq
      obtain ⟨q, hq0, rfl, hW1⟩ := hq
      obtain ⟨nq, hq1⟩ := rM_none hA hq0
      rw [adZ_rM hD i2 nq i4] at hW1
      rw [addv_y (hiff.mp hc), adds_y (hiff.mp hc)] at hm
      obtain ⟨⟨fs, k1⟩, k2, k3⟩ := ref_do hA hW1 hm
      obtain ⟨y1, y2, y3⟩ := I_rul hc
      have s2 := S_add hS i2 i3 i4 i5 i6 i7 i8 i9 i10 i1 hq1 y1 y2 y3 hc.1
      exact ⟨1, fs, _, rfl, k1, k2, fun r2 M2 hq2 => ⟨hq2.1, by rw [hq2.2]; exact ⟨adr, _, _, _, g, _, f9, rfl, hA, k3, adZ_DJ hD i2 nq i4, s2, adZ_get i2 hq1 i4 ho, hj, hN⟩⟩⟩
    · have hq := (if_neg hc).mp hq
      obtain ⟨rfl, hW1⟩ := hq
      rw [addv_n (fun z => hc (hiff.mpr z)), adds_n (fun z => hc (hiff.mpr z))] at hm
      obtain ⟨⟨fs, k1⟩, k2, k3⟩ := ref_do hA hW1 hm
      exact ⟨0, fs, _, rfl, k1, k2, fun r2 M2 hq2 => ⟨hq2.1, by rw [hq2.2]; exact ⟨adr, _, _, _, g, _, f9, rfl, hA, k3, hD, SIM_0 hS 0, ho, hj, hN⟩⟩⟩
theorem op_spc (h : LX ac o ad x0 ol j N M) (x : Int32) : OPR l D ac ad t_PF_space t_Mod_space 1 10 x0 o [.int x] M (LX ac o ad x0 ol j N) := by
  obtain ⟨adr, s, r, Z, g, ops, f9, rfl, hA, hW, hD, hS, ho, hj, hN⟩ := h
  have hR := hS.2.1
  have h31 : (cat ops).length < 3100 := by have := hR.2.1.1; omega
  cases ops with
  | nil =>
    obtain ⟨e1, e2⟩ := S_emp hS
    have hm := Mod_space (l := l) (D := D) (ac := ac) (r := r) hA hR.2.2.2.1 h31 x
    rw [addv_n (aok_0 e2 _), adds_n (aok_0 e2 _)] at hm
    refine ⟨_, PF_space0 hW e1 x, fun r1 M1 hq => ?_⟩
    obtain ⟨rfl, hW1⟩ := hq
    obtain ⟨⟨fs, k1⟩, k2, k3⟩ := ref_do hA hW1 hm
    exact ⟨0, fs, _, rfl, k1, k2, fun r2 M2 hq2 => ⟨hq2.1, by rw [hq2.2]; exact ⟨adr, _, _, _, g, _, f9, rfl, hA, k3, hD, SIM_0 hS 0, ho, hj, hN⟩⟩⟩
  | cons p o' =>
    obtain ⟨v, ts⟩ := p
    have hm := Mod_space (l := l) (D := D) (ac := ac) (r := r) hA hR.2.2.2.1 h31 x
    obtain ⟨a, oo, as, Ic, bc, Zf, fp', i1, i2, i3, i4, i5, i6, i7, i8, i9, i10⟩ := SIM_in hS
    have hiff := S_spc hS x
    refine ⟨_, PF_space1 hW i1 (rM_get hD i2) (fun c hc => by obtain ⟨nc, hc⟩ := i4 c hc; exact ⟨nc, rM_get hD hc⟩) x, fun r1 M1 hq => ?_⟩
    by_cases hc : spc s x
    · have hq := (if_pos hc).mp hq
      obtain ⟨q, hq0, rfl, hW1⟩ := hq
      obtain ⟨nq, hq1⟩ := rM_none hA hq0
      rw [adZ_rM hD i2 nq i4] at hW1
      rw [addv_y (hiff.mp hc), adds_y (hiff.mp hc)] at hm
      obtain ⟨⟨fs, k1⟩, k2, k3⟩ := ref_do hA hW1 hm
      obtain ⟨y1, y2, y3⟩ := I_spc (v := v) hc
      have s2 := S_add hS i2 i3 i4 i5 i6 i7 i8 i9 i10 i1 hq1 y1 y2 y3 hc.1
      exact ⟨1, fs, _, rfl, k1, k2, fun r2 M2 hq2 => ⟨hq2.1, by rw [hq2.2]; exact ⟨adr, _, _, _, g, _, f9, rfl, hA, k3, adZ_DJ hD i2 nq i4, s2, adZ_get i2 hq1 i4 ho, hj, hN⟩⟩⟩
    · have hq := (if_neg hc).mp hq
      obtain ⟨rfl, hW1⟩ := hq
      rw [addv_n (fun z => hc (hiff.mpr z)), adds_n (fun z => hc (hiff.mpr z))] at hm
      obtain ⟨⟨fs, k1⟩, k2, k3⟩ := ref_do hA hW1 hm
      exact ⟨0, fs, _, rfl, k1, k2, fun r2 M2 hq2 => ⟨hq2.1, by rw [hq2.2]; exact ⟨adr, _, _, _, g, _, f9, rfl, hA, k3, hD, SIM_0 hS 0, ho, hj, hN⟩⟩⟩
theorem op_byt (h : LX ac o ad x0 ol j N M) (x : Int32) : OPR l D ac ad t_PF_byteAt t_Mod_byteAt 0 0 x0 o [.int x] M (LX ac o ad x0 ol j N) := by
  obtain ⟨adr, s, r, Z, g, ops, f9, h0, hA, hW, hD, hS, ho, hj, hN⟩ := h
  have hm := Mod_byteAt (l := l) (D := D) (ac := ac) (r := r) hA (n := (xF s).1) x hS.2.2.2.2.2.2.1.1 (by have := hS.2.2.2.2.2.2.2.2.1; omega)
  rw [← S_byt hS x] at hm
  exact OP_rd h0 hA hW hD ho hj hN (PF_byteAt hW x) hm (SIM_0 hS 0)
theorem op_cnt (h : LX ac o ad x0 ol j N M) (x : Int32) : OPR l D ac ad t_PF_count t_Mod_count 0 0 x0 o [.int x] M (LX ac o ad x0 ol j N) := by
  obtain ⟨adr, s, r, Z, g, ops, f9, h0, hA, hW, hD, hS, ho, hj, hN⟩ := h
  have hm := Mod_count (l := l) (D := D) (ac := ac) (r := r) hA x
  rw [← S_cnt hS x] at hm
  exact OP_rd h0 hA hW hD ho hj hN (PF_count hW (fun q hq => by
    obtain ⟨fs, h1, h2⟩ := S_lev hS q hq
    exact ⟨fs, rM_get hD h1, h2⟩) x) hm (SIM_0 hS 0)
theorem op_siz (h : LX ac o ad x0 ol j N M) (x y : Int32) : OPR l D ac ad t_PF_size t_Mod_size 0 0 x0 o [.int x, .int y] M (LX ac o ad x0 ol j N) := by
  obtain ⟨adr, s, r, Z, g, ops, f9, h0, hA, hW, hD, hS, ho, hj, hN⟩ := h
  rcases S_boV hS x with ⟨b1, b2⟩ | ⟨k, yy, c, q, Zf, hk, rfl, hg, b1, b2, b3, b4, b5, b6⟩
  · have hm := Mod_size (l := l) (D := D) (ac := ac) (r := r) hA (k := 0) (p := 0) x y (fun z => absurd b2 z.1)
    have e : siz r 0 x y = 0 := if_neg (fun z => z.1 b2)
    rw [e] at hm
    exact OP_rd h0 hA hW hD ho hj hN (PF_size0 hW b1 y) hm (SIM_0 hS 0)
  · obtain ⟨hNK, hit⟩ := b6
    rcases hit with z | ⟨z3, q', fo, hq', hZb, hP⟩
    · exact absurd (by rw [b4]; rfl) z.1
    have hq' : q = q' := Option.some.inj hq'
    subst hq'
    obtain ⟨r1, r2, r3, r4⟩ := reg_R hS.2.1 hk hg
    have hp := S_pty hS hk
    have hm := Mod_size (l := l) (D := D) (ac := ac) (r := r) hA (k := k) (p := 3100 + (shf8 g k).length) (nI k) y (fun _ => ⟨rfl, hk, hp.2.2.1, by omega⟩)
    have hms := bx_meas r1 hNK z3
    have e : siz r (3100 + (shf8 g k).length) (nI k) y = psz (yy.1 1) (yy.1 2) (yy.1 3) y := by
      unfold siz psz
      rw [hms.1, hms.2.1, hms.2.2.1]
      have hf : ¬ isf r (nI k) = 0 := by rw [b3]; decide
      by_cases y0 : y = 0
      · rw [if_pos ⟨hf, by rw [y0]; decide, by rw [y0]; decide⟩, if_pos y0, if_pos y0]
      · by_cases y1 : y = 1
        · rw [if_pos ⟨hf, by rw [y1]; decide, by rw [y1]; decide⟩, if_neg y0, if_pos y1, if_neg y0, if_pos y1]
        · by_cases y2 : y = 2
          · rw [if_pos ⟨hf, by rw [y2]; decide, by rw [y2]; decide⟩, if_neg y0, if_neg y1, if_neg y0, if_neg y1, if_pos y2]
          · have hns : ¬ sok r (nI k) y := fun z => by
              have z1 := z.2.1
              have z2 := z.2.2
              rw [Int32.lt_iff_toInt_lt] at z1
              rw [Int32.le_iff_toInt_le] at z2
              have e0 : ¬ y.toInt = 0 := fun w => y0 (Int32.toInt_inj.mp w)
              have e1 : ¬ y.toInt = 1 := fun w => y1 (Int32.toInt_inj.mp w)
              have e2 : ¬ y.toInt = 2 := fun w => y2 (Int32.toInt_inj.mp w)
              have f0 : (0 : Int32).toInt = 0 := rfl
              have f2 : (2 : Int32).toInt = 2 := rfl
              omega
            rw [if_neg hns, if_neg y0, if_neg y1, if_neg y2]
    rw [e] at hm
    exact OP_rd h0 hA hW hD ho hj hN (PF_size1 hW b1 (rM_get hD (b5 _ _ hZb)) y) hm (SIM_0 hS 0)
end ops2
