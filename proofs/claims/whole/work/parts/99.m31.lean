/-! ship, on both sides -/
theorem fwr_lo : ∀ (L : List (Int32 × Nat)) {F : FI}, FOK F → (∀ p ∈ L, p.2 ≤ 4) → F.1 + wsum L ≤ 500000 → FOK (fwr F L) ∧ ∀ k, k < F.1 → (fwr F L).2.2 k = F.2.2 k := by
  intro L
  induction L with
  | nil => intro F h _ _; exact ⟨h, fun _ _ => rfl⟩
  | cons p L ih =>
    intro F h h4 hn
    have hn : F.1 + (p.2 + wsum L) ≤ 500000 := hn
    have h1 := ih (fadd_ok h p.1 (by omega) (h4 p List.mem_cons_self)) (fun q hq => h4 q (List.mem_cons_of_mem _ hq)) (by show F.1 + p.2 + wsum L ≤ 500000; omega)
    refine ⟨h1.1, fun k hk => (h1.2 k (Nat.lt_of_lt_of_le hk (Nat.le_add_right _ _))).trans ?_⟩
    show bwr p.2 (bfun (256 * 2 ^ F.2.1) F.1 p.2 F.2.2) F.1 p.1 k = _
    rw [bwr_lo p.2 hk, bfun_lo h.2.1 hk]
theorem l64_add {a b : Int32} (ha : sz4 a) (hb : sz4 b) : (a + b).toInt64 = a.toInt64 + b.toInt64 := by
  have key : ∀ x : Int32, sz4 x → -1073741823 ≤ x.toInt ∧ x.toInt ≤ 1073741823 := fun x hx => by
    have hx : ¬ isz x = 0 := hx
    unfold isz at hx
    rw [i01, Int32.le_iff_toInt_le, Int32.le_iff_toInt_le] at hx
    exact hx
  have h1 := key a ha
  have h2 := key b hb
  apply Int64.toInt_inj.mp
  rw [Int32.toInt_toInt64, Int32.toInt_add, Int64.toInt_add, Int32.toInt_toInt64, Int32.toInt_toInt64]
  rw [Int.bmod_eq_of_le (by omega) (by omega), Int.bmod_eq_of_le (by omega) (by omega)]
theorem imx_64 (a b : Int32) {x y : Int64} (hx : a.toInt64 = x) (hy : b.toInt64 = y) : (imx a b).toInt64 = if y ≤ x then x else y := by
  unfold imx
  have h := (c32_gt (x := b) (a := a) rfl rfl)
  rw [hx, hy] at h
  by_cases hab : a < b
  · rw [if_pos hab, if_neg (Int64.not_le.mpr (h.mp hab)), hy]
  · rw [if_neg hab, if_pos (Int64.not_lt.mp (fun z => hab (h.mpr z))), hx]
theorem imx_e (a b : Int32) : imx a b = if b ≤ a then a else b := by
  unfold imx
  by_cases h : a < b
  · rw [if_pos h, if_neg (Int32.not_le.mpr h)]
  · rw [if_neg h, if_pos (Int32.not_lt.mp h)]
theorem imx_0 {a b : Int32} (h : 0 ≤ a) : 0 ≤ imx a b := by
  rw [imx_e]
  split
  · exact h
  · next hh => exact Int32.le_trans h (Int32.le_of_lt (Int32.not_le.mp hh))
theorem wpG_1 (s : PS) (x w h d : Int32) : (wpG s x w h d).1 6 = s.1 6 + 1 ∧ (wpG s x w h d).1 7 = x ∧ (wpG s x w h d).1 8 = imx (s.1 8) (h + d) ∧ (wpG s x w h d).1 9 = imx (s.1 9) w ∧ (wpG s x w h d).1 10 = imx (s.1 10) (s.1 26) ∧ (∀ j, j ≠ 6 → j ≠ 7 → j ≠ 8 → j ≠ 9 → j ≠ 10 → (wpG s x w h d).1 j = s.1 j) ∧ (wpG s x w h d).2 = s.2 := by
  unfold wpG
  refine ⟨?_, ?_, ?_, ?_, uI_s _ _ _, fun j a b c d e => ?_, rfl⟩
  · rw [uI_n _ _ (by decide), uI_n _ _ (by decide), uI_n _ _ (by decide), uI_n _ _ (by decide), uI_s]
  · rw [uI_n _ _ (by decide), uI_n _ _ (by decide), uI_n _ _ (by decide), uI_s]
  · rw [uI_n _ _ (by decide), uI_n _ _ (by decide), uI_s]
  · rw [uI_n _ _ (by decide), uI_s]
  · rw [uI_n _ _ e, uI_n _ _ d, uI_n _ _ c, uI_n _ _ b, uI_n _ _ a]
theorem drop_len (g : Nat → List Rec) {k : Nat} (hk : k < 8) : (shf8 (va_up g k []) 8).length + (g k).length = (shf8 g 8).length := by
  rw [shf8_up g hk [], shf8_8 g hk, List.length_append, List.length_append, List.length_append, List.length_append]
  show _ + 0 + _ + _ = _
  omega
/-- the register is emptied -/
theorem CLS_drop {s s' : PS} {Z : MP} {g : Nat → List Rec} {ops : List (Int32 × List TRE)} (h : CLS s Z g ops) {k : Nat} (hk : k < 8) (hs : s'.2.1 = va_up s.2.1 k none) : CLS s' Z (va_up g k []) ops := by
  obtain ⟨Zf, fp, h1, h2, h3, h4, h5⟩ := h
  refine ⟨Zf, fp, h1, ?_, h3, h4, fun j hj => ?_⟩
  · rw [hs, va_up_ne _ _ (by omega)]; exact h2
  · rw [hs]
    by_cases hjk : j = k
    · subst hjk
      rw [va_up_self, va_up_self]
      exact Or.inl ⟨rfl, rfl⟩
    · rw [va_up_ne _ _ hjk, va_up_ne _ _ hjk]
      exact h5 j hj
theorem SIM_drop {s s' : PS} {Z : MP} {r R : RS} {g : Nat → List Rec} {ops : List (Int32 × List TRE)} (h : SIM s Z r g ops) {k : Nat} (hk : k < 8) (hs : s'.2.1 = va_up s.2.1 k none) (h5 : s'.1 5 = s.1 5 - nI (g k).length) (hF8 : gF R 8 = gF r 8) (hF11 : gF R 11 = gF r 11) (hB : ∀ j, (1 ≤ j ∧ j ≤ 12) → gB R j = gB r j) (hR : RST s' R) : SIM s' Z (emp R (3100 + (shf8 g k).length) (g k).length (3100 + (shf8 g 8).length) k) (va_up g k []) ops := by
  obtain ⟨a1, a2, a3, a4, -⟩ := h
  have hd := drop_len g hk
  refine ⟨CLS_drop a1 hk hs, RR_emp (RR_cong a2 hF8 hF11 hB) hk, ?_, ?_, emp_RST hR _ _ _ _⟩
  · unfold toI at a3 ⊢; omega
  · rw [h5, a4, nI_sub (by unfold toI; omega)]
    congr 1
    unfold toI
    omega
theorem S_ship {s : PS} {Z : MP} {r : RS} {g : Nat → List Rec} {ops : List (Int32 × List TRE)} (h : SIM s Z r g ops) (hF : FOK (xF s)) (he : s.1 11 = 0) (hn : (xF s).1 < 200000) {k : Nat} (hk : k < 8) {y : Rec} {c : List Rec} {q : Nat} {Zf : MP} (hg : g k = y :: c) (hZ : ∀ a e, Zf a = some e → Z a = some e) (hi : itm (PX Zf) Zf 0 (y, c) (some q)) (h3 : y.1 0 = 3) :
    shk (shA r) (xF s).1 (3100 + (shf8 g k).length) (g k).length (3100 + (shf8 g 8).length) k (gF r 24) ∧ ∃ fo sE, Z q = some (.inr (1, bxv y.2.1 (y.1 1) (y.1 2) (y.1 3) (va_rf fo) (nI (g k).length) (nI (y.2.2.2 + 1)))) ∧ isz1 y.2.1 ∧ pRun Z (shS s k (nI (g k).length)) y.2.1 (y.1 1) (y.1 2) (y.1 3) fo sE ∧ (fadd (xF sE) 140 1).1 ≤ 299000 ∧ FOK (fadd (xF sE) 140 1) ∧ (xN s ≤ xN sE ∧ xN sE ≤ 3100) ∧
      ((sE.1 27 = 0 ∧ gF (shE (shA r) (xF s).1 (3100 + (shf8 g k).length) (g k).length (gF r 24)) 0 = 0 ∧ gF (shE (shA r) (xF s).1 (3100 + (shf8 g k).length) (g k).length (gF r 24)) 18 = nI ((xF sE).1 + 1) ∧ SIM (wpG (uF sE (fadd (xF sE) 140 1)) (nI (fwr (xF s) (bgL (xF s).1)).1) (y.1 1) (y.1 2) (y.1 3)) Z (emp (shE (shA r) (xF s).1 (3100 + (shf8 g k).length) (g k).length (gF r 24)) (3100 + (shf8 g k).length) (g k).length (3100 + (shf8 g 8).length) k) (va_up g k []) ops) ∨
       (¬ sE.1 27 = 0 ∧ gF (shE (shA r) (xF s).1 (3100 + (shf8 g k).length) (g k).length (gF r 24)) 0 = 2 ∧ SIM (wpB sE (xF s).1 (s.1 30)) Z (emp (shE (shA r) (xF s).1 (3100 + (shf8 g k).length) (g k).length (gF r 24)) (3100 + (shf8 g k).length) (g k).length (3100 + (shf8 g 8).length) k) (va_up g k []) ops)) := by
  obtain ⟨hN, hit⟩ := hi
  rcases hit with z | ⟨-, b, fo, hb, hZb, hP⟩
  · exact absurd h3 z.1
  have hb : q = b := Option.some.inj hb
  subst hb
  have hP : PX Zf fo y.2.1 c y.2.2.2 := hP
  have hlg : (g k).length = c.length + 1 := by rw [hg]; rfl
  have hsp : y.2.2.1 = c.length + 1 := hN.1
  obtain ⟨hz1, hd99⟩ : isz1 y.2.1 ∧ y.2.2.2 ≤ 99 := by
    rcases hN.2.1 with z | z
    · exact ⟨z.2.1, z.2.2.2⟩
    · exact absurd h3 z.1
  have hW : WFd y.2.1 c y.2.2.2 := by
    obtain ⟨n, hC⟩ := hP
    exact ⟨n, _, CH_WF n hC, Nat.le_refl _⟩
  have hsim := h
  obtain ⟨-, hRR, ht, h5, hS⟩ := h
  have hreg := reg_R hRR hk hg
  obtain ⟨k1, ⟨k2, k3⟩, k4⟩ := r_ship hS hRR hF hk hg hN h3 hW hd99 hn
  have hsz := hN.2.2.2.2.1
  rw [hlg]
  -- the class
  have hFs : xF (shS s k (nI (c.length + 1))) = F1s s := rfl
  have hAs : (shS s k (nI (c.length + 1))).2.2.1 = s.2.2.1 := rfl
  have h1s : ∀ j, j ≠ 5 → (shS s k (nI (c.length + 1))).1 j = s.1 j := fun j hj => va_up_ne _ _ hj
  have h5s : (shS s k (nI (c.length + 1))).1 5 = s.1 5 - nI (c.length + 1) := va_up_self s.1 5 _
  have hrs : (shS s k (nI (c.length + 1))).2.1 = va_up s.2.1 k none := rfl
  have hNs : xN (shS s k (nI (c.length + 1))) = xN s := rfl
  have hbg := bg_b (xF s).1
  have hhd := hd_b (s.1 6 + 1) (s.1 7)
  have hwl : wsum (bgL (xF s).1 ++ hdL s) ≤ 60 ∧ 45 ≤ wsum (bgL (xF s).1 ++ hdL s) := by rw [wsum_app, show wsum (hdL s) = 45 from hhd.1]; omega
  have hlo := fwr_lo (bgL (xF s).1 ++ hdL s) hF (fun p hp => (List.mem_append.mp hp).elim (hbg.2 p) (hhd.2 p)) (by omega)
  have hF1l : (F1s s).1 = (xF s).1 + wsum (bgL (xF s).1 ++ hdL s) := fwr_sum _ _
  have hNN := hS.2.2.2.2.2
  obtain ⟨sE, e1, e2⟩ := c_page hZ (shS s k (nI (c.length + 1))) (by rw [hNs]; exact hNN.1) (w := y.1 1) (d := y.1 3) hP hsz.2.1 (by omega)
  have e30 : (shS s k (nI (c.length + 1))).1 30 = s.1 30 := h1s 30 (by decide)
  rw [e30, hAs] at e2
  generalize hs0 : shS s k (nI (c.length + 1)) = s0 at hFs hAs h1s h5s hrs hNs e1 e2
  refine ⟨k1, fo, sE, by rw [← hsp]; exact hZ _ _ hZb, hz1, e1, ?_⟩
  -- both, by cases
  have hgr : ∀ more : List (Int32 × Nat), xF sE = fwr (xF s0) more → wsum more ≤ 30 * c.length + 20 → (∀ p ∈ more, p.2 ≤ 4) → (fadd (xF sE) 140 1).1 ≤ 299000 ∧ FOK (fadd (xF sE) 140 1) ∧ (xF s).1 < (xF sE).1 ∧ ∀ j, j < (xF s).1 → (xF sE).2.2 j = (xF s).2.2 j := fun more m1 m2 m3 => by
    have hl : (xF sE).1 = (xF s).1 + wsum (bgL (xF s).1 ++ hdL s) + wsum more := by rw [m1, fwr_sum, hFs, hF1l]
    have h9 := fwr_lo more (F := xF s0) (by rw [hFs]; exact hlo.1) m3 (by rw [hFs, hF1l]; omega)
    rw [← m1] at h9
    refine ⟨by show (xF sE).1 + 1 ≤ _; omega, fadd_ok h9.1 140 (by omega) (by decide), by omega, fun j hj => ?_⟩
    rw [h9.2 j (by rw [hFs, hF1l]; omega), hFs]
    exact hlo.2 j hj
  have hB12 : ∀ j, (1 ≤ j ∧ j ≤ 12) → gB (shE (shA r) (xF s).1 (3100 + (shf8 g k).length) (c.length + 1) (gF r 24)) j = gB r j := fun j hj => k3 j (by omega) (by omega) (by omega) (by omega) (by omega) (by omega) (by omega) (by omega)
  have hR8 := k2 8 (by decide) (by decide) (by decide) (by decide) (by decide) (by decide) (by decide) (by decide) (by decide)
  have hR11 := k2 11 (by decide) (by decide) (by decide) (by decide) (by decide) (by decide) (by decide) (by decide) (by decide)
  have hR19 := k2 19 (by decide) (by decide) (by decide) (by decide) (by decide) (by decide) (by decide) (by decide) (by decide)
  have hR13 := k3 13 (by decide) (by decide) (by decide) (by decide) (by decide) (by decide) (by decide) (by decide)
  have hR14 := k3 14 (by decide) (by decide) (by decide) (by decide) (by decide) (by decide) (by decide) (by decide)
  generalize shE (shA r) (xF s).1 (3100 + (shf8 g k).length) (c.length + 1) (gF r 24) = R at k4 hB12 hR8 hR11 hR19 hR13 hR14 ⊢
  obtain ⟨hFN, hU, hFI, ⟨hs6, hs7, hs8, hs9, hs10, hs11⟩, hl31, hN1, hN31, h08, h010, h300⟩ := hS
  cases hpg : pgF s.2.2.1 y.2.1 (y.1 1) (y.1 2) (y.1 3) c (s.1 30) with
  | some w3 =>
    rw [hpg] at k4 e2
    obtain ⟨o1, o2, o3, o4, o5, o6, more, m1, m2, m3⟩ := e2
    obtain ⟨r1, r2, r3, r4, r5, r6, r7, r8⟩ := k4
    obtain ⟨g1, g2, g3, g4⟩ := hgr more m1 m2 m3
    have o4' : xF sE = fwr (F1s s) w3.2.2.2.2.2 := by rw [o4, hFs]
    have hx : ∀ j, j ≠ 5 → j ≠ 25 → j ≠ 26 → j ≠ 27 → j ≠ 30 → sE.1 j = s.1 j := fun j a b c d e => (o1.2.2.1 j b c d e).trans (h1s j a)
    refine ⟨g1, g2, ⟨by have := o1.2.2.2.2; omega, by omega⟩, Or.inl ⟨o3, r1, ?_, ?_⟩⟩
    · rw [r2.1, ← o4']; rfl
    · obtain ⟨p6, p7, p8, p9, p10, pj, p2⟩ := wpG_1 (uF sE (fadd (xF sE) 140 1)) (nI (fwr (xF s) (bgL (xF s).1)).1) (y.1 1) (y.1 2) (y.1 3)
      have q2 : (uF sE (fadd (xF sE) 140 1)).1 = sE.1 := rfl
      rw [q2] at p6 p8 p9 p10 pj
      have hxF : xF (wpG (uF sE (fadd (xF sE) 140 1)) (nI (fwr (xF s) (bgL (xF s).1)).1) (y.1 1) (y.1 2) (y.1 3)) = fadd (xF sE) 140 1 := rfl
      have hxN : xN (wpG (uF sE (fadd (xF sE) 140 1)) (nI (fwr (xF s) (bgL (xF s).1)).1) (y.1 1) (y.1 2) (y.1 3)) = xN sE := rfl
      have hx2 : (wpG (uF sE (fadd (xF sE) 140 1)) (nI (fwr (xF s) (bgL (xF s).1)).1) (y.1 1) (y.1 2) (y.1 3)).2.1 = sE.2.1 := rfl
      have hx3 : (wpG (uF sE (fadd (xF sE) 140 1)) (nI (fwr (xF s) (bgL (xF s).1)).1) (y.1 1) (y.1 2) (y.1 3)).2.2.1 = sE.2.2.1 := rfl
      generalize wpG (uF sE (fadd (xF sE) 140 1)) (nI (fwr (xF s) (bgL (xF s).1)).1) (y.1 1) (y.1 2) (y.1 3) = sG at p6 p7 p8 p9 p10 pj hxF hxN hx2 hx3 ⊢
      have hsd : SIM sG Z (emp R (3100 + (shf8 g k).length) (g k).length (3100 + (shf8 g 8).length) k) (va_up g k []) ops := by
        refine SIM_drop hsim hk (by rw [hx2, o1.1, hrs]) (by rw [pj 5 (by decide) (by decide) (by decide) (by decide) (by decide), o1.2.2.1 5 (by decide) (by decide) (by decide) (by decide), h5s, hlg]) hR8 hR11 hB12 ?_
        refine ⟨fun m hm => ?_, ?_, ?_, ⟨?_, ?_, ?_, ?_, ?_, ?_⟩, by rw [hxF]; omega, by rw [hxN]; have := o1.2.2.2.2; omega, by rw [hxN]; omega, ?_, ?_, fun _ => by rw [hxF]; exact g1⟩
        · rw [hx3, o1.2.1, hAs, hR13, hR14]; exact hFN m hm
        · rw [pj 30 (by decide) (by decide) (by decide) (by decide) (by decide), o5]; exact r3
        · rw [hxF, o4']; exact r2
        · rw [p6, hx 6 (by decide) (by decide) (by decide) (by decide) (by decide), r4, hs6]
        · rw [p7, r5]
        · rw [p8, r6, hx 8 (by decide) (by decide) (by decide) (by decide) (by decide)]
          exact imx_64 _ _ hs8 (l64_add hsz.2.1 hsz.2.2.1)
        · rw [p9, r7, hx 9 (by decide) (by decide) (by decide) (by decide) (by decide), hs9, imx_e]
        · rw [p10, r8, hx 10 (by decide) (by decide) (by decide) (by decide) (by decide), o6, hs10, imx_e]
          rfl
        · rw [pj 11 (by decide) (by decide) (by decide) (by decide) (by decide), hx 11 (by decide) (by decide) (by decide) (by decide) (by decide), hR19]; exact hs11
        · rw [p8, hx 8 (by decide) (by decide) (by decide) (by decide) (by decide)]; exact imx_0 h08
        · rw [p10, hx 10 (by decide) (by decide) (by decide) (by decide) (by decide)]; exact imx_0 h010
      rw [hlg] at hsd
      exact hsd
  | none =>
    rw [hpg] at k4 e2
    obtain ⟨o1, o2, o3, more, m1, m2, m3⟩ := e2
    obtain ⟨r1, r2, r3, r4, r5, r6, r7, r8, r9⟩ := k4
    obtain ⟨g1, g2, g3, g4⟩ := hgr more m1 m2 m3
    have hx : ∀ j, j ≠ 5 → j ≠ 25 → j ≠ 26 → j ≠ 27 → j ≠ 30 → sE.1 j = s.1 j := fun j a b c d e => (o1.2.2.1 j b c d e).trans (h1s j a)
    refine ⟨g1, g2, ⟨by have := o1.2.2.2.2; omega, by omega⟩, Or.inr ⟨o3, r1, ?_⟩⟩
    have w30 : (wpB sE (xF s).1 (s.1 30)).1 30 = s.1 30 := uI_s _ _ _
    have wj : ∀ j, j ≠ 30 → (wpB sE (xF s).1 (s.1 30)).1 j = sE.1 j := fun j hj => uI_n _ _ hj
    have wF : xF (wpB sE (xF s).1 (s.1 30)) = ((xF s).1, (xF sE).2) := by
      show cutF (xF sE) (xF s).1 = _
      unfold cutF
      rw [if_pos g3]
    have wN : xN (wpB sE (xF s).1 (s.1 30)) = xN sE := rfl
    have w2 : (wpB sE (xF s).1 (s.1 30)).2.1 = sE.2.1 := rfl
    have w3 : (wpB sE (xF s).1 (s.1 30)).2.2.1 = sE.2.2.1 := rfl
    generalize wpB sE (xF s).1 (s.1 30) = sB at w30 wj wF wN w2 w3 ⊢
    have hsd : SIM sB Z (emp R (3100 + (shf8 g k).length) (g k).length (3100 + (shf8 g 8).length) k) (va_up g k []) ops := by
      refine SIM_drop hsim hk (by rw [w2, o1.1, hrs]) (by rw [wj 5 (by decide), o1.2.2.1 5 (by decide) (by decide) (by decide) (by decide), h5s, hlg]) hR8 hR11 hB12 ?_
      refine ⟨fun m hm => ?_, fun m hm => ?_, ?_, ⟨?_, ?_, ?_, ?_, ?_, ?_⟩, by rw [wF]; exact hl31, by rw [wN]; have := o1.2.2.2.2; omega, by rw [wN]; omega, ?_, ?_, fun _ => by rw [wF]; exact h300 he⟩
      · rw [w3, o1.2.1, hAs, hR13, hR14]; exact hFN m hm
      · rw [w30, r4 m hm]; exact hU m hm
      · rw [wF]
        exact ⟨r2, fun j hj => by rw [r3 j hj]; exact (g4 j hj).trans (hFI.2 j hj)⟩
      · rw [wj 6 (by decide), hx 6 (by decide) (by decide) (by decide) (by decide) (by decide), r5]; exact hs6
      · rw [wj 7 (by decide), hx 7 (by decide) (by decide) (by decide) (by decide) (by decide), r6]; exact hs7
      · rw [wj 8 (by decide), hx 8 (by decide) (by decide) (by decide) (by decide) (by decide), r9]; exact hs8
      · rw [wj 9 (by decide), hx 9 (by decide) (by decide) (by decide) (by decide) (by decide), r7]; exact hs9
      · rw [wj 10 (by decide), hx 10 (by decide) (by decide) (by decide) (by decide) (by decide), r8]; exact hs10
      · rw [wj 11 (by decide), hx 11 (by decide) (by decide) (by decide) (by decide) (by decide), hR19]; exact hs11
      · rw [wj 8 (by decide), hx 8 (by decide) (by decide) (by decide) (by decide) (by decide)]; exact h08
      · rw [wj 10 (by decide), hx 10 (by decide) (by decide) (by decide) (by decide) (by decide)]; exact h010
    rw [hlg] at hsd
    exact hsd
