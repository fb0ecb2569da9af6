/-! the law's calls: close, put -/
theorem isz1_01 {v : Int32} (h : isz1 v) : v = 0 ∨ v = 1 := by
  have h2 := h.2
  simpa [fits] using h2
theorem nI_in8 {a b : Nat} (ha : a < 8) (hb : b < 8) (h : nI a = nI b) : a = b := by
  have := congrArg Int32.toNatClampNeg h
  rw [nI_clamp (by omega), nI_clamp (by omega)] at this
  exact this
section ops3
variable {l : Launch} {D : va_G} {ac : Nat → ClassId} {o : Nat} {ad : Nat → Nat} {x0 ol j N : Nat} {M : MP}
theorem op_put (h : LX ac o ad x0 ol j N M) (x sh cp : Int32) : OPR l D ac ad t_PF_put t_Mod_put 1 10 x0 o [.int x, .int sh, .int cp] M (LX ac o ad x0 ol j N) := by
  obtain ⟨adr, s, r, Z, g, ops, f9, rfl, hA, hW, hD, hS, ho, hj, hN⟩ := h
  have no : ∀ {ops : List (Int32 × List TRE)}, SIM s Z r g ops → ¬ pok r x sh cp → ∀ M1, PW ac adr s (rM ac o ad r Z) M1 → ∃ (v : Int32) (fs : List Value) (r' : RS), some (Value.int 0) = some (.int v) ∧ M1 o = some (.inr (9, fs)) ∧ Ct l D (tyl ac) t_Mod_put 0 0 (.ref o :: [.int x, .int sh, .int cp]) M1 (fun x M' => x = some (.int v) ∧ M' = rM ac o ad r' M1) ∧ ∀ r2 M2, (r2 = some (Value.int v) ∧ M2 = rM ac o ad r' M1) → r2 = some (.int v) ∧ LX ac o ad (adr 0) ol j N M2 := fun hS hp M1 hW1 => by
    have hm := Mod_put (l := l) (D := D) (ac := ac) (r := r) hA (k := 0) (p := 0) (n := 0) (q := 0) (e := 0) (x := x) (s := sh) (c := cp) (fun z => absurd z hp)
    rw [if_neg hp, if_neg hp] at hm
    obtain ⟨⟨fs, k1⟩, k2, k3⟩ := ref_do hA hW1 hm
    exact ⟨0, fs, _, rfl, k1, k2, fun r2 M2 hq2 => ⟨hq2.1, by rw [hq2.2]; exact ⟨adr, _, _, _, g, _, f9, rfl, hA, k3, hD, SIM_0 hS 0, ho, hj, hN⟩⟩⟩
  cases ops with
  | nil =>
    obtain ⟨e1, e2⟩ := S_emp hS
    refine ⟨_, PF_put0 hW e1 x sh cp, fun r1 M1 hq => ?_⟩
    obtain ⟨rfl, hW1⟩ := hq
    exact no hS (fun z => z.1 e2) M1 hW1
  | cons p o' =>
    obtain ⟨v, ts⟩ := p
    obtain ⟨a, oo, as, Ic, bc, Zf, fp', i1, i2, i3, i4, i5, i6, i7, i8, i9, i10⟩ := SIM_in hS
    rcases S_boV hS x with ⟨b1, b2⟩ | ⟨k, y, c, qb, -, hk, rfl, hg, b1, b2, b3, b4, -, -⟩
    · refine ⟨_, PF_put1 hW i1 b1 sh cp, fun r1 M1 hq => ?_⟩
      obtain ⟨rfl, hW1⟩ := hq
      exact no hS (fun z => z.2.1 b2) M1 hW1
    · -- the register, by the same frozen part
      have hi : itm (PX Zf) Zf 0 (y, c) (some qb) := by
        rcases i10 k hk with z | ⟨y', c', q', z1, z2, z3, z4⟩
        · rw [hg] at z; cases z.1
        · rw [hg] at z1
          injection z1 with z1 z5
          rw [b2] at z2
          cases z2
          rw [z1, z5]; exact z4
      have hp := S_pty hS hk
      have hiff := S_ptc hS hk b3 sh cp
      obtain ⟨hNK, hit⟩ := hi
      rcases hit with z | ⟨z3, q', fo, hq', hZb, hP⟩
      · exact absurd (by rw [b4]; rfl) z.1
      have hq' : qb = q' := Option.some.inj hq'
      subst hq'
      have hi : itm (PX Zf) Zf 0 (y, c) (some qb) := ⟨hNK, Or.inr ⟨z3, qb, fo, rfl, hZb, hP⟩⟩
      have hlg : nI (g k).length = nI y.2.2.1 := by rw [hg, show y.2.2.1 = c.length + 1 from hNK.1]; rfl
      have hlen : (cat ((v, ts) :: o')).length + (g k).length ≤ 3100 := hp.2.2.2.2.2.2.2.2
      refine ⟨_, PF_put2 hW i1 (rM_get hD i2) (fun c hc => by obtain ⟨nc, hc⟩ := i4 c hc; exact ⟨nc, rM_get hD hc⟩) (rM_get hD (i5 _ _ hZb)) b1 sh cp, fun r1 M1 hq => ?_⟩
      by_cases hc : ptc s (nI y.2.2.1) sh cp
      · have hq := (if_pos hc).mp hq
        obtain ⟨q, hq0, rfl, hW1⟩ := hq
        obtain ⟨nq, hq1⟩ := rM_none hA hq0
        rw [adZ_rM hD i2 nq i4, nI_clamp (by omega)] at hW1
        have hc' : ptc s (nI (g k).length) sh cp := by rw [hlg]; exact hc
        have hok := hiff.mp hc'
        have hm := Mod_put (l := l) (D := D) (ac := ac) (r := r) hA (k := k) (p := 3100 + (shf8 g k).length) (n := (g k).length) (q := 3100 + (shf8 g 8).length) (e := (cat ((v, ts) :: o')).length) (x := nI k) (s := sh) (c := cp) (fun _ => hp)
        rw [if_pos hok, if_pos hok] at hm
        have s2 := S_put hS i2 i3 i4 i5 i6 i7 i8 i9 i10 i1 hq1 hk hg b4 hi hc'
        rw [hlg] at s2
        have hW2 : PW ac adr (ptE s k (nI y.2.2.1) cp) (rM ac o ad r (adZ Z a q (itI 3 (y.1 1) (y.1 2) (y.1 3) 0 0 0 sh) (some qb) as.getLast? Ic bc v (va_rf oo) (nI (o'.length + 1)) (va_rf as.head?) (nI (flt ts).length) (nI (dmx ts)) (nI y.2.2.1) (nI (y.2.2.2 + 1)) (mea v ts (0, 0, 0)))) M1 := hW1
        obtain ⟨⟨fs, k1⟩, k2, k3⟩ := ref_do hA hW2 hm
        have e1 : xF (ptE s k (nI y.2.2.1) cp) = xF s ∧ xN (ptE s k (nI y.2.2.1) cp) = xN s := by
          unfold ptE ptS
          split <;> exact ⟨rfl, rfl⟩
        exact ⟨1, fs, _, rfl, k1, k2, fun r2 M2 hq2 => ⟨hq2.1, by rw [hq2.2]; exact ⟨adr, _, _, _, _, _, f9, rfl, hA, k3, adZ_DJ hD i2 nq i4, s2, adZ_get i2 hq1 i4 ho, by rw [e1.1]; exact hj, by rw [e1.2]; exact hN⟩⟩⟩
      · have hq := (if_neg hc).mp hq
        obtain ⟨rfl, hW1⟩ := hq
        exact no hS (fun z => hc (by have := hiff.mpr z; rw [hlg] at this; exact this)) M1 hW1
theorem op_clo (h : LX ac o ad x0 ol j N M) (x : Int32) : OPR l D ac ad t_PF_close t_Mod_close 1 7 x0 o [.int x] M (LX ac o ad x0 ol j N) := by
  obtain ⟨adr, s, r, Z, g, ops, f9, rfl, hA, hW, hD, hS, ho, hj, hN⟩ := h
  cases ops with
  | nil =>
    obtain ⟨e1, e2⟩ := S_emp hS
    have hm := Mod_close (l := l) (D := D) (ac := ac) (r := r) hA (a := 0) (e := 0) (p := 0) (n := 0) (q := 0) (q1 := 0) (k := 0) (L := 0) (sp := fun _ => 0) (v := 0) (x := x) (fun z => absurd e2 z.1) (fun z => absurd e2 z.1.1)
    have hn : ¬ cldo r 0 0 (fun _ => 0) 0 x := fun z => z.1.1 e2
    rw [if_neg hn] at hm
    have e : clr r 0 0 0 0 0 0 0 0 (fun _ => 0) 0 x = sF r 0 0 := if_neg hn
    rw [e] at hm
    refine ⟨_, PF_close0 hW e1 x, fun r1 M1 hq => ?_⟩
    obtain ⟨rfl, hW1⟩ := hq
    obtain ⟨⟨fs, k1⟩, k2, k3⟩ := ref_do hA hW1 hm
    exact ⟨0, fs, _, rfl, k1, k2, fun r2 M2 hq2 => ⟨hq2.1, by rw [hq2.2]; exact ⟨adr, _, _, _, g, _, f9, rfl, hA, k3, hD, SIM_0 hS 0, ho, hj, hN⟩⟩⟩
  | cons p o' =>
    obtain ⟨v, ts⟩ := p
    obtain ⟨a, oo, as, Ic, bc, Zf, fp', i1, i2, i3, i4, i5, i6, i7, i8, i9, i10⟩ := SIM_in hS
    obtain ⟨c1, c2, c3, c4⟩ := S_clc hS i6 x
    have hR := hS.2.1
    have hcl := cat_len v ts o'
    have h30 := hR.2.1
    have hv01 : v = 0 ∨ v = 1 := isz1_01 i3
    have hvv : isv r (o'.length + 1) = v := by
      rw [S_isv hS]
      rcases hv01 with z | z
      · rw [z, if_pos rfl]
      · rw [z, if_neg (by decide)]
    have hRf : RWs r (cat o').length (flt ts) := by
      have := hR.2.2.2.2.1
      have h2 : RWs r 0 (cat o' ++ flt ts) := this
      have h3 := ((RWs_app r (cat o') (flt ts) 0).mp h2).2
      rw [Nat.zero_add] at h3
      exact h3
    obtain ⟨nW, hnW⟩ := lkn_WF i6
    have hspn := S_spn (r := r) (n := nW + 1) (v := v) (c := flt ts) (d := dmx ts) (a := (cat o').length) ⟨ts, rfl, rfl, hnW⟩ hRf (by omega)
    rw [← hcl] at hspn
    have hy1 : gF r 8 = nI (o'.length + 1) ∧ o'.length < 100 ∧ gB r 9 o'.length = nI (cat o').length ∧ gF r 11 = nI (cat ((v, ts) :: o')).length ∧ (cat o').length ≤ (cat ((v, ts) :: o')).length ∧ (cat ((v, ts) :: o')).length < 3100 ∧ (∀ i, (cat o').length ≤ i → i < (cat ((v, ts) :: o')).length → gB r 7 i = nI (spn r i) ∧ 0 < spn r i ∧ i + spn r i ≤ (cat ((v, ts) :: o')).length) ∧ isv r (o'.length + 1) = v := ⟨hR.2.2.1, hR.1, hR.2.2.2.2.2.1.1, hR.2.2.2.1, by omega, by omega, hspn, hvv⟩
    by_cases hx : ¬ x < 0 ∧ ¬ 7 < x
    · obtain ⟨k, hk, rfl⟩ := nI_7 hx.1 hx.2
      have hp := S_pty hS hk
      have hy2 : cldo r (cat o').length (cat ((v, ts) :: o')).length (spn r) v (nI k) → nI k = nI k ∧ stt r k = nI (3100 + (shf8 g k).length) ∧ gB r 12 k = nI (g k).length ∧ 3100 + shv r = nI (3100 + (shf8 g 8).length) ∧ 3100 + (shf8 g k).length + (g k).length ≤ 3100 + (shf8 g 8).length ∧ 3100 + (shf8 g 8).length ≤ 6200 ∧ k < 8 ∧ stt (emp (sF r 0 0) (3100 + (shf8 g k).length) (g k).length (3100 + (shf8 g 8).length) k) k = nI (3100 + (shf8 g k).length) ∧ 3100 + shv (emp (sF r 0 0) (3100 + (shf8 g k).length) (g k).length (3100 + (shf8 g 8).length) k) = nI (3100 + (shf8 (va_up g k []) 8).length) ∧ 0 < 3100 + (shf8 g k).length ∧ 3100 + (shf8 g k).length ≤ 3100 + (shf8 (va_up g k []) 8).length ∧ 3100 + (shf8 (va_up g k []) 8).length + ((cat ((v, ts) :: o')).length - (cat o').length + 1) ≤ 6200 ∧ stt (mak (emp (sF r 0 0) (3100 + (shf8 g k).length) (g k).length (3100 + (shf8 g 8).length) k) (3100 + (shf8 g k).length) ((cat ((v, ts) :: o')).length - (cat o').length + 1) (3100 + (shf8 (va_up g k []) 8).length) k) k = nI (3100 + (shf8 g k).length) := fun hcd => by
        have h59 := (S_rm hS).mp hcd.1.2.2.2
        have hgt := S_gt hS h59
        unfold toI at hgt
        obtain ⟨-, w1, w2, w3⟩ := RR_close (x := clR v ts) hR hk (clR_R v ts) hgt
        have hdl := drop_len g hk
        have e9 : (cat ((v, ts) :: o')).length - (cat o').length = (flt ts).length := by omega
        rw [e9]
        exact ⟨rfl, hp.2.2.1, hp.2.2.2.1, hp.2.2.2.2.1, hp.2.2.2.2.2.1, by omega, hk, w1, w2, by omega, by omega, by omega, w3⟩
      have hm := Mod_close (l := l) (D := D) (ac := ac) (r := r) hA (L := o'.length) (k := k) (x := nI k) (fun _ => hy1) hy2
      have hr0 : ∀ k', nI k = nI k' → k' < 8 → s.2.1 k' = none → nI (g k).length = 0 := fun k' e1 e2 e3 => by
        have e : k = k' := nI_in8 hk e2 e1
        subst e
        rcases i10 k hk with z | ⟨y', c', q', z1, z2, z3, z4⟩
        · rw [z.1]; rfl
        · rw [e3] at z2; cases z2
      have hr1 : ∀ k' q, nI k = nI k' → k' < 8 → s.2.1 k' = some q → ∃ rv rw rh rd rn rf, rM ac o ad r Z q = some (.inr (1, bxv rv rw rh rd rf (nI (g k).length) rn)) := fun k' q e1 e2 e3 => by
        have e : k = k' := nI_in8 hk e2 e1
        subst e
        rcases i10 k hk with z | ⟨y', c', q', z1, z2, z3, hNK, hit⟩
        · rw [z.2] at e3; cases e3
        · rw [e3] at z2
          cases z2
          rcases hit with z | ⟨-, q', fo, hq', hZb, hP⟩
          · exact absurd (by rw [z3]; rfl) z.1
          have hq' : q = q' := Option.some.inj hq'
          subst hq'
          have hl9 : nI (g k).length = nI y'.2.2.1 := by rw [z1, show (y' :: c').length = c'.length + 1 from rfl, show y'.2.2.1 = c'.length + 1 from hNK.1]
          exact ⟨y'.2.1, y'.1 1, y'.1 2, y'.1 3, nI (y'.2.2.2 + 1), va_rf fo, by rw [hl9]; exact rM_get hD (i5 _ _ hZb)⟩
      refine ⟨_, PF_close1 hW i1 i3 (isr_rf _) (rM_get hD i2) (nI k) hr0 hr1, fun r1 M1 hq => ?_⟩
      by_cases hc : clc s (nI k) (nI (dmx ts)) (mea v ts (0, 0, 0))
      · have hq := (if_pos hc).mp hq
        obtain ⟨q, hq0, rfl, hW1⟩ := hq
        obtain ⟨nq, hq1⟩ := rM_none hA hq0
        rw [rM_mu nq, nI_clamp (by omega)] at hW1
        have hcd := c1.mp hc
        rw [if_pos hcd] at hm
        unfold clr at hm
        rw [if_pos hcd, c2, c3, c4] at hm
        obtain ⟨⟨fs, k1⟩, k2, k3⟩ := ref_do hA hW1 hm
        have s2 := S_close hS i2 i3 i5 i6 i7 i8 i9 i10 hq1 hk hc
        exact ⟨1, fs, _, rfl, k1, k2, fun r2 M2 hq2 => ⟨hq2.1, by rw [hq2.2]; exact ⟨adr, _, _, _, _, _, f9, rfl, hA, k3, DJ_mu hD nq _, s2, by rw [mu_ne _ _ (fun z => by rw [z, hq1] at ho; cases ho)]; exact ho, hj, hN⟩⟩⟩
      · have hq := (if_neg hc).mp hq
        obtain ⟨rfl, hW1⟩ := hq
        have hcd : ¬ cldo r (cat o').length (cat ((v, ts) :: o')).length (spn r) v (nI k) := fun z => hc (c1.mpr z)
        rw [if_neg hcd] at hm
        unfold clr at hm
        rw [if_neg hcd] at hm
        obtain ⟨⟨fs, k1⟩, k2, k3⟩ := ref_do hA hW1 hm
        exact ⟨0, fs, _, rfl, k1, k2, fun r2 M2 hq2 => ⟨hq2.1, by rw [hq2.2]; exact ⟨adr, _, _, _, g, _, f9, rfl, hA, k3, hD, SIM_0 hS 0, ho, hj, hN⟩⟩⟩
    · have hcd : ¬ cldo r (cat o').length (cat ((v, ts) :: o')).length (spn r) v x := fun z => hx ⟨z.1.2.1, z.1.2.2.1⟩
      have hc : ¬ clc s x (nI (dmx ts)) (mea v ts (0, 0, 0)) := fun z => hcd (c1.mp z)
      have hm := Mod_close (l := l) (D := D) (ac := ac) (r := r) hA (L := o'.length) (k := 0) (p := 0) (n := 0) (q := 0) (q1 := 0) (x := x) (fun _ => hy1) (fun z => absurd z hcd)
      rw [if_neg hcd] at hm
      unfold clr at hm
      rw [if_neg hcd] at hm
      have hno : ∀ k', x = nI k' → ¬ k' < 8 := fun k' e1 e2 => hx ⟨by rw [e1]; exact nI_nlt (b := 0) (Nat.zero_le _) (by omega), by rw [e1]; exact nI_nlt (a := 7) (b := k') (by omega) (by decide)⟩
      refine ⟨_, PF_close1 hW i1 i3 (isr_rf _) (rM_get hD i2) x (ri := 0) (fun k' e1 e2 => absurd e2 (hno k' e1)) (fun k' q e1 e2 => absurd e2 (hno k' e1)), fun r1 M1 hq => ?_⟩
      have hq := (if_neg hc).mp hq
      obtain ⟨rfl, hW1⟩ := hq
      obtain ⟨⟨fs, k1⟩, k2, k3⟩ := ref_do hA hW1 hm
      exact ⟨0, fs, _, rfl, k1, k2, fun r2 M2 hq2 => ⟨hq2.1, by rw [hq2.2]; exact ⟨adr, _, _, _, g, _, f9, rfl, hA, k3, hD, SIM_0 hS 0, ho, hj, hN⟩⟩⟩
end ops3
