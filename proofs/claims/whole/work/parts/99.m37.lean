/-! the law's ship and finish -/
/-- only objects count for the class's lists: an array's cell may change -/
def noc (Zf : MP) (a : Nat) : MP := fun q => if q = a then none else Zf q
theorem itm_inr {K K' : Option Nat → Int32 → List Rec → Nat → Prop} {Zf Zf' : MP} (hZ : ∀ a e, Zf a = some (.inr e) → Zf' a = some (.inr e)) (hK : ∀ q v c d, K q v c d → K' q v c d) {v : Int32} {p : TRE} {bo : Option Nat} (h : itm K Zf v p bo) : itm K' Zf' v p bo := by
  obtain ⟨h1, h2⟩ := h
  refine ⟨h1, ?_⟩
  rcases h2 with h2 | ⟨h3, b, fo, h4, h5, h6⟩
  · exact Or.inl h2
  · exact Or.inr ⟨h3, b, fo, h4, hZ _ _ h5, hK _ _ _ _ h6⟩
theorem chn_inr {K K' : Option Nat → Int32 → List Rec → Nat → Prop} {Zf Zf' : MP} (hZ : ∀ a e, Zf a = some (.inr e) → Zf' a = some (.inr e)) (hK : ∀ q v c d, K q v c d → K' q v c d) {v : Int32} : ∀ {ts : List TRE} {q : Option Nat}, chn K Zf v q ts → chn K' Zf' v q ts := by
  intro ts
  induction ts with
  | nil => intro q h; exact h
  | cons p ts ih =>
    intro q h
    obtain ⟨a, nx, bo, h1, h2, h3, h4⟩ := h
    exact ⟨a, nx, bo, h1, hZ _ _ h2, itm_inr hZ hK h3, ih h4⟩
theorem CH_inr {Zf Zf' : MP} (hZ : ∀ a e, Zf a = some (.inr e) → Zf' a = some (.inr e)) : ∀ (n : Nat) {q : Option Nat} {v : Int32} {c : List Rec} {d : Nat}, CH Zf n q v c d → CH Zf' n q v c d := by
  intro n
  induction n with
  | zero => intro q v c d h; exact h
  | succ n ih =>
    intro q v c d h
    obtain ⟨ts, h1, h2, h3⟩ := h
    exact ⟨ts, h1, h2, chn_inr hZ (fun _ _ _ _ h => ih h) h3⟩
theorem PX_inr {Zf Zf' : MP} (hZ : ∀ a e, Zf a = some (.inr e) → Zf' a = some (.inr e)) {v : Int32} {p : TRE} {bo : Option Nat} (h : itm (PX Zf) Zf v p bo) : itm (PX Zf') Zf' v p bo := itm_inr hZ (fun _ _ _ _ z => by obtain ⟨n, z⟩ := z; exact ⟨n, CH_inr hZ n z⟩) h
theorem lkn_inr {Zf Zf' Z Z' : MP} {v : Int32} (hZ : ∀ a e, Zf a = some (.inr e) → Zf' a = some (.inr e)) (hZ2 : ∀ a e, Z a = some (.inr e) → Z' a = some (.inr e)) : ∀ {as : List Nat} {ts : List TRE}, lkn Zf Z v as ts → lkn Zf' Z' v as ts := by
  intro as
  induction as with
  | nil => intro ts h; exact h
  | cons a as ih =>
    intro ts h
    obtain ⟨p, ts', bo, h1, h2, h3, h4⟩ := h
    exact ⟨p, ts', bo, h1, hZ2 _ _ h2, PX_inr hZ h3, ih h4⟩
theorem OLS_inr {Zf Zf' Z Z' : MP} (hZ : ∀ a e, Zf a = some (.inr e) → Zf' a = some (.inr e)) (hZ2 : ∀ a e, Z a = some (.inr e) → Z' a = some (.inr e)) : ∀ {ops : List (Int32 × List TRE)} {q : Option Nat} {fp : List Nat}, OLS Zf Z q ops fp → OLS Zf' Z' q ops fp := by
  intro ops
  induction ops with
  | nil => intro q fp h; exact h
  | cons vt o ih =>
    intro q fp h
    obtain ⟨b, oo, as, fp', h1, h2, h3, h4, h5, h6⟩ := h
    exact ⟨b, oo, as, fp', h1, hZ2 _ _ h2, h3, lkn_inr hZ hZ2 h4, h5, ih h6⟩
theorem SIM_arr {s : PS} {Z : MP} {r : RS} {g : Nat → List Rec} {ops : List (Int32 × List TRE)} (h : SIM s Z r g ops) {a : Nat} {w : ClassId × vp_A} (ha : Z a = some (.inl w)) (e : va_E) : SIM s (mu Z a e) r g ops := by
  obtain ⟨⟨Zf, fp, h1, h2, h3, h4, h5⟩, h6⟩ := h
  have hZ2 : ∀ q e', Z q = some (.inr e') → mu Z a e q = some (.inr e') := fun q e' hq => by
    rw [mu_ne _ _ (fun z => by rw [z, ha] at hq; cases hq)]
    exact hq
  have hZ : ∀ q e', Zf q = some (.inr e') → noc Zf a q = some (.inr e') := fun q e' hq => by
    have n : q ≠ a := fun z => by have := h1 _ _ hq; rw [z, ha] at this; cases this
    unfold noc
    rw [if_neg n]; exact hq
  refine ⟨⟨noc Zf a, fp, fun q e' hq => ?_, OLS_inr hZ hZ2 h2, h3, fun q hq => ?_, fun k hk => ?_⟩, h6⟩
  · unfold noc at hq
    by_cases n : q = a
    · rw [if_pos n] at hq; cases hq
    · rw [if_neg n] at hq; rw [mu_ne _ _ n]; exact h1 _ _ hq
  · unfold noc
    by_cases n : q = a
    · rw [if_pos n]
    · rw [if_neg n]; exact h4 q hq
  · rcases h5 k hk with z | ⟨x, c, q, z1, z2, z3, z4⟩
    · exact Or.inl z
    · exact Or.inr ⟨x, c, q, z1, z2, z3, PX_inr hZ z4⟩
theorem cRun_mono {Z Z' : MP} (hZ : ∀ a e, Z a = some e → Z' a = some e) : ∀ (n : Nat) {s : PS} {i : Nat} {sE : PS}, cRun Z n s i sE → cRun Z' n s i sE := by
  intro n
  induction n with
  | zero => intro s i sE h; exact h
  | succ n ih =>
    intro s i sE h
    rcases h with h | ⟨h0, h⟩
    · exact Or.inl h
    refine Or.inr ⟨h0, ?_⟩
    rcases h with ⟨h1, h⟩ | ⟨a, I, nx, m, h1, h2, h3, h4, h5, h⟩ | ⟨a, I, nx, q, v, w, h9, d, it, ne, fo, h1, h2, h3, h4, h5, h⟩
    · rcases h with h | ⟨j, h2, h⟩
      · exact Or.inl ⟨h1, Or.inl h⟩
      · exact Or.inl ⟨h1, Or.inr ⟨j, h2, ih h⟩⟩
    · exact Or.inr (Or.inl ⟨a, I, nx, m, h1, hZ _ _ h2, h3, h4, h5, ih h⟩)
    · exact Or.inr (Or.inr ⟨a, I, nx, q, v, w, h9, d, it, ne, fo, h1, hZ _ _ h2, hZ _ _ h3, h4, h5, ih h⟩)
theorem pRun_rM {ac : Nat → ClassId} {o : Nat} {ad : Nat → Nat} {r : RS} {Z : MP} (hD : DJ o ad Z) {s : PS} {v w h d : Int32} {fo : Option Nat} {sE : PS} (hr : pRun Z s v w h d fo sE) : pRun (rM ac o ad r Z) s v w h d fo sE := by
  cases fo with
  | none => exact hr
  | some c =>
    obtain ⟨n, h1, h2⟩ := hr
    exact ⟨n, h1, cRun_mono (fun a e ha => rM_get hD ha) n h2⟩
theorem wpG_F (s : PS) (x w h d : Int32) : xF (wpG s x w h d) = xF s := rfl
theorem wpG_N (s : PS) (x w h d : Int32) : xN (wpG s x w h d) = xN s := rfl
theorem fiZ_N (s : PS) (p : Nat) : xN (fiZ s p) = xN s := rfl
theorem finX_N (s : PS) : xN (finX s) = xN s := by
  unfold finX finY
  rw [fiZ_N, (fol_F 32 _).2]
/-- ship or finish of the law, then the same of the reference -/
def OPS (l : Launch) (D : va_G) (ac : Nat → ClassId) (ad : Nat → Nat) (tL tM : MT) (K n0 o ol : Nat) (AL As : List Value) (M : MP) (post : MP → Prop) : Prop := ∃ Q1, CtW l D (tyl ac) tL K n0 AL M Q1 ∧ ∀ r M1, Q1 r M1 → ∃ (a v : Int32) (fs : List Value) (r' : RS), r = some (.int a) ∧ M1 o = some (.inr (9, fs)) ∧ Ct l D (tyl ac) tM 0 0 (.ref o :: As) M1 (fun x M' => x = some (.int v) ∧ M' = rM ac o ad r' M1) ∧ gF r' 0 = a ∧ (a = 0 → ∃ f, rM ac o ad r' M1 ol = some (oLg ac f) ∧ f 0 = v.toInt64) ∧ post (rM ac o ad r' M1)
section ops4
variable {l : Launch} {D : va_G} {ac : Nat → ClassId} {o : Nat} {ad : Nat → Nat} {x0 ol j N : Nat} {M : MP}
theorem sh_no {r : RS} {x : Int32} (h : ¬ (gF r 19 = 0 ∧ ¬ isf r x = 0)) : shno r x = sF r 0 1 := by unfold shno; rw [if_neg h]
theorem sh_no2 {r : RS} {x : Int32} (h : gF r 19 = 0 ∧ ¬ isf r x = 0) : shno r x = sF r 0 2 := by unfold shno; rw [if_pos h]
theorem sF_g (r : RS) (k : Nat) (v : Int32) : gF (sF r k v) k = v := va_up_self r.1 k v
theorem F9_le (sE : PS) : (F9 sE).2.1 ≤ (fadd (xF sE) 140 1).2.1 := by
  unfold F9
  split
  · exact Nat.le_refl _
  · exact fadd_j _ _ _
theorem vpL0 (f : Nat → Int64) (v : Int64) : vp_updL f 0 v 0 = v := by simp [vp_updL]
theorem op_ship (hno : ∀ e, l.admits e → e.platform.stackTraces = false) (h : LX ac o ad x0 ol j N M) (x : Int32) : ∃ K n0 j' N', K ≤ (j' - j) + 3 * (N' - N) + 4 ∧ n0 ≤ (fw j' - fw j) + 23 * (N' - N) + 32 ∧ j ≤ j' ∧ N ≤ N' ∧ (j' ≤ 11 ∧ N' ≤ 3100) ∧ OPS l D ac ad t_Law_ship t_Mod_ship K n0 o ol [.ref x0, .int x, .ref ol] [.int x] M (LX ac o ad x0 ol j' N') := by
  obtain ⟨adr, s, r, Z, g, ops, f, rfl, hA, hW, hD, hS, ho, hj, hN⟩ := h
  have hR := hS.2.2.2.2
  have h18 : gF r 18 = nI (xF s).1 := hR.2.2.1.1
  have h3e : (xF s).1 ≤ 300000 := hR.2.2.2.2.1
  have h19 : s.1 11 = 0 ↔ gF r 19 = 0 := hR.2.2.2.1.2.2.2.2.2
  have hbd : j ≤ 11 ∧ N ≤ 3100 := ⟨by rw [← hj]; exact (PW_ok hW).2.2, by rw [← hN]; exact hR.2.2.2.2.2.2.1⟩
  have ha0 : M (adr 0) = some (.inr (0, pfv adr s)) := PW_c (p := 0) hW (by omega) (fun _ => rfl)
  have hol : ∀ {adr' : Nat → Nat} {s' : PS} {M' : MP}, PW ac adr' s' (rM ac o ad r Z) M' → M' ol = some (oLg ac f) := fun hw => PW_z hw (rM_get hD ho)
  -- nothing happens
  have no : ∀ (c : Int32) (Q' : Option Value → MP → Prop), (∀ r1 M1, Q' r1 M1 → r1 = some (.int c) ∧ PW ac adr s (rM ac o ad r Z) M1) → ¬ shok r x (xF s).1 → shno r x = sF r 0 c → ¬ c = 0 → ∀ r1 M1, Q' r1 M1 → ∃ (a v : Int32) (fs : List Value) (r' : RS), r1 = some (.int a) ∧ M1 o = some (.inr (9, fs)) ∧ Ct l D (tyl ac) t_Mod_ship 0 0 (.ref o :: [.int x]) M1 (fun x M' => x = some (.int v) ∧ M' = rM ac o ad r' M1) ∧ gF r' 0 = a ∧ (a = 0 → ∃ f, rM ac o ad r' M1 ol = some (oLg ac f) ∧ f 0 = v.toInt64) ∧ LX ac o ad (adr 0) ol j N (rM ac o ad r' M1) := fun c Q' hQ hk hs hc r1 M1 hq => by
    obtain ⟨rfl, hW1⟩ := hQ _ _ hq
    have hm := Mod_ship (l := l) (D := D) (ac := ac) (r := r) hA (k := 0) (p := 0) (m := 0) (q := 0) (x := x) h18 (by omega) (fun z => absurd z hk)
    rw [if_neg hk, if_neg hk, hs] at hm
    obtain ⟨⟨fs, k1⟩, k2, k3⟩ := ref_do hA hW1 hm
    exact ⟨c, 0, fs, _, rfl, k1, k2, sF_g r 0 _, fun z => absurd z hc, adr, s, _, Z, g, ops, f, rfl, hA, k3, hD, SIM_0 hS c, ho, hj, hN⟩
  by_cases hA1 : ¬ s.1 11 = 0 ∨ boV s x = none
  · have hn : ¬ (gF r 19 = 0 ∧ ¬ isf r x = 0) := fun z => by
      rcases hA1 with w | w
      · exact w (h19.mpr z.1)
      · rcases S_boV hS x with ⟨-, b2⟩ | ⟨k, y, c, qb, -, -, -, -, b1, -⟩
        · exact z.2 b2
        · rw [b1] at w; cases w
    refine ⟨1, 6, j, N, by omega, by omega, Nat.le_refl _, Nat.le_refl _, hbd, _, Law_ship ha0 (PF_ship_a (k := 0) (n := 0) hW hno hA1) (fun v M' hq => by cases hq.1), ?_⟩
    refine no 1 _ (fun r1 M1 hq => ?_) (fun z => hn ⟨z.1, z.2.1⟩) (sh_no hn) (by decide)
    rcases hq with ⟨v, M2, f2, hq, -⟩ | ⟨hq, hr⟩ | ⟨hq, hr⟩
    · cases hq.1
    · exact ⟨hr, hq.2⟩
    · cases hq.1
  have he : s.1 11 = 0 := Classical.byContradiction fun z => hA1 (Or.inl z)
  rcases S_boV hS x with ⟨b1, -⟩ | ⟨k, y, c, qb, Zf, hk, rfl, hg, b1, b2, b3, b4, hZf, hi⟩
  · exact absurd (Or.inr b1) hA1
  have h3 : y.1 0 = 3 := by rw [b4]; rfl
  have hyes : gF r 19 = 0 ∧ ¬ isf r (nI k) = 0 := ⟨h19.mp he, by rw [b3]; decide⟩
  by_cases hfl : 200000 ≤ (xF s).1
  · refine ⟨1, 6, j, N, by omega, by omega, Nat.le_refl _, Nat.le_refl _, hbd, _, Law_ship ha0 (PF_ship_b (k := 0) (n := 0) hW hno he b1 hfl) (fun v M' hq => by cases hq.1), ?_⟩
    refine no 2 _ (fun r1 M1 hq => ?_) (fun z => absurd z.2.2 (by omega)) (sh_no2 hyes) (by decide)
    rcases hq with ⟨v, M2, f2, hq, -⟩ | ⟨hq, hr⟩ | ⟨hq, hr⟩
    · cases hq.1
    · cases hq.1
    · exact ⟨hr, hq.2⟩
  have hfl : (xF s).1 < 200000 := by omega
  obtain ⟨hshk, fo, sE, hB, hz, hrun, h29, hFE, ⟨hN1, hN2⟩, hend⟩ := S_ship hS (PW_ok hW) he hfl hk hg hZf hi h3
  have hpt := S_pty hS hk
  have hok : shok r (nI k) (xF s).1 := ⟨hyes.1, hyes.2, hfl⟩
  have hm := Mod_ship (l := l) (D := D) (ac := ac) (r := r) hA (k := k) (x := nI k) h18 (by omega) (fun _ => ⟨rfl, hk, hpt.2.2.1, hpt.2.2.2.1, hshk⟩)
  rw [if_pos hok, if_pos hok] at hm
  have hle := pRun_le (s := shS s k (nI (g k).length)) (show 0 < xN s from hR.2.2.2.2.2.1) hrun
  have hle9 := FLe_tr (FLe_w (xF s) (bgL (xF s).1 ++ hdL s)) (FLe_tr hle.1 (FLe_9 sE))
  have hv := PF_ship_c (l := l) (D := D) (jE := (F9 sE).2.1) (nE := xN sE + 1) (sE := sE) hW hno he b1 hfl (rM_get hD hB) hz (show 0 < xN s from hR.2.2.2.2.2.1) (by rw [nI_clamp (by omega)]; exact pRun_rM hD hrun) (Nat.le_refl _) (by omega) (Nat.le_refl _)
  refine ⟨_, _, (F9 sE).2.1, xN sE, ?_, ?_, ?_, ?_, ⟨Nat.le_trans (F9_le sE) hFE.2.2, hN2⟩, _, Law_ship ha0 hv (fun v M' hq => ?_), fun r1 M1 hq => ?_⟩
  · unfold bk; omega
  · unfold bs; rw [hj]; omega
  · rw [← hj]; exact hle9.1
  · rw [← hN]; exact hN1
  · obtain ⟨adr', -, ⟨-, -, hw⟩ | ⟨-, -, hw⟩⟩ := hq
    · exact ⟨f, hol hw⟩
    · exact ⟨f, hol hw⟩
  · rcases hend with ⟨g0, g1, g2, g3⟩ | ⟨g0, g1, g3⟩
    · -- the page is written
      have eF : F9 sE = fadd (xF sE) 140 1 := if_pos g0
      have ev : shv0 r (xF s).1 (3100 + (shf8 g k).length) (g k).length = nI ((xF sE).1 + 1) := by
        unfold shv0
        rw [g1, if_pos (by decide), g2]
      rw [ev] at hm
      rcases hq with ⟨v, M2, f2, ⟨adr', ha', hq⟩, hf2, rfl, rfl⟩ | ⟨⟨adr', ha', hq⟩, -⟩ | ⟨⟨adr', ha', hq⟩, -⟩
      · rcases hq with ⟨-, hv2, hW2⟩ | ⟨hx, -⟩
        · have hv2 : v = nI ((xF sE).1 + 1) := by injection hv2 with hv2; injection hv2
          have hW3 := PW_put hW2 (rM_get (r := r) hD ho) (oLg ac (vp_updL f2 0 v.toInt64))
          rw [rM_mu (hD ol _ ho)] at hW3
          obtain ⟨⟨fs, k1⟩, k2, k3⟩ := ref_do hA hW3 hm
          have hD2 := DJ_mu hD (hD ol _ ho) (oLg ac (vp_updL f2 0 v.toInt64))
          refine ⟨0, _, fs, _, rfl, k1, k2, ?_, fun _ => ⟨_, PW_z k3 (rM_get hD2 (mu_self _ _ _)), ?_⟩, adr', _, _, _, _, ops, vp_updL f2 0 v.toInt64, ha' 0 (by omega), hA, k3, hD2, SIM_arr g3 ho _, mu_self _ _ _, ?_, ?_⟩
          · rw [emp_F]; exact g1
          · rw [vpL0, hv2]
          · rw [eF]; exact congrArg (fun z : FI => z.2.1) (wpG_F _ _ _ _ _)
          · exact wpG_N _ _ _ _ _
        · exact absurd g0 hx
      · rcases hq with ⟨-, hv2, -⟩ | ⟨hx, -⟩
        · cases hv2
        · exact absurd g0 hx
      · rcases hq with ⟨-, hv2, -⟩ | ⟨hx, -⟩
        · cases hv2
        · exact absurd g0 hx
    · have eF : F9 sE = xF sE := if_neg g0
      have ev : shv0 r (xF s).1 (3100 + (shf8 g k).length) (g k).length = 0 := by
        unfold shv0
        rw [g1, if_neg (by decide)]
      rw [ev] at hm
      rcases hq with ⟨v, M2, f2, ⟨adr', ha', hq⟩, -⟩ | ⟨⟨adr', ha', hq⟩, -⟩ | ⟨⟨adr', ha', hq⟩, hr⟩
      · rcases hq with ⟨hx, -⟩ | ⟨-, hv2, -⟩
        · exact absurd hx g0
        · cases hv2
      · rcases hq with ⟨hx, -⟩ | ⟨-, hv2, -⟩
        · exact absurd hx g0
        · cases hv2
      · rcases hq with ⟨hx, -⟩ | ⟨-, -, hW2⟩
        · exact absurd hx g0
        · obtain ⟨⟨fs, k1⟩, k2, k3⟩ := ref_do hA hW2 hm
          refine ⟨2, 0, fs, _, hr, k1, k2, ?_, fun z => absurd z (by decide), adr', _, _, _, _, ops, f, ha' 0 (by omega), hA, k3, hD, g3, ho, ?_, rfl⟩
          · rw [emp_F]; exact g1
          · rw [eF]; rfl
theorem op_finish (hno : ∀ e, l.admits e → e.platform.stackTraces = false) (h : LX ac o ad x0 ol j N M) : ∃ K n0 j' N', K ≤ (j' - j) + 3 * (N' - N) + 4 ∧ n0 ≤ (fw j' - fw j) + 23 * (N' - N) + 32 ∧ j ≤ j' ∧ N ≤ N' ∧ (j' ≤ 11 ∧ N' ≤ 3100) ∧ OPS l D ac ad t_Law_finish t_Mod_finish K n0 o ol [.ref x0, .ref ol] [] M (LX ac o ad x0 ol j' N') := by
  obtain ⟨adr, s, r, Z, g, ops, f, rfl, hA, hW, hD, hS, ho, hj, hN⟩ := h
  have hR := hS.2.2.2.2
  have h18 : gF r 18 = nI (xF s).1 := hR.2.2.1.1
  have h3e : (xF s).1 ≤ 300000 := hR.2.2.2.2.1
  have h19 : s.1 11 = 0 ↔ gF r 19 = 0 := hR.2.2.2.1.2.2.2.2.2
  have hbd : j ≤ 11 ∧ N ≤ 3100 := ⟨by rw [← hj]; exact (PW_ok hW).2.2, by rw [← hN]; exact hR.2.2.2.2.2.2.1⟩
  have ha0 : M (adr 0) = some (.inr (0, pfv adr s)) := PW_c (p := 0) hW (by omega) (fun _ => rfl)
  have hm := Mod_finish (l := l) (D := D) (ac := ac) (r := r) hA h18 h3e
  by_cases he : s.1 11 = 0
  · obtain ⟨s1, s2, s3, s4, s5⟩ := S_finish hS (PW_ok hW) he
    rw [if_pos (h19.mp he), if_pos (h19.mp he), ← s1] at hm
    have hv := PF_finish_b (l := l) (D := D) (jE := (xF (finX s)).2.1) hW he (Nat.le_refl _) (by omega)
    have hle : FLe (xF s) (xF (finX s)) := FLe_tr (FLe_w (xF s) (bgL (xF s).1)) (finY_F (uF s (fwr (xF s) (bgL (xF s).1))) (fwr (xF s) (bgL (xF s).1)).1)
    have hxN : xN (finX s) = xN s := finX_N s
    refine ⟨_, _, (xF (finX s)).2.1, N, ?_, ?_, ?_, Nat.le_refl _, ⟨s5.2.2, hbd.2⟩, _, Law_finish ha0 hv (fun v M' hq => ?_) (fun M' hq => ?_), fun r1 M1 hq => ?_⟩
    · unfold bk; omega
    · unfold bs; rw [hj]; omega
    · rw [← hj]; exact hle.1
    · exact ⟨f, PW_z hq.2 (rM_get hD ho)⟩
    · cases hq.1
    · rcases hq with ⟨v, M2, f2, hq, hf2, rfl, rfl⟩ | ⟨hq, -⟩ | ⟨hq, -⟩
      · obtain ⟨hv2, hW2⟩ := hq
        have hv2 : v = nI (xF (finX s)).1 := by injection hv2 with hv2; injection hv2
        have hW3 := PW_put hW2 (rM_get (r := r) hD ho) (oLg ac (vp_updL f2 0 v.toInt64))
        rw [rM_mu (hD ol _ ho)] at hW3
        obtain ⟨⟨fs, k1⟩, k2, k3⟩ := ref_do hA hW3 hm
        have hD2 := DJ_mu hD (hD ol _ ho) (oLg ac (vp_updL f2 0 v.toInt64))
        refine ⟨0, _, fs, _, rfl, k1, k2, s3, fun _ => ⟨_, PW_z k3 (rM_get hD2 (mu_self _ _ _)), ?_⟩, adr, _, _, _, _, ops, vp_updL f2 0 v.toInt64, rfl, hA, k3, hD2, SIM_arr s2 ho _, mu_self _ _ _, rfl, ?_⟩
        · rw [vpL0, hv2]
        · exact hxN.trans hN
      · cases hq.1
      · cases hq.1
  · rw [if_neg (fun z => he (h19.mpr z)), if_neg (fun z => he (h19.mpr z))] at hm
    refine ⟨1, 6, j, N, by omega, by omega, Nat.le_refl _, Nat.le_refl _, hbd, _, Law_finish ha0 (PF_finish_a (k := 0) (n := 0) hW hno he) (fun v M' hq => by cases hq.1) (fun M' hq => by cases hq.1), fun r1 M1 hq => ?_⟩
    rcases hq with ⟨v, M2, f2, hq, -⟩ | ⟨hq, hr⟩ | ⟨hq, hr⟩
    · cases hq.1
    · obtain ⟨⟨fs, k1⟩, k2, k3⟩ := ref_do hA hq.2 hm
      exact ⟨1, 0, fs, _, hr, k1, k2, sF_g r 0 _, fun z => absurd z (by decide), adr, s, _, Z, g, ops, f, rfl, hA, k3, hD, SIM_0 hS 1, ho, hj, hN⟩
    · cases hq.1
end ops4
