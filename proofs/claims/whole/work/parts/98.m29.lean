/-! the reference ships: its pieces -/
theorem ubk_16 : ∀ (c : Nat) (r : RS) (j e : Nat), gB (ubk c r j) 16 e = if j ≤ e ∧ e < j + c then vp_nar .boolean (gB r 15 e) else gB r 16 e := by
  intro c
  induction c with
  | zero => intro r j e; rw [if_neg (by omega)]; rfl
  | succ c ih =>
    intro r j e
    show gB (ubk c (w1 r 16 j (vp_nar .boolean (gB r 15 j))) (j + 1)) 16 e = _
    rw [ih, w1_BB, w1_BB, if_neg (by omega : ¬ (15 = 16 ∧ _))]
    by_cases h1 : e = j
    · rw [if_neg (by omega), if_pos ⟨rfl, h1⟩, if_pos (by omega), h1]
    · by_cases h2 : j + 1 ≤ e ∧ e < j + 1 + c
      · rw [if_pos h2, if_pos (by omega)]
      · rw [if_neg h2, if_neg (fun z => h1 z.2), if_neg (by omega)]
theorem ubr_15 : ∀ (c : Nat) (r : RS) (j e : Nat), gB (ubr c r j) 15 e = if j ≤ e ∧ e < j + c then vp_nar .boolean (gB r 16 e) else gB r 15 e := by
  intro c
  induction c with
  | zero => intro r j e; rw [if_neg (by omega)]; rfl
  | succ c ih =>
    intro r j e
    show gB (ubr c (w1 r 15 j (vp_nar .boolean (gB r 16 j))) (j + 1)) 15 e = _
    rw [ih, w1_BB, w1_BB, if_neg (by omega : ¬ (16 = 15 ∧ _))]
    by_cases h1 : e = j
    · rw [if_neg (by omega), if_pos ⟨rfl, h1⟩, if_pos (by omega), h1]
    · by_cases h2 : j + 1 ≤ e ∧ e < j + 1 + c
      · rw [if_pos h2, if_pos (by omega)]
      · rw [if_neg h2, if_neg (fun z => h1 z.2), if_neg (by omega)]
theorem nz8_31 : ∀ (c : Nat) (r : RS) (j e : Nat), gB (nz8 c r j) 31 e = if j ≤ e ∧ e < j + c then 0 else gB r 31 e := by
  intro c
  induction c with
  | zero => intro r j e; rw [if_neg (by omega)]; rfl
  | succ c ih =>
    intro r j e
    show gB (nz8 c (w1 r 31 j 0) (j + 1)) 31 e = _
    rw [ih, w1_BB]
    by_cases h1 : e = j
    · rw [if_neg (by omega), if_pos ⟨rfl, h1⟩, if_pos (by omega)]
    · by_cases h2 : j + 1 ≤ e ∧ e < j + 1 + c
      · rw [if_pos h2, if_pos (by omega)]
      · rw [if_neg h2, if_neg (fun z => h1 z.2), if_neg (by omega)]
theorem nz8_B {k : Nat} (h : k ≠ 31) : ∀ (c : Nat) (r : RS) (j : Nat), gB (nz8 c r j) k = gB r k := by
  intro c
  induction c with
  | zero => intro r j; rfl
  | succ c ih => intro r j; show gB (nz8 c (w1 r 31 j 0) (j + 1)) k = _; rw [ih, w1_B _ _ _ h]
theorem nz8_T : ∀ (c : Nat) (r : RS) (j : Nat), (nz8 c r j).2.1 = r.2.1 := by
  intro c
  induction c with
  | zero => intro r j; rfl
  | succ c ih => intro r j; exact (ih _ _).trans rfl
theorem ubk_T : ∀ (c : Nat) (r : RS) (j : Nat), (ubk c r j).2.1 = r.2.1 := by
  intro c
  induction c with
  | zero => intro r j; rfl
  | succ c ih => intro r j; exact (ih _ _).trans rfl
theorem ubr_T : ∀ (c : Nat) (r : RS) (j : Nat), (ubr c r j).2.1 = r.2.1 := by
  intro c
  induction c with
  | zero => intro r j; rfl
  | succ c ih => intro r j; exact (ih _ _).trans rfl
theorem nar01 {v : Int32} (h : v = 0 ∨ v = 1) : vp_nar .boolean v = v := by
  rcases h with rfl | rfl <;> rfl
theorem wpl_app (L2 : List (Int32 × Nat)) : ∀ (L1 : List (Int32 × Nat)) (s : FS), wpl s (L1 ++ L2) = wpl (wpl s L1) L2 := by
  intro L1
  induction L1 with
  | nil => intro s; rfl
  | cons p L ih => intro s; exact ih _
theorem wpl_cons (s : FS) (p : Int32 × Nat) (L : List (Int32 × Nat)) : wpl s (p :: L) = wpl (wp s p.1 p.2) L := rfl
theorem wpl_nil (s : FS) : wpl s [] = s := rfl
theorem zrn_wpl : ∀ (c : Nat) (s : FS), zrn c s = wpl s (zr c) := by
  intro c
  induction c with
  | zero => intro s; rfl
  | succ c ih => intro s; show zrn c (wp s 0 4) = wpl (wp s 0 4) (zr c); exact ih _
theorem fin1_bg (s : FS) : fin1 s = wpl s (bgL s.2) := by
  unfold fin1 bgL
  split <;> rfl
def hdR (r : RS) : List (Int32 × Nat) := (139, 1) :: (gF r 20 + 1, 4) :: (zr 9 ++ [(gF r 21, 4)])
theorem hd_b (a b : Int32) : wsum ((139, 1) :: (a, 4) :: (zr 9 ++ [(b, 4)])) = 45 ∧ ∀ p ∈ ((139, 1) :: (a, 4) :: (zr 9 ++ [(b, 4)]) : List (Int32 × Nat)), p.2 ≤ 4 := by
  refine ⟨rfl, fun p hp => ?_⟩
  rcases List.mem_cons.mp hp with rfl | hp
  · exact Nat.le_of_ble_eq_true rfl
  · rcases List.mem_cons.mp hp with rfl | hp
    · exact Nat.le_of_ble_eq_true rfl
    · rcases List.mem_append.mp hp with hp | hp
      · rw [List.eq_of_mem_replicate hp]; exact Nat.le_of_ble_eq_true rfl
      · rw [List.mem_singleton.mp hp]; exact Nat.le_of_ble_eq_true rfl
theorem bg_b (n : Nat) : wsum (bgL n) ≤ 15 ∧ ∀ p ∈ bgL n, p.2 ≤ 4 := by
  unfold bgL
  split
  · refine ⟨by decide, fun p hp => ?_⟩
    unfold begl at hp
    simp only [List.mem_cons, List.not_mem_nil, or_false] at hp
    rcases hp with rfl | rfl | rfl | rfl | rfl | rfl <;> exact Nat.le_of_ble_eq_true rfl
  · exact ⟨Nat.zero_le _, fun _ z => by cases z⟩
def clS0 (T : FS) : FS := (sF (nz8 8 T.1 0) 32 (-1), T.2)
theorem shp_e (s : FS) : shp s = clS0 (wpl s (hdR s.1)) := by
  have e1 : wpl s (hdR s.1) = wp (zrn 9 (wp (wp s 139 1) (gF s.1 20 + 1) 4)) (gF s.1 21) 4 := by
    unfold hdR
    rw [wpl_cons, wpl_cons, wpl_app, zrn_wpl, wpl_cons, wpl_nil]
  have e2 : gF (zrn 9 (wp (wp s 139 1) (gF s.1 20 + 1) 4)).1 21 = gF s.1 21 := by
    rw [zrn_wpl, wpl_F (by decide)]
    exact (wrt_F (by decide) _ _ _ _).trans (wrt_F (by decide) _ _ _ _)
  rw [e1]
  unfold shp
  generalize zrn 9 (wp (wp s 139 1) (gF s.1 20 + 1) 4) = t at e2 ⊢
  unfold shn clS0
  rw [e2]
  have e3 : (wp t (gF s.1 21) 4).2 = t.2 + 4 := rfl
  rw [e3]
theorem clS0_F (T : FS) {k : Nat} (h : k ≠ 32) : gF (clS0 T).1 k = gF T.1 k := by
  unfold clS0
  rw [sF_ne _ _ h, nz8_F]
theorem clS0_B (T : FS) {k : Nat} (h : k ≠ 31) : gB (clS0 T).1 k = gB T.1 k := by
  unfold clS0
  rw [sF_BB, nz8_B h]
theorem clS0_31 (T : FS) {j : Nat} (h : j < 8) : gB (clS0 T).1 31 j = 0 := by
  unfold clS0
  rw [sF_BB, nz8_31, if_pos ⟨Nat.zero_le _, by omega⟩]
theorem clS0_T (T : FS) : (clS0 T).1.2.1 = T.1.2.1 := nz8_T 8 T.1 0
theorem clS0_32 (T : FS) : gF (clS0 T).1 32 = -1 := by
  unfold clS0
  rw [sF_FF, if_pos rfl]
theorem clS0_2 (T : FS) : (clS0 T).2 = T.2 := rfl
/-- the page begins -/
theorem RX_S {A : FD} {F1 : FI} {d0 u : Int32} {T : FS} (hF : FXL F1 T) (hg : ¬ gF T.1 33 = 0) (hu : USD u (gB T.1 15)) (hd : gF T.1 24 = d0) (h0 : 0 ≤ d0) : RX A (sF (clS0 T).1 27 (nI 0)) F1 d0 (wz u) (sF (clS0 T).1 27 (nI 0), (clS0 T).2) := by
  have h31 : ∀ j, j < 8 → gB (sF (clS0 T).1 27 (nI 0)) 31 j = 0 := fun j hj => clS0_31 T hj
  refine ⟨⟨⟨h31 _ (by decide), h31 _ (by decide), h31 _ (by decide), h31 _ (by decide), fun _ => rfl⟩, ⟨h31 _ (by decide), h31 _ (by decide), h31 _ (by decide), h31 _ (by decide), fun _ => rfl⟩⟩, ?_, ?_, ?_, ?_, ?_, fun _ _ _ _ _ _ => rfl⟩
  · show gF (sF (clS0 T).1 27 (nI 0)) 32 = -1
    rw [sF_ne _ _ (by decide), clS0_32]
  · show USD u (gB (sF (clS0 T).1 27 (nI 0)) 15)
    rw [sF_BB, clS0_B T (by decide)]
    exact hu
  · show gF (sF (clS0 T).1 27 (nI 0)) 24 = mxd d0 0
    rw [sF_ne _ _ (by decide), clS0_F T (by decide), hd]
    exact (if_pos h0).symm
  · refine FX_cg hF ?_ ?_ rfl
    · show gB (sF (clS0 T).1 27 (nI 0)) 17 = _
      rw [sF_BB, clS0_B T (by decide)]
    · show gF (sF (clS0 T).1 27 (nI 0)) 18 = _
      rw [sF_ne _ _ (by decide), clS0_F T (by decide)]
  · show ¬ gF (sF (clS0 T).1 27 (nI 0)) 33 = 0
    rw [sF_ne _ _ (by decide), clS0_F T (by decide)]
    exact hg
theorem UX_S (T : FS) : UX 0 T (sF (clS0 T).1 27 (nI 0), (clS0 T).2) := by
  refine ⟨fun k h1 h2 h3 h4 h5 => ?_, clS0_T T, fun k h1 h2 h3 h4 h5 => ?_, ⟨Nat.le_refl _, fun k _ => ?_⟩, fun e he => absurd he (Nat.not_lt_zero _)⟩
  · show gF (sF (clS0 T).1 27 (nI 0)) k = _
    rw [sF_ne _ _ h3, clS0_F T h4]
  · show gB (sF (clS0 T).1 27 (nI 0)) k = _
    rw [sF_BB, clS0_B T h5]
  · show gB (sF (clS0 T).1 27 (nI 0)) 17 k = _
    rw [sF_BB, clS0_B T (by decide)]
theorem UX_S0 (T : FS) : UX 0 T (clS0 T) := by
  refine ⟨fun k h1 h2 h3 h4 h5 => clS0_F T h4, clS0_T T, fun k h1 h2 h3 h4 h5 => clS0_B T h5, ⟨Nat.le_refl _, fun k _ => by rw [clS0_B T (by decide)]⟩, fun e he => absurd he (Nat.not_lt_zero _)⟩
/-! what was kept before -/
theorem shA_R (r : RS) (hu : ∀ m, m < 32 → gB r 15 m = 0 ∨ gB r 15 m = 1) : (∀ k, k ≠ 0 → k ≠ 33 → gF (shA r) k = gF r k) ∧ gF (shA r) 0 = 0 ∧ ¬ gF (shA r) 33 = 0 ∧ (shA r).2.1 = r.2.1 ∧ (∀ k, k ≠ 16 → gB (shA r) k = gB r k) ∧ ∀ m, m < 32 → gB (shA r) 16 m = gB r 15 m := by
  have h1 := fun k => ubk_F k 32 (sF r 0 0) 0
  have h2 := ubk_T 32 (sF r 0 0) 0
  have h3 := fun k (hk : k ≠ 16) => ubk_B hk 32 (sF r 0 0) 0
  have h4 := fun e => ubk_16 32 (sF r 0 0) 0 e
  unfold shA
  generalize ubk 32 (sF r 0 0) 0 = X at h1 h2 h3 h4 ⊢
  refine ⟨fun k a c => ?_, ?_, ?_, h2, fun k hk => h3 k hk, fun m hm => ?_⟩
  · rw [sF_ne _ _ c, h1, sF_ne _ _ a]
  · rw [sF_ne _ _ (by decide), h1, sF_FF, if_pos rfl]
  · rw [sF_FF, if_pos rfl]; decide
  · rw [sF_BB, h4, if_pos ⟨Nat.zero_le _, by omega⟩]
    exact nar01 (hu m hm)
theorem shf_R (R : RS) (n : Nat) (dp : Int32) : (∀ k, k ≠ 0 → k ≠ 18 → k ≠ 24 → gF (shf R n dp) k = gF R k) ∧ gF (shf R n dp) 0 = 2 ∧ gF (shf R n dp) 18 = nI n ∧ gF (shf R n dp) 24 = dp ∧ (shf R n dp).2.1 = R.2.1 ∧ (∀ k, k ≠ 15 → gB (shf R n dp) k = gB R k) ∧ ∀ m, m < 32 → gB (shf R n dp) 15 m = vp_nar .boolean (gB R 16 m) := by
  have h1 := fun k => ubr_F k 32 (sF (sF (sF R 0 2) 18 (nI n)) 24 dp) 0
  have h2 := ubr_T 32 (sF (sF (sF R 0 2) 18 (nI n)) 24 dp) 0
  have h3 := fun k (hk : k ≠ 15) => ubr_B hk 32 (sF (sF (sF R 0 2) 18 (nI n)) 24 dp) 0
  have h4 := fun e => ubr_15 32 (sF (sF (sF R 0 2) 18 (nI n)) 24 dp) 0 e
  unfold shf
  generalize ubr 32 (sF (sF (sF R 0 2) 18 (nI n)) 24 dp) 0 = X at h1 h2 h3 h4 ⊢
  refine ⟨fun k a b c => ?_, ?_, ?_, ?_, h2, fun k hk => h3 k hk, fun m hm => ?_⟩
  · rw [h1, sF_ne _ _ c, sF_ne _ _ b, sF_ne _ _ a]
  · rw [h1, sF_ne _ _ (by decide), sF_ne _ _ (by decide), sF_FF, if_pos rfl]
  · rw [h1, sF_ne _ _ (by decide), sF_FF, if_pos rfl]
  · rw [h1, sF_FF, if_pos rfl]
  · rw [h4, if_pos ⟨Nat.zero_le _, by omega⟩]
    rfl
theorem shg_R (R : RS) (pl p : Nat) : (∀ k, k ≠ 20 → k ≠ 21 → k ≠ 23 → gF (shg R pl p) k = gF R k) ∧ gF (shg R pl p) 20 = gF R 20 + 1 ∧ gF (shg R pl p) 21 = nI pl ∧ gF (shg R pl p) 23 = (if gB R 2 p ≤ gF R 23 then gF R 23 else gB R 2 p) ∧ (shg R pl p).2.1 = (if (gB R 3 p).toInt64 + (gB R 4 p).toInt64 ≤ R.2.1 then R.2.1 else (gB R 3 p).toInt64 + (gB R 4 p).toInt64) ∧ ∀ k, gB (shg R pl p) k = gB R k := by
  refine ⟨fun k a b c => ?_, ?_, ?_, ?_, rfl, fun k => rfl⟩
  · unfold shg shg3
    rw [sF_ne _ _ c]
    show gF (shg1 R pl) k = _
    unfold shg1
    rw [sF_ne _ _ b, sF_ne _ _ a]
  · unfold shg shg3
    rw [sF_ne _ _ (by decide)]
    show gF (shg1 R pl) 20 = _
    unfold shg1
    rw [sF_ne _ _ (by decide), sF_FF, if_pos rfl]
  · unfold shg shg3
    rw [sF_ne _ _ (by decide)]
    show gF (shg1 R pl) 21 = _
    unfold shg1
    rw [sF_FF, if_pos rfl]
  · unfold shg shg3
    rw [sF_FF, if_pos rfl]
    rfl
