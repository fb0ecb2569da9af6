/-! the reference in the middle of a page, against ws -/
def mxd (d0 : Int32) (dp : Nat) : Int32 := if nI dp ≤ d0 then d0 else nI dp
theorem mxd_up (d0 : Int32) {dp l : Nat} (h1 : dp < 10000) (h2 : l < 10000) : mxd d0 (max dp l) = if nI l ≤ mxd d0 dp then mxd d0 dp else nI l := by
  unfold mxd
  by_cases hd : nI dp ≤ d0
  · rw [if_pos hd]
    by_cases hl : nI l ≤ d0
    · rw [if_pos hl]
      rcases Nat.le_total dp l with z | z
      · rw [Nat.max_eq_right z, if_pos hl]
      · rw [Nat.max_eq_left z, if_pos hd]
    · rw [if_neg hl]
      have hz : dp ≤ l := by
        rcases Nat.le_total dp l with z | z
        · exact z
        · exact absurd (Int32.le_trans (nI_le z (by omega)) hd) hl
      rw [Nat.max_eq_right hz, if_neg hl]
  · rw [if_neg hd]
    rcases Nat.lt_or_ge dp l with z | z
    · have : ¬ nI l ≤ nI dp := Int32.not_le.mpr (nI_lt z (by omega))
      rw [if_neg this, Nat.max_eq_right (by omega), if_neg (fun y => hd (Int32.le_trans (nI_le (by omega) (by omega)) y))]
    · rw [if_pos (nI_le z (by omega)), Nat.max_eq_left z, if_neg hd]
def RX (A : FD) (r0 : RS) (F0 : FI) (d0 : Int32) (ws : WS) (s : FS) : Prop := (NWt (gB s.1 31) 0 ws.1 ∧ NWt (gB s.1 31) 1 ws.2.1) ∧ gF s.1 32 = ws.2.2.1 ∧ USD ws.2.2.2.1 (gB s.1 15) ∧ gF s.1 24 = mxd d0 ws.2.2.2.2.1 ∧ FXL (fwr F0 ws.2.2.2.2.2) s ∧ ¬ gF s.1 33 = 0 ∧ ∀ k, k ≠ 15 → k ≠ 17 → k ≠ 28 → k ≠ 30 → k ≠ 31 → gB s.1 k = gB r0 k
theorem NWt_cg {f g : Nat → Int32} {sd : Nat} {t : TR} (h : NWt f sd t) (hsd : sd ≤ 1) (hfg : ∀ j, j < 8 → g j = f j) : NWt g sd t := ⟨(hfg _ (by omega)).trans h.1, (hfg _ (by omega)).trans h.2.1, (hfg _ (by omega)).trans h.2.2.1, (hfg _ (by omega)).trans h.2.2.2.1, h.2.2.2.2⟩
section rx
variable {A : FD} {r0 : RS} {F0 : FI} {d0 : Int32} {ws w1 : WS} {s : FS}
theorem RX_len (h : RX A r0 F0 d0 ws s) : s.2 = F0.1 + wsum ws.2.2.2.2.2 ∧ okf s := by
  have h1 := h.2.2.2.2.1.2.1
  have h2 : gF s.1 18 = nI (fwr F0 ws.2.2.2.2.2).1 := h.2.2.2.2.1.2.2.1
  exact ⟨h1.trans (fwr_sum _ _), by show gF s.1 18 = nI s.2; rw [h1, h2]⟩
theorem gW_1 {sd : Nat} {t : TR} (hN : NWt (gB s.1 31) sd t) : gW s sd ≤ 1 ∧ gB s.1 31 (6 + sd) = nI (gW s sd) := by
  rw [gW_e hN, hN.2.2.2.1]
  unfold bI
  split <;> exact ⟨by decide, rfl⟩
theorem RX_nwk (h : RX A r0 F0 d0 ws s) : nwk s := ⟨(gW_1 h.1.1).2, (gW_1 h.1.1).1, (gW_1 h.1.2).2, (gW_1 h.1.2).1⟩
abbrev gtW (s : FS) (x y : Int32) : FS := gt s x y (wh0 s) (wh1 s)
theorem gtW_e (h : gW s 0 ≤ 1) (x y : Int32) : gtW s x y = gp (gp s 0 x (gW s 0)) 1 y (gW (gp s 0 x (gW s 0)) 1) := by
  have e : gB (gp s 0 x (gW s 0)).1 31 7 = gB s.1 31 7 := gp_un s 0 x h (by decide) (by decide) (by decide) (by decide)
  show gp (gp s 0 x (gW s 0)) 1 y (wh1 s) = _
  have : wh1 s = gW (gp s 0 x (gW s 0)) 1 := by
    show (gB s.1 31 7).toNatClampNeg = (gB (gp s 0 x (gW s 0)).1 31 7).toNatClampNeg
    rw [e]
  rw [this]
theorem UX_gt (q : Nat) (s : FS) (x y : Int32) (a b : Nat) : UX q s (gt s x y a b) := UX_tr (UX_gp q s 0 x a) (UX_gp q _ 1 y b)
theorem RX_mvN (h : RX A r0 F0 d0 ws s) {x y : Int32} (hm : mvW ws x y = none) : gF (gtW s x y).1 33 = 0 := by
  rw [gtW_e (gW_1 h.1.1).1]
  by_cases h0 : goA x ws.1 = 0
  · exact gp_33 _ _ _ _ (gp_bad h.1.1 h0)
  · rcases mvW_none hm with z | z
    · exact absurd z h0
    · refine gp_bad (t := ws.2.1) ?_ z
      have hu := fun j a b c d => gp_un s 0 x (gW_1 h.1.1).1 (j := j) a b c d
      exact ⟨(hu 1 (by decide) (by decide) (by decide) (by decide)).trans h.1.2.1, (hu 4 (by decide) (by decide) (by decide) (by decide)).trans h.1.2.2.1, (hu 5 (by decide) (by decide) (by decide) (by decide)).trans h.1.2.2.2.1, (hu 7 (by decide) (by decide) (by decide) (by decide)).trans h.1.2.2.2.2.1, h.1.2.2.2.2.2⟩
theorem RX_mv (h : RX A r0 F0 d0 ws s) {x y : Int32} (hm : mvW ws x y = some w1) (hn : s.2 + 10 ≤ 500000) : RX A r0 F0 d0 w1 (gtW s x y) := by
  obtain ⟨m1, m2, rfl⟩ := mvW_some hm
  rw [gtW_e (gW_1 h.1.1).1]
  have hl := h.2.2.2.2.1.2.1
  obtain ⟨a1, a2, a3⟩ := gp_good h.1.1 (by decide) h.2.2.2.2.2.1 h.2.2.2.2.1 (by omega) m1
  have hu := fun j a b c d => gp_un s 0 x (gW_1 h.1.1).1 (j := j) a b c d
  have hN1 : NWt (gB (gp s 0 x (gW s 0)).1 31) 1 ws.2.1 := ⟨(hu 1 (by decide) (by decide) (by decide) (by decide)).trans h.1.2.1, (hu 4 (by decide) (by decide) (by decide) (by decide)).trans h.1.2.2.1, (hu 5 (by decide) (by decide) (by decide) (by decide)).trans h.1.2.2.2.1, (hu 7 (by decide) (by decide) (by decide) (by decide)).trans h.1.2.2.2.2.1, h.1.2.2.2.2.2⟩
  have hl1 : (gp s 0 x (gW s 0)).2 ≤ s.2 + 5 := (gon_le _ _ _ _ _).2
  have hl2 := a2.2.1
  generalize hs1 : gp s 0 x (gW s 0) = s1 at a1 a2 a3 hN1 hl1 hl2
  have hu1 := UX_gp 0 s 0 x (gW s 0)
  rw [hs1] at hu1
  obtain ⟨b1, b2, b3⟩ := gp_good hN1 (by decide) a1 a2 (by omega) m2
  have hv := fun j a b c d => gp_un s1 1 y (gW_1 hN1).1 (j := j) a b c d
  have hu2 := UX_gp 0 s1 1 y (gW s1 1)
  have hF1 : gF (gp s1 1 y (gW s1 1)).1 32 = gF s.1 32 := by
    show gF (gor _ _ _ _ _) 32 = _
    rw [gor_F (by decide) (by decide), ← hs1]
    exact gor_F (by decide) (by decide) _ _ _ _ _
  have hF2 : gF (gp s1 1 y (gW s1 1)).1 24 = gF s.1 24 := by
    show gF (gor _ _ _ _ _) 24 = _
    rw [gor_F (by decide) (by decide), ← hs1]
    exact gor_F (by decide) (by decide) _ _ _ _ _
  have hB1 : gB (gp s1 1 y (gW s1 1)).1 15 = gB s.1 15 := by
    show gB (gor _ _ _ _ _) 15 = _
    rw [gor_B (by decide) (by decide), ← hs1]
    exact gor_B (by decide) (by decide) _ _ _ _ _
  refine ⟨⟨⟨?_, ?_, ?_, ?_, a3.2.2.2.2⟩, b3⟩, hF1.trans h.2.1, by rw [hB1]; exact h.2.2.1, hF2.trans h.2.2.2.1, ?_, b1, fun k x1 x2 x3 x4 x5 => (hu2.2.2.1 k x1 x2 x3 x4 x5).trans ((hu1.2.2.1 k x1 x2 x3 x4 x5).trans (h.2.2.2.2.2.2 k x1 x2 x3 x4 x5))⟩
  · exact (hv 0 (by decide) (by decide) (by decide) (by decide)).trans a3.1
  · exact (hv 2 (by decide) (by decide) (by decide) (by decide)).trans a3.2.1
  · exact (hv 3 (by decide) (by decide) (by decide) (by decide)).trans a3.2.2.1
  · exact (hv 6 (by decide) (by decide) (by decide) (by decide)).trans a3.2.2.2.1
  · show FXL (fwr F0 (ws.2.2.2.2.2 ++ (goL 147 x ws.1 ++ goL 161 y ws.2.1))) _
    rw [fwr_app, fwr_app]
    exact b2
/-! a box -/
theorem kck_B (q : Nat) : ∀ (m : Nat) (r : RS) (j k e : Nat), gB (kck q m r j) k e = if k = 30 ∧ 8 * q + j ≤ e ∧ e < 8 * q + j + m then gB r 31 (e - 8 * q) else gB r k e := by
  intro m
  induction m with
  | zero => intro r j k e; rw [if_neg (by omega)]; rfl
  | succ m ih =>
    intro r j k e
    show gB (kck q m (w1 r 30 (8 * q + j) (gB r 31 j)) (j + 1)) k e = _
    rw [ih, w1_BB, w1_BB, if_neg (by omega : ¬ (31 = 30 ∧ e - 8 * q = 8 * q + j))]
    by_cases h1 : k = 30 ∧ e = 8 * q + j
    · rw [if_neg (by omega), if_pos h1, if_pos (by omega), h1.2]
      congr 1
      omega
    · rw [if_neg h1]
      by_cases h2 : k = 30 ∧ 8 * q + (j + 1) ≤ e ∧ e < 8 * q + (j + 1) + m
      · rw [if_pos h2, if_pos (by omega)]
      · rw [if_neg h2, if_neg (by omega)]
theorem kck_T (q : Nat) : ∀ (m : Nat) (r : RS) (j : Nat), (kck q m r j).2.1 = r.2.1 := by
  intro m
  induction m with
  | zero => intro r j; rfl
  | succ m ih => intro r j; exact (ih _ _).trans rfl
theorem wX_B (X : RS) (N q i : Nat) {k : Nat} (hk : k ≠ 17) (e : Nat) : gB (wbxX X N q i).1 k e = if k = 28 ∧ e = q then nI i + gB X 7 i else gB X k e := by
  show gB (wrt 1 (wbx1 (wbx0 X q i) q) N 141) k e = _
  rw [wrt_B hk]
  show gB (w1 X 28 q (nI i + gB X 7 i)) k e = _
  rw [w1_BB]
theorem wX_F (X : RS) (N q i : Nat) {k : Nat} (h1 : k ≠ 18) (h2 : k ≠ 24) (h3 : k ≠ 27) : gF (wbxX X N q i).1 k = gF X k := by
  show gF (wrt 1 (wbx1 (wbx0 X q i) q) N 141) k = _
  rw [wrt_F h1]
  unfold wbx1 wbx0
  rw [sF_ne _ _ h2, sF_ne _ _ h3, w1_FF]
theorem wX_24 (X : RS) (N q i : Nat) : gF (wbxX X N q i).1 24 = if nI (q + 1) ≤ gF X 24 then gF X 24 else nI (q + 1) := by
  show gF (wrt 1 (wbx1 (wbx0 X q i) q) N 141) 24 = _
  rw [wrt_F (by decide)]
  have e : gF (wbx0 X q i) 24 = gF X 24 := by unfold wbx0; rw [sF_ne _ _ (by decide), w1_FF]
  unfold wbx1
  rw [e, sF_FF, if_pos rfl]
theorem wX_27 (X : RS) (N q i : Nat) : gF (wbxX X N q i).1 27 = nI (q + 1) := by
  show gF (wrt 1 (wbx1 (wbx0 X q i) q) N 141) 27 = _
  rw [wrt_F (by decide)]
  unfold wbx1 wbx0
  rw [sF_ne _ _ (by decide), sF_FF, if_pos rfl]
theorem wX_FX {X : RS} {N q i : Nat} {F : FI} (h : FXL F (X, N)) (hn : F.1 + 1 ≤ 500000) : FXL (fadd F 141 1) (wbxX X N q i) := by
  refine FX_wp (s := (wbx1 (wbx0 X q i) q, N)) (FX_cg h ?_ ?_ rfl) 141 hn (by decide)
  · funext e
    show gB (w1 X 28 q (nI i + gB X 7 i)) 17 e = _
    rw [w1_BB, if_neg (by omega)]
  · unfold wbx1 wbx0
    rw [sF_ne _ _ (by decide), sF_ne _ _ (by decide), w1_FF]
theorem wX_UX (X : RS) (N q i : Nat) : UX q (X, N) (wbxX X N q i) := by
  refine UX_tr (s' := (wbx1 (wbx0 X q i) q, N)) ?_ (UX_wp q _ 141 1)
  have hB : ∀ k e, gB (wbx1 (wbx0 X q i) q) k e = if k = 28 ∧ e = q then nI i + gB X 7 i else gB X k e := fun k e => by
    show gB (w1 X 28 q (nI i + gB X 7 i)) k e = _
    rw [w1_BB]
  refine ⟨fun k a1 a2 a3 a4 a5 => ?_, rfl, fun k a1 a2 a3 a4 a5 => ?_, ⟨Nat.le_refl _, fun k _ => ?_⟩, fun e he => ⟨?_, fun j hj => ?_⟩⟩
  · unfold wbx1 wbx0
    rw [sF_ne _ _ a2, sF_ne _ _ a3, w1_FF]
  · funext e; rw [hB, if_neg (fun z => a3 z.1)]
  · rw [hB, if_neg (by omega)]
  · rw [hB, if_neg (by omega)]
  · rw [hB, if_neg (by omega)]
theorem wbx_R (h : RX A r0 F0 d0 ws s) {Q i : Nat} (hQ : Q + 1 < 10000) (hdp : ws.2.2.2.2.1 < 10000) (hn : s.2 + 1 ≤ 500000) : RX A r0 F0 d0 (enW ws (Q + 1)) (wbx s Q i) ∧ gB (wbx s Q i).1 28 Q = nI i + gB r0 7 i ∧ (∀ j, j < 8 → gB (wbx s Q i).1 30 (8 * Q + j) = gB s.1 31 j) := by
  have hXB := kck_B Q 8 s.1 0
  have hXF := fun k => kck_F Q k 8 s.1 0
  unfold wbx
  generalize kck Q 8 s.1 0 = X at hXB hXF ⊢
  have h31 : ∀ e, gB (wbxX X s.2 Q i).1 31 e = gB s.1 31 e := fun e => by rw [wX_B _ _ _ _ (by decide), if_neg (by omega), hXB, if_neg (by omega)]
  have hl := h.2.2.2.2.1.2.1
  refine ⟨⟨⟨NWt_cg h.1.1 (by decide) (fun j _ => h31 j), NWt_cg h.1.2 (by decide) (fun j _ => h31 j)⟩, ?_, fun m hm => ?_, ?_, ?_, ?_, fun k x1 x2 x3 x4 x5 => ?_⟩, ?_, fun j hj => ?_⟩
  · rw [wX_F _ _ _ _ (by decide) (by decide) (by decide), hXF]; exact h.2.1
  · rw [wX_B _ _ _ _ (by decide), if_neg (by omega), hXB, if_neg (by omega)]; exact h.2.2.1 m hm
  · rw [wX_24, hXF, h.2.2.2.1]
    exact (mxd_up d0 hdp (by omega)).symm
  · show FXL (fwr F0 (ws.2.2.2.2.2 ++ [(141, 1)])) _
    rw [fwr_app]
    refine wX_FX (FX_cg h.2.2.2.2.1 ?_ ?_ rfl) (by omega)
    · funext e
      show gB X 17 e = _
      rw [hXB, if_neg (by omega)]
    · exact hXF 18
  · rw [wX_F _ _ _ _ (by decide) (by decide) (by decide), hXF]; exact h.2.2.2.2.2.1
  · funext e
    rw [wX_B _ _ _ _ x2, if_neg (fun z => x3 z.1), hXB, if_neg (fun z => x4 z.1), h.2.2.2.2.2.2 k x1 x2 x3 x4 x5]
  · rw [wX_B _ _ _ _ (by decide), if_pos ⟨rfl, rfl⟩, hXB, if_neg (by omega), h.2.2.2.2.2.2 7 (by decide) (by decide) (by decide) (by decide) (by decide)]
  · rw [wX_B _ _ _ _ (by decide), if_neg (by omega), hXB, if_pos ⟨rfl, by omega, by omega⟩, show 8 * Q + j - 8 * Q = j by omega]
theorem wbx_27 (s : FS) (Q i : Nat) : gF (wbx s Q i).1 27 = nI (Q + 1) := by
  unfold wbx
  exact wX_27 _ _ _ _
theorem wbx_33 (s : FS) (Q i : Nat) : gF (wbx s Q i).1 33 = gF s.1 33 := by
  unfold wbx
  rw [wX_F _ _ _ _ (by decide) (by decide) (by decide), kck_F]
theorem UX_bx (s : FS) (Q i : Nat) : UX Q s (wbx s Q i) := by
  have hXB := kck_B Q 8 s.1 0
  have hXF := fun k => kck_F Q k 8 s.1 0
  have hXT := kck_T Q 8 s.1 0
  unfold wbx
  generalize kck Q 8 s.1 0 = X at hXB hXF hXT ⊢
  refine UX_tr (s' := (X, s.2)) ?_ (wX_UX X s.2 Q i)
  refine ⟨fun k a1 a2 a3 a4 a5 => hXF k, hXT, fun k a1 a2 a3 a4 a5 => ?_, ⟨Nat.le_refl _, fun k _ => ?_⟩, fun e he => ⟨?_, fun j hj => ?_⟩⟩
  · funext e; rw [hXB, if_neg (fun z => a4 z.1)]
  · rw [hXB, if_neg (by omega)]
  · rw [hXB, if_neg (by omega)]
  · rw [hXB, if_neg (by omega)]
/-! out of it -/
theorem lck_31 (q : Nat) : ∀ (m : Nat) (r : RS) (j e : Nat), gB (lck q m r j) 31 e = if j ≤ e ∧ e < j + m then gB r 30 (8 * q + e) else gB r 31 e := by
  intro m
  induction m with
  | zero => intro r j e; rw [if_neg (by omega)]; rfl
  | succ m ih =>
    intro r j e
    show gB (lck q m (w1 r 31 j (gB r 30 (8 * q + j))) (j + 1)) 31 e = _
    rw [ih, w1_BB, w1_BB, if_neg (by omega : ¬ (30 = 31 ∧ _))]
    by_cases h1 : e = j
    · rw [if_neg (by omega), if_pos ⟨rfl, h1⟩, if_pos (by omega), h1]
    · by_cases h2 : j + 1 ≤ e ∧ e < j + 1 + m
      · rw [if_pos h2, if_pos (by omega)]
      · rw [if_neg h2, if_neg (fun z => h1 z.2), if_neg (by omega)]
theorem lck_T (q : Nat) : ∀ (m : Nat) (r : RS) (j : Nat), (lck q m r j).2.1 = r.2.1 := by
  intro m
  induction m with
  | zero => intro r j; rfl
  | succ m ih => intro r j; exact (ih _ _).trans rfl
theorem lea_F {k : Nat} (h1 : k ≠ 18) (h2 : k ≠ 27) (s : FS) (Q : Nat) : gF (lea s Q).1 k = gF s.1 k := by
  have hXF := lck_F Q k 8 (sF s.1 27 (nI Q)) 0
  unfold lea
  generalize lck Q 8 (sF s.1 27 (nI Q)) 0 = X at hXF ⊢
  refine (wrt_F h1 _ _ _ _).trans (hXF.trans (sF_ne _ _ h2))
theorem UX_le1 (q : Nat) (s : FS) (Q : Nat) : UX q s (lea s Q) := by
  have hXF := fun k => lck_F Q k 8 (sF s.1 27 (nI Q)) 0
  have hXT := lck_T Q 8 (sF s.1 27 (nI Q)) 0
  have hXB := fun k (hk : k ≠ 31) => lck_B Q hk 8 (sF s.1 27 (nI Q)) 0
  unfold lea
  generalize lck Q 8 (sF s.1 27 (nI Q)) 0 = X at hXF hXT hXB ⊢
  refine UX_tr (s' := (X, s.2)) ?_ (UX_wp q _ 142 1)
  exact UX_of (fun k _ a _ _ => (hXF k).trans (sF_ne _ _ a)) hXT (fun k _ a => hXB k a) rfl
theorem RX_lea (h : RX A r0 F0 d0 ws s) {Q : Nat} {t0 t1 : TR} (h0 : NWt (fun j => gB s.1 30 (8 * Q + j)) 0 t0) (h1 : NWt (fun j => gB s.1 30 (8 * Q + j)) 1 t1) (hn : s.2 + 1 ≤ 500000) : RX A r0 F0 d0 (leW ws t0 t1) (lea s Q) := by
  have hXF := fun k => lck_F Q k 8 (sF s.1 27 (nI Q)) 0
  have hXB := fun k (hk : k ≠ 31) => lck_B Q hk 8 (sF s.1 27 (nI Q)) 0
  have hX31 := fun e => lck_31 Q 8 (sF s.1 27 (nI Q)) 0 e
  unfold lea
  generalize lck Q 8 (sF s.1 27 (nI Q)) 0 = X at hXF hXB hX31 ⊢
  have h31 : ∀ j, j < 8 → gB (wp (X, s.2) 142 1).1 31 j = gB s.1 30 (8 * Q + j) := fun j hj => by
    show gB (wrt 1 X s.2 142) 31 j = _
    rw [wrt_B (by decide), hX31, if_pos ⟨Nat.zero_le _, by omega⟩]
    rfl
  have hl := h.2.2.2.2.1.2.1
  have hF : ∀ k, k ≠ 18 → k ≠ 27 → gF (wp (X, s.2) 142 1).1 k = gF s.1 k := fun k a c => (wrt_F a _ _ _ _).trans ((hXF k).trans (sF_ne _ _ c))
  have hB : ∀ k, k ≠ 17 → k ≠ 31 → gB (wp (X, s.2) 142 1).1 k = gB s.1 k := fun k a c => (wrt_B a _ _ _ _).trans (hXB k c)
  refine ⟨⟨NWt_cg h0 (by decide) h31, NWt_cg h1 (by decide) h31⟩, (hF 32 (by decide) (by decide)).trans h.2.1, by rw [hB 15 (by decide) (by decide)]; exact h.2.2.1, (hF 24 (by decide) (by decide)).trans h.2.2.2.1, ?_, by rw [hF 33 (by decide) (by decide)]; exact h.2.2.2.2.2.1, fun k x1 x2 x3 x4 x5 => ?_⟩
  · show FXL (fwr F0 (ws.2.2.2.2.2 ++ [(142, 1)])) _
    rw [fwr_app]
    refine FX_wp (s := (X, s.2)) (FX_cg h.2.2.2.2.1 (hXB 17 (by decide)) ?_ rfl) 142 (by omega) (by decide)
    exact (hXF 18).trans (sF_ne _ _ (by decide))
  · rw [hB k x2 x5]; exact h.2.2.2.2.2.2 k x1 x2 x3 x4 x5
end rx
