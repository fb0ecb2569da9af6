/-! the reference writes: lazy leaves, and what any item leaves as it was -/
def lvs (q : Nat) : Nat → FS → FS
  | 0, s => s
  | m + 1, s => lvs q m (lea s (q + m))
theorem lvs_last (q : Nat) : ∀ (m : Nat) (s : FS), lvs q (m + 1) s = lea (lvs (q + 1) m s) q := by
  intro m
  induction m with
  | zero => intro s; rfl
  | succ m ih =>
    intro s
    show lvs q (m + 1) (lea s (q + (m + 1))) = lea (lvs (q + 1) m (lea s (q + 1 + m))) q
    rw [ih, show q + (m + 1) = q + 1 + m by omega]
theorem lvs_B {k : Nat} (h1 : k ≠ 17) (h2 : k ≠ 31) (q : Nat) : ∀ (m : Nat) (s : FS), gB (lvs q m s).1 k = gB s.1 k := by
  intro m
  induction m with
  | zero => intro s; rfl
  | succ m ih => intro s; show gB (lvs q m (lea s (q + m))).1 k = _; rw [ih, lea_B h1 h2]
theorem lvs_2 (q : Nat) : ∀ (m : Nat) (s : FS), (lvs q m s).2 = s.2 + m := by
  intro m
  induction m with
  | zero => intro s; rfl
  | succ m ih => intro s; show (lvs q m (lea s (q + m))).2 = _; rw [ih]; show s.2 + 1 + m = _; omega
theorem lvs_27 (q : Nat) : ∀ (m : Nat) (s : FS), gF s.1 27 = nI (q + m) → gF (lvs q m s).1 27 = nI q := by
  intro m
  induction m with
  | zero => intro s h; exact h
  | succ m ih => intro s _; exact ih _ (lea_27 s (q + m))
theorem UX_lvs (k q : Nat) : ∀ (m : Nat) (s : FS), UX k s (lvs q m s) := by
  intro m
  induction m with
  | zero => intro s; exact UX_rf k s
  | succ m ih => intro s; exact UX_tr (UX_le1 k s (q + m)) (ih _)
theorem lvs_33 (q : Nat) : ∀ (m : Nat) (s : FS), gF (lvs q m s).1 33 = gF s.1 33 := by
  intro m
  induction m with
  | zero => intro s; rfl
  | succ m ih => intro s; show gF (lvs q m (lea s (q + m))).1 33 = _; rw [ih, lea_F (by decide) (by decide)]
theorem wpo_lvs (i q : Nat) : ∀ (m : Nat) (s : FS), (∀ e, q ≤ e → e < q + m → gB s.1 28 e ≤ nI i) → wpo i (q + m) s = wpo i q (lvs q m s) := by
  intro m
  induction m with
  | zero => intro s _; rfl
  | succ m ih =>
    intro s h
    show (if gB s.1 28 (q + m) ≤ nI i then wpo i (q + m) (lea s (q + m)) else s) = wpo i q (lvs q m (lea s (q + m)))
    rw [if_pos (h _ (by omega) (by omega))]
    exact ih _ (fun e h1 h2 => by rw [lea_B (by decide) (by decide)]; exact h e h1 (by omega))
theorem wpo_st {i q : Nat} {s : FS} (h : nI i < gB s.1 28 q) : wpo i (q + 1) s = s := if_neg (Int32.not_le.mpr h)
def LZ (A : FD) (r0 : RS) (F0 : FI) (d0 : Int32) (s : FS) (i q : Nat) (ws : WS) : Prop := ∃ m, gF s.1 27 = nI (q + m) ∧ q + m ≤ 101 ∧ (∀ e, q ≤ e → e < q + m → gB s.1 28 e ≤ nI i) ∧ okf s ∧ RX A r0 F0 d0 ws (lvs q m s)
/-! any item -/
def OKX (q k : Nat) (s s' : FS) : Prop := okf s' ∧ s'.2 ≤ s.2 + k ∧ UX q s s'
theorem OKX_tr {q k k' : Nat} {s s' s'' : FS} (h : OKX q k s s') (h' : OKX q k' s' s'') : OKX q (k + k') s s'' := ⟨h'.1, by have := h.2.1; have := h'.2.1; omega, UX_tr h.2.2 h'.2.2⟩
theorem OKX_gt {q : Nat} {s : FS} (h : okf s) (x y : Int32) (a b : Nat) : OKX q 10 s (gt s x y a b) := ⟨gt_ok h _ _ _ _, (gt_le s x y a b).2, UX_gt q s x y a b⟩
theorem OKX_bx {s : FS} (h : okf s) (Q i : Nat) : OKX Q 1 s (wbx s Q i) := by
  have hXF := kck_F Q 18 8 s.1 0
  refine ⟨?_, ?_, UX_bx s Q i⟩
  · unfold wbx
    generalize kck Q 8 s.1 0 = X at hXF ⊢
    refine wp_ok (s := (wbx1 (wbx0 X Q i) Q, s.2)) ?_ 141 1
    show gF (wbx1 (wbx0 X Q i) Q) 18 = nI s.2
    unfold wbx1 wbx0
    rw [sF_ne _ _ (by decide), sF_ne _ _ (by decide), w1_FF, hXF]
    exact h
  · exact Nat.le_refl _
theorem UX_chw (q : Nat) (s : FS) (f : Nat) (c : Int32) : UX q s (chw s f c) := by
  have h1 : UX q s (chw1 s f) := by
    unfold chw1
    split
    · exact UX_tr (s' := (w1 s.1 15 f 1, s.2)) (UX_of (fun _ _ _ _ _ => rfl) rfl (fun k a _ => w1_B _ _ _ a) rfl) (UX_wpl q _ _)
    · exact UX_rf q s
  have h2 : ∀ s, UX q s (chw2 s f) := fun s => by
    unfold chw2
    split
    · exact UX_rf q s
    · refine UX_tr (UX_wp q s (nI (171 + f)) 1) ?_
      exact UX_of (fun k _ _ a _ => sF_ne _ _ a) rfl (fun _ _ _ => rfl) rfl
  have h3 : ∀ s, UX q s (chw3 s c) := fun s => by
    unfold chw3
    split
    · exact UX_rf q s
    · exact UX_wp q s 128 1
  exact UX_tr h1 (UX_tr (h2 _) (UX_tr (h3 _) (UX_wp q _ c 1)))
theorem OKX_p {q : Nat} {s : FS} (h : okf s) (z : Int64) (w : Int32) : OKX q 0 s (w1 (szd s.1 z) 31 0 w, s.2) := ⟨(szd_F s.1 z (by decide)).trans h, Nat.le_refl _, UX_of (fun k _ _ _ a => szd_F s.1 z a) rfl (fun k _ a => w1_B _ _ _ a) rfl⟩
theorem OKX_ch {q : Nat} {s : FS} (h : okf s) (i : Nat) : OKX q 21 s (wch s i) := by
  have h1 : OKX q 21 s (chw s (gB s.1 5 i).toNatClampNeg (gB s.1 6 i)) := by
    generalize (gB s.1 5 i).toNatClampNeg = f
    generalize gB s.1 6 i = c
    have k1 := chw1_ok h f
    have k2 := chw2_ok k1.1 f
    have k3 := chw3_ok k2.1 c
    refine ⟨wp_ok k3.1 c 1, ?_, UX_chw q s f c⟩
    show (chw3 (chw2 (chw1 s f) f) c).2 + 1 ≤ _
    omega
  exact OKX_tr h1 (OKX_p h1.1 _ _)
theorem OKX_ru {q : Nat} {s : FS} (h : okf s) (i bx b a c : Nat) : OKX q 19 s (wru s i bx b a c) := by
  unfold wru
  generalize acr s.1 bx = A
  generalize rsel s.1 2 i bx = w
  generalize rsel s.1 3 i bx + rsel s.1 4 i bx = e
  generalize gB s.1 25 (i - b) = x
  generalize gB s.1 26 (i - b) = y
  unfold wr3
  split
  · have h1 : OKX q 19 s (wr1 s A w e x y a c) := by
      unfold wr1
      have hg := OKX_gt (q := q) h x y a c
      exact OKX_tr (k' := 9) hg ⟨wpl_ok hg.1 _, Nat.le_of_eq (wpl_2 _ _), UX_wpl q _ _⟩
    unfold wr2
    split
    · exact h1
    · exact OKX_tr h1 (OKX_p h1.1 _ _)
  · exact ⟨h, Nat.le_add_right _ _, UX_rf q s⟩
theorem wch_27 (s : FS) (i : Nat) : gF (wch s i).1 27 = gF s.1 27 := by
  unfold wch wch1
  show gF (w1 _ 31 0 _) 27 = _
  rw [w1_FF, szd_F _ _ (by decide)]
  generalize (gB s.1 5 i).toNatClampNeg = f
  generalize gB s.1 6 i = c
  unfold chw
  refine (wrt_F (by decide) _ _ _ _).trans ?_
  have h3 : ∀ s : FS, gF (chw3 s c).1 27 = gF s.1 27 := fun s => by
    unfold chw3
    split
    · rfl
    · exact wrt_F (by decide) _ _ _ _
  have h2 : ∀ s : FS, gF (chw2 s f).1 27 = gF s.1 27 := fun s => by
    unfold chw2
    split
    · rfl
    · show gF (sF _ 32 _) 27 = _
      rw [sF_ne _ _ (by decide)]
      exact wrt_F (by decide) _ _ _ _
  rw [h3, h2]
  unfold chw1
  split
  · rw [wpl_F (by decide)]; rfl
  · rfl
theorem wru_27 (s : FS) (i bx b a c : Nat) : gF (wru s i bx b a c).1 27 = gF s.1 27 := by
  unfold wru
  generalize acr s.1 bx = A
  generalize rsel s.1 2 i bx = w
  generalize rsel s.1 3 i bx + rsel s.1 4 i bx = e
  generalize gB s.1 25 (i - b) = x
  generalize gB s.1 26 (i - b) = y
  have h1 : gF (wr1 s A w e x y a c).1 27 = gF s.1 27 := by
    unfold wr1
    rw [wpl_F (by decide)]
    exact gt_F (by decide) (by decide) _ _ _ _ _
  unfold wr3
  split
  · unfold wr2
    split
    · exact h1
    · show gF (w1 _ 31 0 _) 27 = _
      rw [w1_FF, szd_F _ _ (by decide)]
      exact h1
  · rfl
theorem wch_33 {s : FS} (h : gF s.1 33 = 0) (i : Nat) : gF (wch s i).1 33 = 0 := by
  unfold wch wch1
  show gF (w1 _ 31 0 _) 33 = 0
  rw [w1_FF, szd_33, if_neg]
  intro z
  refine z.1 ?_
  generalize (gB s.1 5 i).toNatClampNeg = f
  generalize gB s.1 6 i = c
  unfold chw
  refine (wrt_F (by decide) _ _ _ _).trans ?_
  have h3 : ∀ s : FS, gF (chw3 s c).1 33 = gF s.1 33 := fun s => by
    unfold chw3
    split
    · rfl
    · exact wrt_F (by decide) _ _ _ _
  have h2 : ∀ s : FS, gF (chw2 s f).1 33 = gF s.1 33 := fun s => by
    unfold chw2
    split
    · rfl
    · show gF (sF _ 32 _) 33 = _
      rw [sF_ne _ _ (by decide)]
      exact wrt_F (by decide) _ _ _ _
  rw [h3, h2]
  unfold chw1
  split
  · rw [wpl_F (by decide)]; exact h
  · exact h
/-! the box around a rule -/
theorem bxo_e {r : RS} {b i bx : Nat} (hb : b ≤ bx) (h1 : nst1 r i bx = 1) : ∀ k, nstc r (bx + 1) i k = 0 → bxo r b i (bx - b + 1 + k) = bx := by
  intro k
  induction k with
  | zero =>
    intro _
    show (if nst1 r i (b + (bx - b)) = 1 then b + (bx - b) else _) = bx
    rw [show b + (bx - b) = bx by omega, if_pos h1]
  | succ k ih =>
    intro h
    have h : nstc r (bx + 1) i k + nst1 r i (bx + 1 + k) = 0 := h
    show (if nst1 r i (b + (bx - b + 1 + k)) = 1 then _ else bxo r b i (bx - b + 1 + k)) = bx
    rw [show b + (bx - b + 1 + k) = bx + 1 + k by omega, if_neg (by omega)]
    exact ih (by omega)
/-! how much is written -/
theorem mvW_sum {ws w1 : WS} {x y : Int32} (h : mvW ws x y = some w1) : wsum w1.2.2.2.2.2 ≤ wsum ws.2.2.2.2.2 + 10 ∧ w1.2.2.2.2.1 = ws.2.2.2.2.1 := by
  obtain ⟨-, -, rfl⟩ := mvW_some h
  have h1 := (goL_b 147 x ws.1).1
  have h2 := (goL_b 161 y ws.2.1).1
  refine ⟨?_, rfl⟩
  show wsum (ws.2.2.2.2.2 ++ (goL 147 x ws.1 ++ goL 161 y ws.2.1)) ≤ _
  rw [wsum_app, wsum_app]
  omega
theorem chW_sum (A : FD) (ws : WS) (I : Nat → Int32) (m : Nat) : wsum (chW A ws I m).2.2.2.2.2 ≤ wsum ws.2.2.2.2.2 + 20 := by
  show wsum (ws.2.2.2.2.2 ++ chL A ws I m) ≤ _
  rw [wsum_app]
  unfold chL
  rw [wsum_app, wsum_app]
  have h3 := (wl3_b I).1
  have h1 : wsum (if fus ws.2.2.2.1 (I 4) = 0 then ftL A m else []) ≤ 17 := by
    split
    · rw [(ftL_b A m).1]; exact Nat.le_refl _
    · exact Nat.zero_le _
  have h2 : wsum (if I 4 = ws.2.2.1 then [] else [(171 + I 4, 1)]) ≤ 1 := by
    split
    · exact Nat.zero_le _
    · exact Nat.le_refl _
  omega
theorem ruW_sum (F : Nat → Int32) (ws : WS) (I : Nat → Int32) : wsum (ruW F ws I).2.2.2.2.2 = wsum ws.2.2.2.2.2 + 9 := by
  show wsum (ws.2.2.2.2.2 ++ ruL F I) = _
  rw [wsum_app]
  rfl
/-! the loop -/
theorem wal_0 {b : Nat} {s : FS} (h : gF s.1 33 = 0) (m i : Nat) : wal b m i s = s := by
  cases m with
  | zero => rfl
  | succ m => exact if_pos h
theorem wal_s {b m i : Nat} {s : FS} (h : ¬ gF s.1 33 = 0) : wal b (m + 1) i s = wal b m (i + 1) (wan b s i) := if_neg h
theorem wal_add (b m2 : Nat) : ∀ (m1 i : Nat) (s : FS), wal b (m1 + m2) i s = wal b m2 (i + m1) (wal b m1 i s) := by
  intro m1
  induction m1 with
  | zero => intro i s; rw [Nat.zero_add]; rfl
  | succ m1 ih =>
    intro i s
    by_cases h : gF s.1 33 = 0
    · rw [wal_0 h, wal_0 h, wal_0 h]
    · rw [show m1 + 1 + m2 = m1 + m2 + 1 by omega, wal_s h, wal_s h, ih, show i + 1 + m1 = i + (m1 + 1) by omega]
def waE (s : FS) : Prop := gF s.1 27 = nI (opq s.1) ∧ opq s.1 ≤ 101 ∧ okf s ∧ s.2 + 200 ≤ 320000
theorem waE_of {s : FS} {Q : Nat} (h1 : gF s.1 27 = nI Q) (h2 : Q ≤ 101) (h3 : okf s) (h4 : s.2 + 200 ≤ 320000) : waE s := by
  have e : opq s.1 = Q := by unfold opq; rw [h1, nI_clamp (by omega)]
  exact ⟨by rw [e]; exact h1, by rw [e]; exact h2, h3, h4⟩
theorem waok_0 {b : Nat} {s : FS} (h : gF s.1 33 = 0) (hE : waE s) (m i : Nat) : waok b m i s := by
  cases m with
  | zero => exact hE
  | succ m => exact Or.inl ⟨h, hE⟩
theorem waok_add {b m2 : Nat} : ∀ {m1 i : Nat} {s : FS}, waok b m1 i s → waok b m2 (i + m1) (wal b m1 i s) → waok b (m1 + m2) i s := by
  intro m1
  induction m1 with
  | zero => intro i s _ h; rw [Nat.zero_add]; exact h
  | succ m1 ih =>
    intro i s h h'
    rw [show m1 + 1 + m2 = m1 + m2 + 1 by omega]
    rcases h with h | h
    · exact Or.inl h
    · by_cases h0 : gF s.1 33 = 0
      · exact Or.inl ⟨h0, h.1.1, h.1.2.1, h.1.2.2.1, h.1.2.2.2.1⟩
      · rw [wal_s h0, show i + (m1 + 1) = i + 1 + m1 by omega] at h'
        exact Or.inr ⟨h.1, ih h.2 h'⟩
