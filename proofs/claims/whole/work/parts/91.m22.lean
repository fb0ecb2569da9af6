/-! a move, in both -/
def NWt (f : Nat → Int32) (sd : Nat) (t : TR) : Prop := f sd = t.1 ∧ f (2 + 2 * sd) = t.2.1 ∧ f (2 + 2 * sd + 1) = t.2.2.1 ∧ f (6 + sd) = bI t.2.2.2 ∧ (t.2.1 = t.2.2.1 → t.2.1 = 0)
theorem bwr_lo : ∀ (c : Nat) {f : Nat → Int32} {n : Nat} {v : Int32} {k : Nat}, k < n → bwr c f n v k = f k := by
  intro c
  induction c with
  | zero => intro f n v k _; rfl
  | succ c ih =>
    intro f n v k hk
    show bwr c (upd f n (byt v c)) (n + 1) v k = f k
    rw [ih (by omega)]
    exact if_neg (by omega)
theorem wrt_lo (c : Nat) (r : RS) {n : Nat} (v : Int32) {k : Nat} (hk : k < n) : gB (wrt c r n v) 17 k = gB r 17 k := by rw [wrt_17]; exact bwr_lo c hk
def UX (q : Nat) (s s' : FS) : Prop := (∀ k, k ≠ 18 → k ≠ 24 → k ≠ 27 → k ≠ 32 → k ≠ 33 → gF s'.1 k = gF s.1 k) ∧ s'.1.2.1 = s.1.2.1 ∧ (∀ k, k ≠ 15 → k ≠ 17 → k ≠ 28 → k ≠ 30 → k ≠ 31 → gB s'.1 k = gB s.1 k) ∧ (s.2 ≤ s'.2 ∧ ∀ k, k < s.2 → gB s'.1 17 k = gB s.1 17 k) ∧ (∀ e, e < q → gB s'.1 28 e = gB s.1 28 e ∧ ∀ j, j < 8 → gB s'.1 30 (8 * e + j) = gB s.1 30 (8 * e + j))
theorem UX_rf (q : Nat) (s : FS) : UX q s s := ⟨fun _ _ _ _ _ _ => rfl, rfl, fun _ _ _ _ _ _ => rfl, ⟨Nat.le_refl _, fun _ _ => rfl⟩, fun _ _ => ⟨rfl, fun _ _ => rfl⟩⟩
theorem UX_tr {q : Nat} {s s' s'' : FS} (h : UX q s s') (h' : UX q s' s'') : UX q s s'' := by
  obtain ⟨a1, a2, a3, a4, a5⟩ := h
  obtain ⟨b1, b2, b3, b4, b5⟩ := h'
  exact ⟨fun k x y z w v => (b1 k x y z w v).trans (a1 k x y z w v), b2.trans a2, fun k x y z w v => (b3 k x y z w v).trans (a3 k x y z w v), ⟨Nat.le_trans a4.1 b4.1, fun k hk => (b4.2 k (Nat.lt_of_lt_of_le hk a4.1)).trans (a4.2 k hk)⟩, fun e he => ⟨(b5 e he).1.trans (a5 e he).1, fun j hj => ((b5 e he).2 j hj).trans ((a5 e he).2 j hj)⟩⟩
theorem UX_le {q q' : Nat} {s s' : FS} (h : UX q s s') (hq : q' ≤ q) : UX q' s s' := ⟨h.1, h.2.1, h.2.2.1, h.2.2.2.1, fun e he => h.2.2.2.2 e (by omega)⟩
theorem UX_wp (q : Nat) (s : FS) (v : Int32) (c : Nat) : UX q s (wp s v c) := by
  refine ⟨fun k h1 _ _ _ _ => wrt_F h1 _ _ _ _, wrt_T _ _ _ _, fun k _ h2 _ _ _ => wrt_B h2 _ _ _ _, ⟨Nat.le_add_right _ _, fun k hk => wrt_lo c s.1 v hk⟩, fun e _ => ⟨?_, fun j _ => ?_⟩⟩
  · show gB (wrt c s.1 s.2 v) 28 e = _; rw [wrt_B (by decide)]
  · show gB (wrt c s.1 s.2 v) 30 _ = _; rw [wrt_B (by decide)]
theorem UX_wpl (q : Nat) : ∀ (L : List (Int32 × Nat)) (s : FS), UX q s (wpl s L) := by
  intro L
  induction L with
  | nil => intro s; exact UX_rf q s
  | cons p L ih => intro s; exact UX_tr (UX_wp q s p.1 p.2) (ih _)
/-- what neither reads -/
theorem UX_of {q : Nat} {s s' : FS} (h1 : ∀ k, k ≠ 24 → k ≠ 27 → k ≠ 32 → k ≠ 33 → gF s'.1 k = gF s.1 k) (h2 : s'.1.2.1 = s.1.2.1) (h3 : ∀ k, k ≠ 15 → k ≠ 31 → gB s'.1 k = gB s.1 k) (h4 : s'.2 = s.2) : UX q s s' := ⟨fun k _ a b c d => h1 k a b c d, h2, fun k a _ _ _ b => h3 k a b, ⟨by rw [h4]; exact Nat.le_refl _, fun k _ => by rw [h3 17 (by decide) (by decide)]⟩, fun e _ => ⟨by rw [h3 28 (by decide) (by decide)], fun j _ => by rw [h3 30 (by decide) (by decide)]⟩⟩
theorem c32_lt {x : Int32} {m : Int64} (h : x.toInt64 = m) {a : Int32} {b : Int64} (hab : a.toInt64 = b) : (x < a ↔ m < b) ∧ (a ≤ x ↔ b ≤ m) := by
  rw [Int32.lt_iff_toInt_lt, Int64.lt_iff_toInt_lt, Int32.le_iff_toInt_le, Int64.le_iff_toInt_le, ← h, ← hab, Int32.toInt_toInt64, Int32.toInt_toInt64]
  exact ⟨Iff.rfl, Iff.rfl⟩
theorem nby_e {m : Int64} (h : ¬ iszl m = 0) : nby m.toInt32 = nbl m := by
  have e := (l2i_sz h).2
  unfold nby nbl
  simp only [(c32_lt e (show (-128 : Int32).toInt64 = -128 by decide)).1, (c32_lt e (show (128 : Int32).toInt64 = 128 by decide)).2, (c32_lt e (show (-32768 : Int32).toInt64 = -32768 by decide)).1, (c32_lt e (show (32768 : Int32).toInt64 = 32768 by decide)).2, (c32_lt e (show (-8388608 : Int32).toInt64 = -8388608 by decide)).1, (c32_lt e (show (8388608 : Int32).toInt64 = 8388608 by decide)).2]
section go
variable {s : FS} {sd : Nat} {x : Int32} {t : TR} {wh : Nat}
abbrev gW (s : FS) (sd : Nat) : Nat := (gB s.1 31 (6 + sd)).toNatClampNeg
theorem gW_e (hN : NWt (gB s.1 31) sd t) : gW s sd = if t.2.2.2 = true then 1 else 0 := by
  unfold gW
  rw [hN.2.2.2.1]
  unfold bI
  split <;> rfl
theorem gom_e (hN : NWt (gB s.1 31) sd t) : gom s.1 sd x = gmv x t := by unfold gom gmv; rw [hN.1]
theorem gow_e (hN : NWt (gB s.1 31) sd t) (_hm : ¬ gmv x t = 0) : gow s.1 sd x (gW s sd) = if gIs (gmv x t) t then 1 else 0 := by
  unfold gow
  rw [gom_e hN, hN.2.1, hN.2.2.1, gW_e hN]
  by_cases h1 : t.2.1.toInt64 = gmv x t
  · rw [if_pos h1, if_neg]
    exact fun h2 => h2.1 h1.symm
  · rw [if_neg h1]
    have n1 : ¬ gmv x t = t.2.1.toInt64 := fun z => h1 z.symm
    by_cases h2 : t.2.2.1.toInt64 = gmv x t
    · rw [if_pos h2, if_pos ⟨n1, Or.inl h2.symm⟩]
    · rw [if_neg h2]
      by_cases h3 : t.2.2.2 = true
      · rw [if_pos h3, if_pos ⟨n1, Or.inr (by unfold bI; rw [if_pos h3]; decide)⟩]
      · rw [if_neg h3, if_neg]
        rintro ⟨_, h4 | h4⟩
        · exact h2 h4.symm
        · refine h4 ?_
          unfold bI
          rw [if_neg h3]
theorem UX_gp (q : Nat) (s : FS) (sd : Nat) (x : Int32) (wh : Nat) : UX q s (gp s sd x wh) := by
  have hT : (gor s.1 s.2 sd x wh).2.1 = s.1.2.1 := by
    unfold gor
    split
    · rfl
    · show (gos _ _ _ _ _ _).2.1 = _
      unfold gos
      split
      · exact wrt_T _ _ _ _
      · exact (wrt_T _ _ _ _).trans (wrt_T _ _ _ _)
  refine ⟨fun k h1 _ _ _ h5 => gor_F h1 h5 _ _ _ _ _, hT, fun k _ h2 _ _ h5 => gor_B h2 h5 _ _ _ _ _, ⟨(gon_le _ _ _ _ _).1, fun k hk => ?_⟩, fun e _ => ⟨?_, fun j _ => ?_⟩⟩
  · show gB (gor s.1 s.2 sd x wh) 17 k = _
    unfold gor
    split
    · rfl
    · unfold goe
      rw [w1_B _ _ _ (by decide), w1_B _ _ _ (by decide)]
      unfold gos
      split
      · exact wrt_lo _ _ _ hk
      · rw [w1_B _ _ _ (by decide), wrt_lo _ _ _ (by omega), wrt_lo _ _ _ hk]
        rfl
  · show gB (gor s.1 s.2 sd x wh) 28 e = _; rw [gor_B (by decide) (by decide)]
  · show gB (gor s.1 s.2 sd x wh) 30 _ = _; rw [gor_B (by decide) (by decide)]
theorem gow_1 (r : RS) (sd : Nat) (x : Int32) {wh : Nat} (hw : wh ≤ 1) : gow r sd x wh ≤ 1 := by
  unfold gow
  split
  · omega
  · split <;> omega
theorem gp_un (s : FS) (sd : Nat) (x : Int32) {wh : Nat} (hw : wh ≤ 1) {j : Nat} (h1 : j ≠ sd) (h2 : j ≠ 2 + 2 * sd) (h3 : j ≠ 2 + 2 * sd + 1) (h4 : j ≠ 6 + sd) : gB (gp s sd x wh).1 31 j = gB s.1 31 j := by
  have hg := gow_1 s.1 sd x hw
  show gB (gor s.1 s.2 sd x wh) 31 j = _
  unfold gor
  split
  · rfl
  · unfold goe
    rw [w1_BB, if_neg (by omega), w1_BB, if_neg (by omega)]
    unfold gos
    split
    · rw [wrt_B (by decide)]; rfl
    · rw [w1_BB, if_neg (by omega), wrt_B (by decide), wrt_B (by decide)]; rfl
theorem gp_bad (hN : NWt (gB s.1 31) sd t) (h : goA x t = 0) : gF (gp s sd x wh).1 33 = 0 := by
  unfold goA at h
  have hm : ¬ gmv x t = 0 := fun z => by rw [if_pos z] at h; exact absurd h (by decide)
  rw [if_neg hm] at h
  have hz : iszl (gmv x t) = 0 := Classical.byContradiction fun z => by rw [if_neg z] at h; exact absurd h (by decide)
  have e0 : gF (szd s.1 (gmv x t)) 33 = 0 := by rw [szd_33, if_neg (fun z => z.2 hz)]
  show gF (gor s.1 s.2 sd x wh) 33 = 0
  unfold gor
  rw [gom_e hN, if_pos (Or.inr e0)]
  exact e0
/-- once bad, always bad -/
theorem gp_33 (s : FS) (sd : Nat) (x : Int32) (wh : Nat) (h : gF s.1 33 = 0) : gF (gp s sd x wh).1 33 = 0 := by
  have e0 : gF (szd s.1 (gom s.1 sd x)) 33 = 0 := by rw [szd_33, if_neg (fun z => z.1 h)]
  show gF (gor s.1 s.2 sd x wh) 33 = 0
  unfold gor
  rw [if_pos (Or.inr e0)]
  exact e0
theorem gcm_e (hw : gow s.1 sd x wh = if gIs (gmv x t) t then 1 else 0) : gcm (nI (gop sd)) (gmv x t) t = nI (gop sd + 5 * gow s.1 sd x wh + gby (gmv x t) t) := by
  unfold gcm
  rw [hw]
  by_cases h : gIs (gmv x t) t
  · rw [if_pos h, if_pos h, show (5 : Int32) = nI 5 from rfl, nI_add, nI_add]
  · rw [if_neg h, if_neg h, nI_add]
    congr 1
theorem gp_good {F : FI} (hN : NWt (gB s.1 31) sd t) (hsd : sd ≤ 1) (hg : ¬ gF s.1 33 = 0) (hF : FXL F s) (hn : F.1 + 5 ≤ 500000) (h : ¬ goA x t = 0) : ¬ gF (gp s sd x (gW s sd)).1 33 = 0 ∧ FXL (fwr F (goL (nI (gop sd)) x t)) (gp s sd x (gW s sd)) ∧ NWt (gB (gp s sd x (gW s sd)).1 31) sd (goT x t) := by
  unfold goA at h
  unfold goL goT
  by_cases hm : gmv x t = 0
  · rw [if_pos hm, if_pos hm]
    have e : gp s sd x (gW s sd) = (szd s.1 (gmv x t), s.2) := by
      unfold gp gor gon
      rw [gom_e hN, if_pos (Or.inl hm), if_pos (Or.inl hm)]
    rw [e]
    refine ⟨?_, FX_cg hF rfl (szd_F _ _ (by decide)) rfl, hN⟩
    rw [szd_33, i01, hm]
    exact ⟨hg, by decide⟩
  · rw [if_neg hm] at h ⊢
    have hz : ¬ iszl (gmv x t) = 0 := fun z => by rw [if_pos z] at h; exact h rfl
    rw [if_neg hm, if_neg hz, if_neg hz]
    have e0 : ¬ gF (szd s.1 (gmv x t)) 33 = 0 := by rw [szd_33, i01]; exact ⟨hg, hz⟩
    have hw := gow_e hN hm
    have hcm := gcm_e (s := s) (sd := sd) (wh := gW s sd) hw
    have hk : gB s.1 31 (2 + 2 * sd + gow s.1 sd x (gW s sd)) = gkp (gmv x t) t := by
      rw [hw]
      unfold gkp
      by_cases hi : gIs (gmv x t) t
      · rw [if_pos hi, if_pos hi]; exact hN.2.2.1
      · rw [if_neg hi, if_neg hi]; exact hN.2.1
    have hns : ¬ (gom s.1 sd x = 0 ∨ gF (szd s.1 (gom s.1 sd x)) 33 = 0) := by rw [gom_e hN]; exact fun z => z.elim hm e0
    have hw1 : gow s.1 sd x (gW s sd) ≤ 1 := by rw [hw]; split <;> omega
    -- the array
    have hA : ∀ j, gB (gp s sd x (gW s sd)).1 31 j = if j = sd then x else if j = 6 + sd then nI (1 - gow s.1 sd x (gW s sd)) else if j = 2 + 2 * sd + gow s.1 sd x (gW s sd) then (gmv x t).toInt32 else gB s.1 31 j := fun j => by
      show gB (gor s.1 s.2 sd x (gW s sd)) 31 j = _
      unfold gor
      rw [if_neg hns]
      unfold goe
      rw [w1_BB, w1_BB]
      by_cases j1 : j = sd
      · rw [if_pos ⟨rfl, j1⟩, if_pos j1]
      · rw [if_neg (fun z => j1 z.2), if_neg j1]
        by_cases j2 : j = 6 + sd
        · rw [if_pos ⟨rfl, j2⟩, if_pos j2]
        · rw [if_neg (fun z => j2 z.2), if_neg j2]
          unfold gos
          rw [gom_e hN]
          by_cases hc : (gB (szd s.1 (gmv x t)) 31 (2 + 2 * sd + gow s.1 sd x (gW s sd))).toInt64 = gmv x t
          · rw [if_pos hc, wrt_B (by decide)]
            by_cases j3 : j = 2 + 2 * sd + gow s.1 sd x (gW s sd)
            · rw [szd_B] at hc
              rw [if_pos j3, szd_B, j3, ← hc, Int32.toInt32_toInt64]
            · rw [if_neg j3]; rfl
          · rw [if_neg hc, w1_BB]
            by_cases j3 : j = 2 + 2 * sd + gow s.1 sd x (gW s sd)
            · rw [if_pos ⟨rfl, j3⟩, if_pos j3]
            · rw [if_neg (fun z => j3 z.2), if_neg j3, wrt_B (by decide), wrt_B (by decide)]; rfl
    refine ⟨?_, ?_, ?_⟩
    · show ¬ gF (gor s.1 s.2 sd x (gW s sd)) 33 = 0
      unfold gor
      rw [if_neg hns, gom_e hN]
      show ¬ gF (gos _ _ _ _ _ _) 33 = 0
      unfold gos
      split
      · rw [wrt_F (by decide)]; exact e0
      · rw [w1_FF, wrt_F (by decide), wrt_F (by decide)]; exact e0
    · show FXL (fadd (fadd F (gcm (nI (gop sd)) (gmv x t) t) 1) (gmv x t).toInt32 (gby (gmv x t) t)) _
      rw [hcm]
      by_cases hc : (gB s.1 31 (2 + 2 * sd + gow s.1 sd x (gW s sd))).toInt64 = gmv x t
      · have hb : gby (gmv x t) t = 0 := by unfold gby; rw [← hk, hc]; exact if_pos rfl
        rw [hb, fadd_0]
        have h1 := FX_wp (F := F) (s := (szd s.1 (gmv x t), s.2)) (FX_cg hF rfl (szd_F _ _ (by decide)) rfl) (nI (gop sd + 5 * gow s.1 sd x (gW s sd))) (c := 1) (by omega) (by decide)
        refine FX_cg h1 ?_ ?_ ?_
        · show gB (gor s.1 s.2 sd x (gW s sd)) 17 = _
          unfold gor goe gos
          rw [if_neg hns, gom_e hN, w1_B _ _ _ (by decide), w1_B _ _ _ (by decide), szd_B, if_pos hc]
          rfl
        · show gF (gor s.1 s.2 sd x (gW s sd)) 18 = _
          unfold gor goe gos
          rw [if_neg hns, gom_e hN, w1_FF, w1_FF, szd_B, if_pos hc]
          rfl
        · show gon s.1 s.2 sd x (gW s sd) = _
          unfold gon
          rw [if_neg hns, gom_e hN, if_pos hc]
          rfl
      · have hb : gby (gmv x t) t = nbl (gmv x t) := by unfold gby; rw [← hk]; exact if_neg (fun z => hc z.symm)
        have hb4 := nbl_4 (gmv x t)
        rw [hb]
        have h1 := FX_wp (F := F) (s := (szd s.1 (gmv x t), s.2)) (FX_cg hF rfl (szd_F _ _ (by decide)) rfl) (nI (gop sd + 5 * gow s.1 sd x (gW s sd) + nbl (gmv x t))) (c := 1) (by omega) (by decide)
        have h2 := FX_wp h1 (gmv x t).toInt32 (c := nbl (gmv x t)) (by show F.1 + 1 + _ ≤ _; omega) hb4
        refine FX_cg h2 ?_ ?_ ?_
        · show gB (gor s.1 s.2 sd x (gW s sd)) 17 = _
          unfold gor goe gos
          rw [if_neg hns, gom_e hN, w1_B _ _ _ (by decide), w1_B _ _ _ (by decide), szd_B, if_neg hc, w1_B _ _ _ (by decide), nby_e hz]
          rfl
        · show gF (gor s.1 s.2 sd x (gW s sd)) 18 = _
          unfold gor goe gos
          rw [if_neg hns, gom_e hN, w1_FF, w1_FF, szd_B, if_neg hc, w1_FF, nby_e hz]
          rfl
        · show gon s.1 s.2 sd x (gW s sd) = _
          unfold gon
          rw [if_neg hns, gom_e hN, if_neg hc, nby_e hz]
          rfl
    · have hsp : (gmv x t).toInt32.toInt64 = gmv x t := (l2i_sz hz).2
      unfold gT1
      by_cases hi : gIs (gmv x t) t
      · rw [if_pos hi] at hw ⊢
        refine ⟨by rw [hA, if_pos rfl], ?_, ?_, ?_, fun z => ?_⟩
        · rw [hA, if_neg (by omega), if_neg (by omega), if_neg (by omega)]; exact hN.2.1
        · rw [hA, if_neg (by omega), if_neg (by omega), if_pos (by omega)]
        · rw [hA, if_neg (by omega), if_pos rfl, hw]; rfl
        · have z : t.2.1 = (gmv x t).toInt32 := z
          exfalso
          have h1 : t.2.1.toInt64 = gmv x t := by rw [z]; exact hsp
          exact hi.1 h1.symm
      · rw [if_neg hi] at hw ⊢
        refine ⟨by rw [hA, if_pos rfl], ?_, ?_, ?_, fun z => ?_⟩
        · rw [hA, if_neg (by omega), if_neg (by omega), if_pos (by omega)]
        · rw [hA, if_neg (by omega), if_neg (by omega), if_neg (by omega)]; exact hN.2.2.1
        · rw [hA, if_neg (by omega), if_pos rfl, hw]; rfl
        · have z : (gmv x t).toInt32 = t.2.2.1 := z
          exfalso
          have h2 : gmv x t = t.2.2.1.toInt64 := by rw [← z]; exact hsp.symm
          have h1 : t.2.1.toInt64 = gmv x t := Classical.byContradiction fun y => hi ⟨fun y2 => y y2.symm, Or.inl h2⟩
          have h3 : t.2.1 = t.2.2.1 := t64_inj (h1.trans h2)
          rw [hN.2.2.2.2 h3] at h1
          exact hm h1.symm
end go
