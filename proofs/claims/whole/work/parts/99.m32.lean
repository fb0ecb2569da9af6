/-! finish, on both sides -/
def FNX (s : PS) (t : FS) : Prop := FXL (xF s) t ∧ USD (s.1 30) (gB t.1 15) ∧ ∀ m, m < 32 → s.2.2.1 0 m = gB t.1 13 m ∧ s.2.2.1 1 m = gB t.1 14 m
def FSm (s s' : PS) : Prop := (∀ j, j ≠ 30 → s'.1 j = s.1 j) ∧ s'.2.1 = s.2.1 ∧ s'.2.2.1 = s.2.2.1 ∧ xN s' = xN s
def FTm (t t' : FS) : Prop := (∀ j, j ≠ 18 → gF t'.1 j = gF t.1 j) ∧ t'.1.2.1 = t.1.2.1 ∧ ∀ j, j ≠ 17 → gB t'.1 j = gB t.1 j
theorem FSm_rf (s : PS) : FSm s s := ⟨fun _ _ => rfl, rfl, rfl, rfl⟩
theorem FSm_tr {a b c : PS} (h : FSm a b) (h' : FSm b c) : FSm a c := ⟨fun j hj => (h'.1 j hj).trans (h.1 j hj), h'.2.1.trans h.2.1, h'.2.2.1.trans h.2.2.1, h'.2.2.2.trans h.2.2.2⟩
theorem FTm_rf (t : FS) : FTm t t := ⟨fun _ _ => rfl, rfl, fun _ _ => rfl⟩
theorem FTm_tr {a b c : FS} (h : FTm a b) (h' : FTm b c) : FTm a c := ⟨fun j hj => (h'.1 j hj).trans (h.1 j hj), h'.2.1.trans h.2.1, fun j hj => (h'.2.2 j hj).trans (h.2.2 j hj)⟩
theorem FTm_wpl (t : FS) (L : List (Int32 × Nat)) : FTm t (wpl t L) := ⟨fun _ hj => wpl_F hj t L, wpl_T t L, fun _ hj => wpl_B hj t L⟩
theorem FSm_uF (s : PS) (F : FI) : FSm s (uF s F) := ⟨fun _ _ => rfl, rfl, rfl, rfl⟩
/-- both write the list L -/
theorem FNX_w {s : PS} {t : FS} (h : FNX s t) (L : List (Int32 × Nat)) (h4 : ∀ p ∈ L, p.2 ≤ 4) (hn : (xF s).1 + wsum L ≤ 500000) : FNX (uF s (fwr (xF s) L)) (wpl t L) := by
  refine ⟨FX_wpl L h.1 h4 hn, ?_, fun m hm => ?_⟩
  · rw [wpl_B (by decide)]; exact h.2.1
  · rw [wpl_B (by decide), wpl_B (by decide)]; exact h.2.2 m hm
theorem USD_id {u : Int32} {f : Nat → Int32} (h : USD u f) {m : Nat} (hm : m < 32) (h1 : f m = 1) : USD (u ||| 1 <<< (nI m &&& 31)) f := by
  have := USD_or h hm
  have e : upd f m 1 = f := by
    funext j
    show (if j = m then 1 else f j) = f j
    by_cases hj : j = m
    · rw [if_pos hj, hj, h1]
    · rw [if_neg hj]
  rw [e] at this
  exact this
theorem fol_R : ∀ (m : Nat) {s : PS} {t : FS}, m ≤ 32 → FNX s t → (xF s).1 + 17 * m ≤ 500000 → FNX (fol m s) (finf m t) ∧ FSm s (fol m s) ∧ FTm t (finf m t) ∧ (xF (fol m s)).1 ≤ (xF s).1 + 17 * m := by
  intro m
  induction m with
  | zero => intro s t _ h _; exact ⟨h, FSm_rf s, FTm_rf t, Nat.le_refl _⟩
  | succ m ih =>
    intro s t hm h hn
    show FNX (fol m (if fus (s.1 30) (nI m) = 0 then s else fnS s m)) (finf m (if gB t.1 15 m = 0 then t else wpl t (fonl t.1 m))) ∧ FSm s (fol m (if fus (s.1 30) (nI m) = 0 then s else fnS s m)) ∧ FTm t (finf m (if gB t.1 15 m = 0 then t else wpl t (fonl t.1 m))) ∧ (xF (fol m (if fus (s.1 30) (nI m) = 0 then s else fnS s m))).1 ≤ _
    obtain ⟨hu, h01⟩ := h.2.1 m (by omega)
    by_cases h0 : gB t.1 15 m = 0
    · rw [if_pos h0, if_pos (hu.mpr h0)]
      obtain ⟨a1, a2, a3, a4⟩ := ih (by omega) h (by omega)
      exact ⟨a1, a2, a3, by omega⟩
    · rw [if_neg h0, if_neg (fun z => h0 (hu.mp z))]
      have h1 : gB t.1 15 m = 1 := h01.resolve_left h0
      have hL : fonl t.1 m = fnL s m := by
        unfold fonl fnL fnC
        rw [(h.2.2 m (by omega)).1, (h.2.2 m (by omega)).2]
      have hb := fnL_b s m
      rw [hL]
      have hF : FNX (fnS s m) (wpl t (fnL s m)) := by
        refine ⟨FX_wpl _ h.1 hb.2 (by rw [hb.1]; omega), ?_, fun j hj => ?_⟩
        · rw [wpl_B (by decide), fnS_s]
          exact USD_id h.2.1 (by omega) h1
        · rw [wpl_B (by decide), wpl_B (by decide)]; exact h.2.2 j hj
      have hl : (xF (fnS s m)).1 = (xF s).1 + 17 := by rw [fnS_F, fwr_sum, hb.1]
      obtain ⟨a1, a2, a3, a4⟩ := ih (s := fnS s m) (t := wpl t (fnL s m)) (by omega) hF (by omega)
      exact ⟨a1, FSm_tr ⟨fun j hj => fnS_n s m hj, rfl, rfl, rfl⟩ a2, FTm_tr (FTm_wpl t _) a3, by omega⟩
theorem padn_wpl : ∀ (c : Nat) (t : FS), padn c t = wpl t (fl1 c) := by
  intro c
  induction c with
  | zero => intro t; rfl
  | succ c ih => intro t; show padn c (wp t 223 1) = wpl (wp t 223 1) (fl1 c); exact ih _
theorem fl1_b (c : Nat) : wsum (fl1 c) = c ∧ ∀ p ∈ fl1 c, p.2 ≤ 4 := by
  refine ⟨?_, fun p hp => by rw [List.eq_of_mem_replicate hp]; exact Nat.le_of_ble_eq_true rfl⟩
  induction c with
  | zero => rfl
  | succ c ih => rw [fl1_s]; show 1 + wsum (fl1 c) = _; rw [ih]; omega
theorem fhL_b (s : PS) : wsum (fhL s) = 29 ∧ ∀ p ∈ fhL s, p.2 ≤ 4 := by
  refine ⟨rfl, fun p hp => ?_⟩
  unfold fhL nums at hp
  simp only [List.mem_cons, List.mem_append, List.not_mem_nil, or_false] at hp
  rcases hp with rfl | rfl | (rfl | rfl | rfl) | rfl | rfl | rfl | rfl <;> exact Nat.le_of_ble_eq_true rfl
theorem pdc_8 (n : Nat) : pdc n ≤ 7 := by unfold pdc; omega
theorem S_finish {s : PS} {Z : MP} {r : RS} {g : Nat → List Rec} {ops : List (Int32 × List TRE)} (h : SIM s Z r g ops) (hF : FOK (xF s)) (he : s.1 11 = 0) : (xF (finX s)).1 = (fin (sF r 0 0, (xF s).1)).2 ∧ SIM (uI (finX s) 11 1) Z (sF (fin (sF r 0 0, (xF s).1)).1 19 1) g ops ∧ gF (sF (fin (sF r 0 0, (xF s).1)).1 19 1) 0 = 0 ∧ (xF (finX s)).1 ≤ 300000 ∧ FOK (xF (finX s)) := by
  obtain ⟨hC, hR, ht, h5, hS⟩ := h
  obtain ⟨hFN, hU, hFI, ⟨hs6, hs7, hs8, hs9, hs10, hs11⟩, hl31, hN1, hN31, h08, h010, h300⟩ := hS
  have hn := h300 he
  have t0 : FNX s (sF r 0 0, (xF s).1) := ⟨⟨hF, rfl, hFI⟩, hU, hFN⟩
  have hbg := bg_b (xF s).1
  have t1 := FNX_w t0 (bgL (xF s).1) hbg.2 (by omega)
  have f1 : fin1 (sF r 0 0, (xF s).1) = wpl (sF r 0 0, (xF s).1) (bgL (xF s).1) := fin1_bg _
  have m1 := FTm_wpl (sF r 0 0, (xF s).1) (bgL (xF s).1)
  have n1 := FSm_uF s (fwr (xF s) (bgL (xF s).1))
  have l1 : (xF (uF s (fwr (xF s) (bgL (xF s).1)))).1 ≤ (xF s).1 + 15 := by show (fwr _ _).1 ≤ _; rw [fwr_sum]; omega
  have p1 : (wpl (sF r 0 0, (xF s).1) (bgL (xF s).1)).2 = (fwr (xF s) (bgL (xF s).1)).1 := t1.1.2.1
  unfold finX fin
  rw [f1, p1]
  generalize uF s (fwr (xF s) (bgL (xF s).1)) = s1 at t1 n1 l1 ⊢
  generalize wpl (sF r 0 0, (xF s).1) (bgL (xF s).1) = v1 at t1 m1 ⊢
  generalize (fwr (xF s) (bgL (xF s).1)).1 = pl
  have hv : ∀ j, j ≠ 0 → j ≠ 18 → gF v1.1 j = gF r j := fun j a b => (m1.1 j b).trans (sF_ne _ _ a)
  have hvT : v1.1.2.1 = r.2.1 := m1.2.1
  have hL : fin2 v1 = wpl v1 (fhL s1) := by
    unfold fin2 fhL nums
    rw [hv 21 (by decide) (by decide), hv 23 (by decide) (by decide), hv 24 (by decide) (by decide), hv 20 (by decide) (by decide), hvT, n1.1 6 (by decide), n1.1 7 (by decide), n1.1 8 (by decide), n1.1 9 (by decide), n1.1 10 (by decide), hs6, hs7, hs9, hs10, ← hs8, Int32.toInt32_toInt64]
    rfl
  have hfb := fhL_b s1
  have t2 := FNX_w t1 (fhL s1) hfb.2 (by rw [hfb.1]; omega)
  have m2 := FTm_wpl v1 (fhL s1)
  have n2 := FSm_uF s1 (fwr (xF s1) (fhL s1))
  have l2 : (xF (uF s1 (fwr (xF s1) (fhL s1)))).1 ≤ (xF s1).1 + 29 := by show (fwr _ _).1 ≤ _; rw [fwr_sum, hfb.1]; exact Nat.le_refl _
  unfold finY finz
  rw [hL]
  generalize uF s1 (fwr (xF s1) (fhL s1)) = s2 at t2 n2 l2 ⊢
  generalize wpl v1 (fhL s1) = v2 at t2 m2 ⊢
  obtain ⟨t3, n3, m3, l3⟩ := fol_R 32 (Nat.le_refl _) t2 (by omega)
  generalize fol 32 s2 = s3 at t3 n3 l3 ⊢
  generalize finf 32 v2 = v3 at t3 m3 ⊢
  have h3b : wsum [((249 : Int32), 1), (nI pl, 4), (2, 1)] = 6 ∧ ∀ p ∈ [((249 : Int32), 1), (nI pl, 4), (2, 1)], p.2 ≤ 4 := by
    refine ⟨rfl, fun p hp => ?_⟩
    simp only [List.mem_cons, List.not_mem_nil, or_false] at hp
    rcases hp with rfl | rfl | rfl <;> exact Nat.le_of_ble_eq_true rfl
  have t4 := FNX_w t3 _ h3b.2 (by rw [h3b.1]; omega)
  have m4 := FTm_wpl v3 [((249 : Int32), 1), (nI pl, 4), (2, 1)]
  have n4 := FSm_uF s3 (fwr (xF s3) [((249 : Int32), 1), (nI pl, 4), (2, 1)])
  have l4 : (xF (uF s3 (fwr (xF s3) [((249 : Int32), 1), (nI pl, 4), (2, 1)]))).1 ≤ (xF s3).1 + 6 := by show (fwr _ _).1 ≤ _; rw [fwr_sum, h3b.1]; exact Nat.le_refl _
  unfold fiZ fiT fin3
  generalize uF s3 (fwr (xF s3) [((249 : Int32), 1), (nI pl, 4), (2, 1)]) = s4 at t4 n4 l4 ⊢
  generalize wpl v3 [((249 : Int32), 1), (nI pl, 4), (2, 1)] = v4 at t4 m4 ⊢
  have e4 : v4.2 = (xF s4).1 := t4.1.2.1
  have h5b := fl1_b (pdc (xF s4).1)
  have h58 := pdc_8 (xF s4).1
  unfold fiP
  rw [padn_wpl, e4]
  have t5 := FNX_w t4 (fl1 (pdc (xF s4).1)) h5b.2 (by rw [h5b.1]; omega)
  have m5 := FTm_wpl v4 (fl1 (pdc (xF s4).1))
  have n5 := FSm_uF s4 (fwr (xF s4) (fl1 (pdc (xF s4).1)))
  have l5 : (xF (uF s4 (fwr (xF s4) (fl1 (pdc (xF s4).1))))).1 ≤ (xF s4).1 + 7 := by show (fwr _ _).1 ≤ _; rw [fwr_sum, h5b.1]; omega
  generalize uF s4 (fwr (xF s4) (fl1 (pdc (xF s4).1))) = s5 at t5 n5 l5 ⊢
  generalize wpl v4 (fl1 (pdc (xF s4).1)) = v5 at t5 m5 ⊢
  have nn := FSm_tr n1 (FSm_tr n2 (FSm_tr n3 (FSm_tr n4 n5)))
  have mm := FTm_tr m1 (FTm_tr m2 (FTm_tr m3 (FTm_tr m4 m5)))
  have hl5 : (xF s5).1 ≤ 300000 := by omega
  have hg : ∀ j, j ≠ 0 → j ≠ 18 → j ≠ 19 → gF (sF v5.1 19 1) j = gF r j := fun j a b c => (sF_ne _ _ c).trans ((mm.1 j b).trans (sF_ne _ _ a))
  have hgB : ∀ j, j ≠ 17 → gB (sF v5.1 19 1) j = gB r j := fun j a => (mm.2.2 j a)
  have h1 : ∀ j, j ≠ 11 → j ≠ 30 → (uI s5 11 1).1 j = s.1 j := fun j a b => (uI_n _ _ a).trans (nn.1 j b)
  have h11 : (uI s5 11 1).1 11 = 1 := uI_s _ _ _
  refine ⟨t5.1.2.1.symm, ⟨?_, RR_cong hR (hg 8 (by decide) (by decide) (by decide)) (hg 11 (by decide) (by decide) (by decide)) (fun j hj => hgB j (by omega)), ht, (h1 5 (by decide) (by decide)).trans h5, ?_⟩, ?_, hl5, t5.1.1⟩
  · obtain ⟨Zf, fp, c1, c2, c3, c4, c5⟩ := hC
    have e : (uI s5 11 1).2.1 = s.2.1 := nn.2.1
    exact ⟨Zf, fp, c1, by rw [e]; exact c2, c3, c4, fun j hj => by rw [e]; exact c5 j hj⟩
  · have e30 : (uI s5 11 1).1 30 = s5.1 30 := uI_n _ _ (by decide)
    refine ⟨fun m hm => t5.2.2 m hm, by rw [e30]; exact t5.2.1, ?_, ⟨?_, ?_, ?_, ?_, ?_, ?_⟩, hl5, ?_, ?_, ?_, ?_, fun z => absurd (h11.symm.trans z) (by decide)⟩
    · refine ⟨(sF_ne _ _ (by decide)).trans t5.1.2.2.1, fun k hk => t5.1.2.2.2 k hk⟩
    · rw [h1 6 (by decide) (by decide), hg 20 (by decide) (by decide) (by decide)]; exact hs6
    · rw [h1 7 (by decide) (by decide), hg 21 (by decide) (by decide) (by decide)]; exact hs7
    · rw [h1 8 (by decide) (by decide)]
      exact hs8.trans (mm.2.1.symm)
    · rw [h1 9 (by decide) (by decide), hg 23 (by decide) (by decide) (by decide)]; exact hs9
    · rw [h1 10 (by decide) (by decide), hg 24 (by decide) (by decide) (by decide)]; exact hs10
    · rw [h11, sF_FF, if_pos rfl]
    · show 1 ≤ xN s5; rw [nn.2.2.2]; exact hN1
    · show xN s5 ≤ 3100; rw [nn.2.2.2]; exact hN31
    · rw [h1 8 (by decide) (by decide)]; exact h08
    · rw [h1 10 (by decide) (by decide)]; exact h010
  · rw [sF_ne _ _ (by decide), mm.1 0 (by decide)]
    show gF (sF r 0 0) 0 = 0
    rw [sF_FF, if_pos rfl]
