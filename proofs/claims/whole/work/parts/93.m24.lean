/-! a character and a rule, in both -/
abbrev wL (ws : WS) (L : List (Int32 × Nat)) : WS := (ws.1, ws.2.1, ws.2.2.1, ws.2.2.2.1, ws.2.2.2.2.1, ws.2.2.2.2.2 ++ L)
section rc
variable {A : FD} {r0 : RS} {F0 : FI} {d0 : Int32} {ws : WS} {s : FS}
theorem RX_wpl (h : RX A r0 F0 d0 ws s) (L : List (Int32 × Nat)) (h4 : ∀ p ∈ L, p.2 ≤ 4) (hn : s.2 + wsum L ≤ 500000) : RX A r0 F0 d0 (wL ws L) (wpl s L) := by
  have hl := h.2.2.2.2.1.2.1
  have h31 : gB (wpl s L).1 31 = gB s.1 31 := wpl_B (by decide) s L
  refine ⟨by rw [h31]; exact h.1, (wpl_F (by decide) s L).trans h.2.1, by rw [wpl_B (by decide)]; exact h.2.2.1, (wpl_F (by decide) s L).trans h.2.2.2.1, ?_, by rw [wpl_F (by decide)]; exact h.2.2.2.2.2.1, fun k x1 x2 x3 x4 x5 => (wpl_B x2 s L).trans (h.2.2.2.2.2.2 k x1 x2 x3 x4 x5)⟩
  show FXL (fwr F0 (ws.2.2.2.2.2 ++ L)) _
  rw [fwr_app]
  exact FX_wpl L h.2.2.2.2.1 h4 (by omega)
theorem ftL_b (A : FD) (m : Nat) : wsum (ftL A m) = 17 ∧ ∀ p ∈ ftL A m, p.2 ≤ 4 := by
  refine ⟨rfl, fun p hp => ?_⟩
  unfold ftL at hp
  simp only [List.mem_cons, List.not_mem_nil, or_false] at hp
  rcases hp with rfl | rfl | rfl | rfl | rfl | rfl | rfl | rfl <;> exact Nat.le_of_ble_eq_true rfl
theorem RX_c1 (h : RX A r0 F0 d0 ws s) {m : Nat} (hm : m < 32) (hA : A 0 m = gB r0 13 m ∧ A 1 m = gB r0 14 m) (hn : s.2 + 17 ≤ 500000) : RX A r0 F0 d0 (ws.1, ws.2.1, ws.2.2.1, (if fus ws.2.2.2.1 (nI m) = 0 then ws.2.2.2.1 ||| 1 <<< (nI m &&& 31) else ws.2.2.2.1), ws.2.2.2.2.1, ws.2.2.2.2.2 ++ (if fus ws.2.2.2.1 (nI m) = 0 then ftL A m else [])) (chw1 s m) := by
  have hu := (h.2.2.1 m hm).1
  unfold chw1
  by_cases h0 : gB s.1 15 m = 0
  · have h1 := hu.mpr h0
    rw [if_pos h0, if_pos h1, if_pos h1]
    have hf : fonl s.1 m = ftL A m := by
      unfold fonl ftL fnC
      rw [hA.1, hA.2, h.2.2.2.2.2.2 13 (by decide) (by decide) (by decide) (by decide) (by decide), h.2.2.2.2.2.2 14 (by decide) (by decide) (by decide) (by decide) (by decide)]
    rw [hf]
    have hR : RX A r0 F0 d0 (ws.1, ws.2.1, ws.2.2.1, ws.2.2.2.1 ||| 1 <<< (nI m &&& 31), ws.2.2.2.2.1, ws.2.2.2.2.2) (w1 s.1 15 m 1, s.2) := by
      have h31 : gB (w1 s.1 15 m 1) 31 = gB s.1 31 := w1_B _ _ _ (by decide)
      refine ⟨by show NWt (gB (w1 s.1 15 m 1) 31) 0 _ ∧ NWt (gB (w1 s.1 15 m 1) 31) 1 _; rw [h31]; exact h.1, h.2.1, ?_, h.2.2.2.1, FX_cg h.2.2.2.2.1 (w1_B _ _ _ (by decide)) rfl rfl, h.2.2.2.2.2.1, fun k x1 x2 x3 x4 x5 => (w1_B _ _ _ x1).trans (h.2.2.2.2.2.2 k x1 x2 x3 x4 x5)⟩
      show USD _ (gB (w1 s.1 15 m 1) 15)
      rw [w1_self]
      exact USD_or h.2.2.1 hm
    exact RX_wpl hR (ftL A m) (ftL_b A m).2 (by rw [(ftL_b A m).1]; exact hn)
  · have h1 : ¬ fus ws.2.2.2.1 (nI m) = 0 := fun z => h0 (hu.mp z)
    rw [if_neg h0, if_neg h1, if_neg h1, List.append_nil]
    exact h
theorem RX_c2 (h : RX A r0 F0 d0 ws s) {m : Nat} (hm : m < 32) (hn : s.2 + 1 ≤ 500000) : RX A r0 F0 d0 (ws.1, ws.2.1, nI m, ws.2.2.2.1, ws.2.2.2.2.1, ws.2.2.2.2.2 ++ (if nI m = ws.2.2.1 then [] else [(171 + nI m, 1)])) (chw2 s m) := by
  unfold chw2
  rw [h.2.1]
  by_cases h0 : nI m = ws.2.2.1
  · rw [if_pos h0, if_pos h0, List.append_nil, h0]
    exact h
  · rw [if_neg h0, if_neg h0]
    have h1 := RX_wpl h [(171 + nI m, 1)] (fun p hp => by rw [List.mem_singleton.mp hp]; exact Nat.le_of_ble_eq_true rfl) hn
    have e : wpl s [(171 + nI m, 1)] = wp s (nI (171 + m)) 1 := by
      show wp s (171 + nI m) 1 = _
      rw [show (171 : Int32) = nI 171 from rfl, nI_add]
    rw [e] at h1
    exact ⟨h1.1, (by show gF (sF (wp s (nI (171 + m)) 1).1 32 (nI m)) 32 = nI m; rw [sF_FF, if_pos rfl]), h1.2.2.1, h1.2.2.2.1, FX_cg h1.2.2.2.2.1 rfl rfl rfl, h1.2.2.2.2.2.1, h1.2.2.2.2.2.2⟩
theorem c_128 (c : Int32) : c ≤ 127 ↔ c < 128 := by
  rw [Int32.le_iff_toInt_le, Int32.lt_iff_toInt_lt, show (127 : Int32).toInt = 127 from rfl, show (128 : Int32).toInt = 128 from rfl]
  omega
theorem RX_c3 (h : RX A r0 F0 d0 ws s) {I : Nat → Int32} {c : Int32} (hc : c = I 5) (hn : s.2 + 2 ≤ 500000) : RX A r0 F0 d0 (wL ws (wl3 I)) (wp (chw3 s c) c 1) := by
  subst hc
  unfold wl3 chw3
  by_cases h0 : I 5 < 128
  · rw [if_pos h0, if_pos ((c_128 _).mpr h0)]
    exact RX_wpl h [(I 5, 1)] (fun p hp => by rw [List.mem_singleton.mp hp]; exact Nat.le_of_ble_eq_true rfl) (show s.2 + 1 ≤ 500000 by omega)
  · rw [if_neg h0, if_neg (fun z => h0 ((c_128 _).mp z))]
    refine RX_wpl h [(128, 1), (I 5, 1)] (fun p hp => ?_) hn
    simp only [List.mem_cons, List.not_mem_nil, or_false] at hp
    rcases hp with rfl | rfl <;> exact Nat.le_of_ble_eq_true rfl
theorem RX_p (h : RX A r0 F0 d0 ws s) {w w' : Int32} (hw : w' = w) (hz : ¬ iszl (ws.1.1.toInt64 + w.toInt64) = 0) : RX A r0 F0 d0 ((ws.1.1 + w, ws.1.2), ws.2) (w1 (szd s.1 ((gB s.1 31 0).toInt64 + w'.toInt64)) 31 0 (gB s.1 31 0 + w'), s.2) := by
  subst hw
  have h0 : gB s.1 31 0 = ws.1.1 := h.1.1.1
  rw [h0]
  have h31 : ∀ j, j ≠ 0 → gB (w1 (szd s.1 (ws.1.1.toInt64 + w'.toInt64)) 31 0 (ws.1.1 + w')) 31 j = gB s.1 31 j := fun j hj => by rw [w1_BB, if_neg (fun z => hj z.2)]; rfl
  refine ⟨⟨⟨?_, (h31 _ (by decide)).trans h.1.1.2.1, (h31 _ (by decide)).trans h.1.1.2.2.1, (h31 _ (by decide)).trans h.1.1.2.2.2.1, h.1.1.2.2.2.2⟩, ⟨(h31 _ (by decide)).trans h.1.2.1, (h31 _ (by decide)).trans h.1.2.2.1, (h31 _ (by decide)).trans h.1.2.2.2.1, (h31 _ (by decide)).trans h.1.2.2.2.2.1, h.1.2.2.2.2.2⟩⟩, ?_, ?_, ?_, ?_, ?_, fun k x1 x2 x3 x4 x5 => ?_⟩
  · show gB (w1 _ 31 0 _) 31 0 = _; rw [w1_BB, if_pos ⟨rfl, rfl⟩]
  · show gF (w1 _ 31 0 _) 32 = _; rw [w1_FF, szd_F _ _ (by decide)]; exact h.2.1
  · show USD _ (gB (w1 _ 31 0 _) 15); rw [w1_B _ _ _ (by decide)]; exact h.2.2.1
  · show gF (w1 _ 31 0 _) 24 = _; rw [w1_FF, szd_F _ _ (by decide)]; exact h.2.2.2.1
  · refine FX_cg h.2.2.2.2.1 ?_ ?_ rfl
    · show gB (w1 _ 31 0 _) 17 = _; rw [w1_B _ _ _ (by decide)]; rfl
    · show gF (w1 _ 31 0 _) 18 = _; rw [w1_FF, szd_F _ _ (by decide)]
  · show ¬ gF (w1 _ 31 0 _) 33 = 0; rw [w1_FF, szd_33, i01]; exact ⟨h.2.2.2.2.2.1, hz⟩
  · show gB (w1 _ 31 0 _) k = _; rw [w1_B _ _ _ x5]; exact h.2.2.2.2.2.2 k x1 x2 x3 x4 x5
theorem RX_ch (h : RX A r0 F0 d0 ws s) {x : Rec} {i m : Nat} (hr : RW r0 i x) {v : Int32} (hI : IOK v x) (h0 : x.1 0 = 0) (hm : m < 32) (h4 : x.1 4 = nI m) (hA : A 0 m = gB r0 13 m ∧ A 1 m = gB r0 14 m) (hz : ¬ iszl (ws.1.1.toInt64 + (x.1 1).toInt64) = 0) (hn : s.2 + 30 ≤ 500000) : RX A r0 F0 d0 (chW A ws x.1 m) (wch s i) := by
  have e5 : (gB s.1 5 i).toNatClampNeg = m := by
    rw [h.2.2.2.2.2.2 5 (by decide) (by decide) (by decide) (by decide) (by decide), hr 5 (by decide) (by decide)]
    show (if x.1 0 = 0 then x.1 4 else x.1 7).toNatClampNeg = m
    rw [if_pos h0, h4, nI_clamp (by omega)]
  have e6 : gB s.1 6 i = x.1 5 := by rw [h.2.2.2.2.2.2 6 (by decide) (by decide) (by decide) (by decide) (by decide), hr 6 (by decide) (by decide)]; rfl
  have hk := (chw1_ok (RX_len h).2 m)
  have hk2 := chw2_ok hk.1 m
  have a1 := RX_c1 h hm hA (by omega)
  have a2 := RX_c2 a1 hm (by omega)
  have a3 := RX_c3 (I := x.1) a2 e6 (by omega)
  unfold wch wch1
  rw [e5]
  have e2 : gB (chw s m (gB s.1 6 i)).1 2 i = x.1 1 := by
    unfold chw
    rw [a3.2.2.2.2.2.2 2 (by decide) (by decide) (by decide) (by decide) (by decide), hr 2 (by decide) (by decide)]
    show run1 (x.1 6) 1 (x.1 1) = _
    rw [hI.2.2.2.1 (by rw [h0]; decide)]
    exact run1_0 (by decide) (by decide)
  have a4 := RX_p a3 e2 hz
  unfold chW chL
  rw [h4]
  have e : ws.2.2.2.2.2 ++ ((if fus ws.2.2.2.1 (nI m) = 0 then ftL A m else []) ++ ((if nI m = ws.2.2.1 then [] else [(171 + nI m, 1)]) ++ wl3 x.1)) = ((ws.2.2.2.2.2 ++ (if fus ws.2.2.2.1 (nI m) = 0 then ftL A m else [])) ++ (if nI m = ws.2.2.1 then [] else [(171 + nI m, 1)])) ++ wl3 x.1 := by rw [List.append_assoc, List.append_assoc]
  rw [e]
  exact a4
/-! a rule -/
def FRr (r : RS) (bx : Nat) (F : Nat → Int32) : Prop := (gB r 1 bx = if F 5 = 0 then 4 else 5) ∧ gB r 2 bx = F 6 ∧ gB r 3 bx = F 7 ∧ gB r 4 bx = F 8
theorem c32_gt {x : Int32} {m : Int64} (h : x.toInt64 = m) {a : Int32} {b : Int64} (hab : a.toInt64 = b) : a < x ↔ b < m := by
  rw [Int32.lt_iff_toInt_lt, Int64.lt_iff_toInt_lt, ← h, ← hab, Int32.toInt_toInt64, Int32.toInt_toInt64]
theorem wr2_33 {s : FS} (h : gF s.1 33 = 0) (A w : Int32) : gF (wr2 s A w).1 33 = 0 := by
  unfold wr2
  by_cases hA : A = 0
  · rw [if_pos hA]; exact h
  · rw [if_neg hA]
    show gF (w1 _ 31 0 _) 33 = 0
    rw [w1_FF, szd_33, if_neg (fun y => y.1 h)]
theorem RX_ru (h : RX A r0 F0 d0 ws s) {F : Nat → Int32} {x : Rec} {i b bx : Nat} (hr : RW r0 i x) {v : Int32} (hv : F 5 = v) (hI : IOK v x) (h1 : x.1 0 = 1) (hR : FRr r0 bx F) (he : ¬ iszl (exO F x.1) = 0) (hp : gB r0 25 (i - b) = (rgO F x.1).toInt32 ∧ gB r0 26 (i - b) = (dnO F x.1).toInt32) (hz : F 5 = 0 → ¬ iszl (((rgO F x.1).toInt32).toInt64 + (x.1 1).toInt64) = 0) (hn : s.2 + 30 ≤ 500000) :
    (iwn F x.1 = 0 → wru s i bx b (wh0 s) (wh1 s) = s) ∧ (¬ iwn F x.1 = 0 → (mvW ws (rgO F x.1).toInt32 (dnO F x.1).toInt32 = none → gF (wru s i bx b (wh0 s) (wh1 s)).1 33 = 0) ∧ ∀ w1, mvW ws (rgO F x.1).toInt32 (dnO F x.1).toInt32 = some w1 → RX A r0 F0 d0 (ruW F w1 x.1) (wru s i bx b (wh0 s) (wh1 s))) := by
  have hrow := fun k a b c d e => h.2.2.2.2.2.2 k a b c d e
  have hs : ∀ k, k = 2 ∨ k = 3 ∨ k = 4 → rsel s.1 k i bx = rsel r0 k i bx := fun k hk => by
    unfold rsel
    rw [hrow k (by omega) (by omega) (by omega) (by omega) (by omega)]
  have ew : rsel s.1 2 i bx = wOf F x.1 := by
    rw [hs 2 (by decide), rsel_G (I := x.1) (hr 2 (by decide) (by decide)) hI.2.2.1.1 (bit1_1 _) (by decide), hR.2.1]
    rfl
  have eh : rsel s.1 3 i bx = hOf F x.1 := by
    rw [hs 3 (by decide), rsel_G (I := x.1) (hr 3 (by decide) (by decide)) hI.2.2.1.2.1 (bit1_2 _) (by decide), hR.2.2.1]
    rfl
  have ed : rsel s.1 4 i bx = dOf F x.1 := by
    rw [hs 4 (by decide), rsel_G (I := x.1) (hr 4 (by decide) (by decide)) hI.2.2.1.2.2.1 (bit1_4 _) (by decide), hR.2.2.2]
    rfl
  have ea : acr s.1 bx = if F 5 = 0 then 1 else 0 := by
    unfold acr
    rw [hrow 1 (by decide) (by decide) (by decide) (by decide) (by decide), hR.1]
    by_cases h : F 5 = 0
    · rw [if_pos h, if_pos rfl, if_pos h]
    · rw [if_neg h, if_neg (by decide), if_neg h]
  have ee : hOf F x.1 + dOf F x.1 = (exO F x.1).toInt32 := by
    unfold exO
    rw [Int64.toInt32_add, Int32.toInt32_toInt64, Int32.toInt32_toInt64]
  have e25 : gB s.1 25 (i - b) = (rgO F x.1).toInt32 := by rw [hrow 25 (by decide) (by decide) (by decide) (by decide) (by decide)]; exact hp.1
  have e26 : gB s.1 26 (i - b) = (dnO F x.1).toInt32 := by rw [hrow 26 (by decide) (by decide) (by decide) (by decide) (by decide)]; exact hp.2
  have hi : ¬ iwn F x.1 = 0 ↔ 0 < wOf F x.1 ∧ 0 < (exO F x.1).toInt32 := by
    unfold iwn
    rw [if_neg (by rw [h1]; decide), if_pos h1, i01, c32_gt (l2i_sz he).2 (show (0 : Int32).toInt64 = 0 by decide)]
    exact ⟨fun z => ⟨z.2, z.1⟩, fun z => ⟨z.2, z.1⟩⟩
  unfold wru
  rw [ew, eh, ed, ea, ee, e25, e26]
  unfold wr3
  refine ⟨fun z => if_neg (fun y => hi.mpr y z), fun z => ⟨fun hm => ?_, fun w1 hm => ?_⟩⟩
  · rw [if_pos (hi.mp z)]
    have hb := RX_mvN h hm
    have hb2 : gF (wr1 s (if F 5 = 0 then 1 else 0) (wOf F x.1) (exO F x.1).toInt32 (rgO F x.1).toInt32 (dnO F x.1).toInt32 (wh0 s) (wh1 s)).1 33 = 0 := by
      unfold wr1
      rw [wpl_F (by decide)]
      exact hb
    exact wr2_33 hb2 _ _
  · rw [if_pos (hi.mp z)]
    have hg := RX_mv h hm (by omega)
    have hgl : (gtW s (rgO F x.1).toInt32 (dnO F x.1).toInt32).2 ≤ s.2 + 10 := (gt_le s (rgO F x.1).toInt32 (dnO F x.1).toInt32 (wh0 s) (wh1 s)).2
    have hL : (∀ p ∈ ruL F x.1, p.2 ≤ 4) ∧ wsum (ruL F x.1) = 9 := by
      refine ⟨fun p hp => ?_, rfl⟩
      unfold ruL at hp
      simp only [List.mem_cons, List.not_mem_nil, or_false] at hp
      rcases hp with rfl | rfl | rfl <;> exact Nat.le_of_ble_eq_true rfl
    have hw := RX_wpl hg (ruL F x.1) hL.1 (by rw [hL.2]; omega)
    have hpl := (mvW_pl hm).1
    unfold ruW
    by_cases hF : F 5 = 0
    · have e1 : wr1 s (if F 5 = 0 then 1 else 0) (wOf F x.1) (exO F x.1).toInt32 (rgO F x.1).toInt32 (dnO F x.1).toInt32 (wh0 s) (wh1 s) = wpl (gtW s (rgO F x.1).toInt32 (dnO F x.1).toInt32) (ruL F x.1) := by
        unfold wr1 ruL
        rw [if_pos hF, if_pos hF, if_neg (by decide)]
      rw [e1, if_pos hF, if_pos hF]
      unfold wr2
      rw [if_neg (by decide)]
      have ew2 : wOf F x.1 = x.1 1 := by
        unfold wOf selF
        rw [if_pos (hI.2.2.2.2.2.1 (hv.symm.trans hF))]
      exact RX_p hw ew2 (by show ¬ iszl (w1.1.1.toInt64 + _) = 0; rw [hpl]; exact hz hF)
    · have e1 : wr1 s (if F 5 = 0 then 1 else 0) (wOf F x.1) (exO F x.1).toInt32 (rgO F x.1).toInt32 (dnO F x.1).toInt32 (wh0 s) (wh1 s) = wpl (gtW s (rgO F x.1).toInt32 (dnO F x.1).toInt32) (ruL F x.1) := by
        unfold wr1 ruL
        rw [if_neg hF, if_neg hF, if_pos rfl]
      rw [e1, if_neg hF, if_neg hF]
      unfold wr2
      rw [if_pos rfl]
      exact hw
end rc
