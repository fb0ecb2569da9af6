/-! the reference's places: one item -/
def FB (r : RS) (b q bx : Nat) (F : Nat → Int32) : Prop := gB r 30 (8 * q) = nI bx ∧ (b ≤ bx ∧ bx - b < 3100 ∧ bx < 6200) ∧ r.2.2.2 q = (F 11).toInt64 ∧ gB r 25 (bx - b) = F 9 ∧ gB r 26 (bx - b) = F 10 ∧ (gB r 1 bx = if F 5 = 0 then 4 else 5) ∧ gB r 2 bx = F 6 ∧ gB r 3 bx = F 7 ∧ gB r 4 bx = F 8
theorem sz4_min {w : Int32} (h : sz4 w) : ¬ w = -2147483648 := fun e => h (by rw [e]; decide)
theorem rsel_G {r : RS} {k i bx : Nat} {bit w : Int32} {I : Nat → Int32} (hg : gB r k i = run1 (I 6) bit w) (hs : sz4 w) (hb : bit1 (I 6) bit) (hb0 : ¬ (0 : Int32) = bit) : rsel r k i bx = selF I bit w (gB r k bx) := by
  unfold rsel selF
  by_cases h0 : I 6 &&& bit = 0
  · rw [hg, run1_0 hb0 h0, if_neg (sz4_min hs), if_pos h0]
  · rw [hg, run1_1 hb h0, if_pos rfl, if_neg h0]
section r1
variable {r : RS} {b q bx i : Nat} {F : Nat → Int32} {x : Rec} {v : Int32}
theorem rsel_w (h : RW r i x) (hI : IOK v x) (hB : FB r b q bx F) : rsel r 2 i bx = wOf F x.1 := by
  rw [rsel_G (I := x.1) (h 2 (by decide) (by decide)) hI.2.2.1.1 (bit1_1 _) (by decide), hB.2.2.2.2.2.2.1]
  rfl
theorem rsel_h (h : RW r i x) (hI : IOK v x) (hB : FB r b q bx F) : rsel r 3 i bx = hOf F x.1 := by
  rw [rsel_G (I := x.1) (h 3 (by decide) (by decide)) hI.2.2.1.2.1 (bit1_2 _) (by decide), hB.2.2.2.2.2.2.2.1]
  rfl
theorem rsel_d (h : RW r i x) (hI : IOK v x) (hB : FB r b q bx F) : rsel r 4 i bx = dOf F x.1 := by
  rw [rsel_G (I := x.1) (h 4 (by decide) (by decide)) hI.2.2.1.2.2.1 (bit1_4 _) (by decide), hB.2.2.2.2.2.2.2.2]
  rfl
theorem acr_R (hB : FB r b q bx F) : acr r bx = if F 5 = 0 then 1 else 0 := by
  unfold acr
  rw [hB.2.2.2.2.2.1]
  by_cases h : F 5 = 0
  · rw [if_pos h, if_pos rfl, if_pos h]
  · rw [if_neg h, if_neg (by decide), if_neg h]
theorem cls1_R (h : RW r i x) (hI : IOK v x) : cls1 r i = (x.1 7).toInt64 := by
  unfold cls1
  rw [isb_R h hI.1]
  by_cases h3 : x.1 0 = 3
  · rw [if_pos h3, if_neg (by decide), h 5 (by decide) (by decide)]
    show (if x.1 0 = 0 then x.1 4 else x.1 7).toInt64 = _
    rw [h3, if_neg (by decide)]
  · rw [if_neg h3, if_pos rfl, hI.2.2.2.2.1 h3]
    rfl
theorem rlz_2 (h : RW r i x) (hI : IOK v x) : rlz r i 2 = if x.1 0 = 1 then 1 else 0 := by
  unfold rlz
  have := (k3_R h hI.1).2.2
  by_cases h1 : x.1 0 = 1
  · rw [if_pos (this.mpr h1), if_pos h1]
  · rw [if_neg (fun z => h1 (this.mp z)), if_neg h1]
theorem rlz_3 (h : RW r i x) (hI : IOK v x) : rlz r i 3 = if x.1 0 = 2 then 1 else 0 := by
  unfold rlz
  have := (k3_R h hI.1).1
  by_cases h1 : x.1 0 = 2
  · rw [if_pos (this.mpr h1), if_pos h1]
  · rw [if_neg (fun z => h1 (this.mp z)), if_neg h1]
theorem plx_R (h : RW r i x) (hI : IOK v x) (hB : FB r b q bx F) : plx r (q + 1) i b bx (acr r bx) (cls1 r i) = rgO F x.1 := by
  unfold plx rgO
  rw [acr_R hB, cls1_R h hI]
  by_cases hF : F 5 = 0
  · rw [if_pos hF, if_pos hF, if_neg (by decide), if_neg (by decide), Nat.add_sub_cancel, hB.2.2.1, Int64.add_zero]
  · rw [if_neg hF, if_neg hF, if_pos rfl, if_pos rfl, hB.2.2.2.1]
theorem ply_R (h : RW r i x) (hI : IOK v x) (hB : FB r b q bx F) : ply (ply0 r (q + 1) b bx (acr r bx)) (acr r bx) (rlz r i 2) (rlz r i 3) (cls1 r i) (rsel r 3 i bx).toInt64 (rsel r 4 i bx).toInt64 = dnO F x.1 := by
  rw [acr_R hB, cls1_R h hI, rlz_2 h hI, rlz_3 h hI, rsel_h h hI hB, rsel_d h hI hB]
  unfold ply ply0 dnO
  by_cases hF : F 5 = 0
  · rw [if_pos hF, if_pos hF, if_neg (by decide), if_neg (by decide), hB.2.2.2.2.1]
    by_cases h1 : x.1 0 = 1
    · rw [if_pos h1, if_pos h1, if_neg (by decide), hI.2.2.2.2.1 (by rw [h1]; decide)]
      show (F 10).toInt64 + 0 + _ = _
      rw [Int64.add_zero]
    · rw [if_neg h1, if_neg h1, if_pos rfl, Int64.add_zero]
  · rw [if_neg hF, if_neg hF, if_pos rfl, if_pos rfl, Nat.add_sub_cancel, hB.2.2.1]
    by_cases h1 : x.1 0 = 1
    · have h2 : ¬ x.1 0 = 2 := by rw [h1]; decide
      rw [if_pos h1, if_pos h1, if_neg h2, if_pos rfl, if_neg (by decide), Int64.add_assoc]
      rfl
    · rw [if_neg h1, if_neg h1, if_pos rfl, Int64.add_zero]
      by_cases h2 : x.1 0 = 2
      · rw [if_pos h2, if_neg (by decide), (hI.2.2.2.2.2.2.2.1 h2).1]
        rfl
      · rw [if_neg h2, if_pos rfl]
        have h6 := hI.2.2.2.1 h1
        unfold hOf selF
        rw [h6, if_pos (by decide)]
theorem ad_w {F : Nat → Int32} (hv : F 5 = v) (h : RW r i x) (hI : IOK v x) (hB : FB r b q bx F) : r.2.2.2 q + plw (acr r bx) (rlz r i 3) (gB r 2 i).toInt64 ((rsel r 3 i bx).toInt64 + (rsel r 4 i bx).toInt64) = beO F x.1 := by
  rw [acr_R hB, rlz_3 h hI, rsel_h h hI hB, rsel_d h hI hB, hB.2.2.1, h 2 (by decide) (by decide)]
  show _ + plw _ _ (run1 (x.1 6) 1 (x.1 1)).toInt64 _ = _
  unfold plw beO
  by_cases hF : F 5 = 0
  · rw [if_pos hF, if_neg (by decide), if_neg (fun z => z.1 hF), run1_0 (by decide) (hI.2.2.2.2.2.1 (hv.symm.trans hF))]
  · rw [if_neg hF, if_pos rfl]
    by_cases h2 : x.1 0 = 2
    · rw [if_pos h2, if_neg (by decide), if_neg (fun z => z.2 h2), hI.2.2.2.1 (by rw [h2]; decide), run1_0 (by decide) (by decide)]
    · rw [if_neg h2, if_pos rfl, if_pos ⟨hF, h2⟩]
      rfl
theorem ex_R (h : RW r i x) (hI : IOK v x) (hB : FB r b q bx F) : (rsel r 3 i bx).toInt64 + (rsel r 4 i bx).toInt64 = exO F x.1 := by
  rw [rsel_h h hI hB, rsel_d h hI hB]
  rfl
end r1
/-- item i placed, its box not yet entered -/
def pl1 (r : RS) (q i b : Nat) (F : Nat → Int32) (x : Rec) : RS := plp (szd (sL (pls (sF r 27 (nI (q + 1))) (if x.1 0 = 1 then 1 else 0) (rgO F x.1) (dnO F x.1) (exO F x.1)) (vp_updL r.2.2.2 q (beO F x.1))) (beO F x.1)) (i - b) (rgO F x.1) (dnO F x.1)
theorem szd_L (r : RS) (x : Int64) : (szd r x).2.2.2 = r.2.2.2 := rfl
theorem pls_L (r : RS) (R : Int32) (x y z : Int64) : (pls r R x y z).2.2.2 = r.2.2.2 := by unfold pls; split <;> rfl
theorem pls_B (r : RS) (R : Int32) (x y z : Int64) (k : Nat) : gB (pls r R x y z) k = gB r k := by unfold pls; split <;> rfl
theorem szd_B (r : RS) (x : Int64) (k : Nat) : gB (szd r x) k = gB r k := rfl
theorem sL_B (r : RS) (f : Nat → Int64) (k : Nat) : gB (sL r f) k = gB r k := rfl
theorem sL_F (r : RS) (f : Nat → Int64) (k : Nat) : gF (sL r f) k = gF r k := rfl
theorem szd_F (r : RS) (x : Int64) {k : Nat} (h : k ≠ 33) : gF (szd r x) k = gF r k := sF_ne r _ h
theorem szd_33 (r : RS) (x : Int64) : gF (szd r x) 33 = if ¬ gF r 33 = 0 ∧ ¬ iszl x = 0 then 1 else 0 := va_up_self r.1 33 _
theorem pls_F (r : RS) (R : Int32) (x y z : Int64) {k : Nat} (h : k ≠ 33) : gF (pls r R x y z) k = gF r k := by
  unfold pls
  split
  · rw [szd_F _ _ h, szd_F _ _ h]
  · rw [szd_F _ _ h, szd_F _ _ h, szd_F _ _ h]
theorem i01 {p : Prop} [Decidable p] : (¬ (if p then (1 : Int32) else 0) = 0) ↔ p := by
  by_cases h : p
  · rw [if_pos h]; exact ⟨fun _ => h, fun _ => by decide⟩
  · rw [if_neg h]; exact ⟨fun z => absurd rfl z, fun z => absurd z h⟩
theorem pls_33 (r : RS) (R : Int32) (x y z : Int64) : ¬ gF (pls r R x y z) 33 = 0 ↔ ¬ gF r 33 = 0 ∧ ¬ iszl x = 0 ∧ ¬ iszl y = 0 ∧ (¬ R = 0 → ¬ iszl z = 0) := by
  unfold pls
  by_cases hR : R = 0
  · rw [if_pos hR, szd_33, i01, szd_33, i01]
    exact ⟨fun h => ⟨h.1.1, h.1.2, h.2, fun z => absurd hR z⟩, fun h => ⟨⟨h.1, h.2.1⟩, h.2.2.1⟩⟩
  · rw [if_neg hR, szd_33, i01, szd_33, i01, szd_33, i01]
    exact ⟨fun h => ⟨h.1.1.1, h.1.1.2, h.1.2, fun _ => h.2⟩, fun h => ⟨⟨⟨h.1, h.2.1⟩, h.2.2.1⟩, h.2.2.2 hR⟩⟩
theorem pl1_e {r : RS} {b q bx i : Nat} {F : Nat → Int32} {x : Rec} {v : Int32} (hv : F 5 = v) (h : RW r i x) (hI : IOK v x) (hB : FB r b q bx F) : plc (sF r 27 (nI (q + 1))) (q + 1) i b bx = ple (pl1 r q i b F x) (q + 1) i b := by
  have h' : RW (sF r 27 (nI (q + 1))) i x := h
  have hB' : FB (sF r 27 (nI (q + 1))) b q bx F := hB
  have hw := ad_w hv h' hI hB'
  unfold plc
  rw [plx_R h' hI hB', ply_R h' hI hB', ex_R h' hI hB', rlz_2 h' hI]
  rw [ex_R h' hI hB'] at hw
  unfold pla1 pl1
  rw [Nat.add_sub_cancel, pls_L]
  rw [hw]
  rfl
section p1
variable {r : RS} {b q i : Nat} {F : Nat → Int32} {x : Rec}
theorem pl1_F {k : Nat} (h1 : k ≠ 27) (h2 : k ≠ 33) : gF (pl1 r q i b F x) k = gF r k := by
  unfold pl1 plp
  rw [w1_FF, w1_FF, szd_F _ _ h2, sL_F, pls_F _ _ _ _ _ h2, sF_ne _ _ h1]
theorem pl1_27 : gF (pl1 r q i b F x) 27 = nI (q + 1) := by
  unfold pl1 plp
  rw [w1_FF, w1_FF, szd_F _ _ (by decide), sL_F, pls_F _ _ _ _ _ (by decide)]
  exact va_up_self r.1 27 _
theorem pl1_33 (hg : ¬ gF r 33 = 0) : ¬ gF (pl1 r q i b F x) 33 = 0 ↔ ¬ wiZ F x.1 ∧ (x.1 0 = 1 → ¬ iszl (exO F x.1) = 0) := by
  have ha : ¬ wiZ F x.1 ↔ ¬ iszl (rgO F x.1) = 0 ∧ ¬ iszl (dnO F x.1) = 0 ∧ ¬ iszl (beO F x.1) = 0 := by
    show ¬ asz _ _ _ = 0 ↔ _
    unfold asz
    exact i01
  unfold pl1 plp
  rw [w1_FF, w1_FF, szd_33, i01, sL_F, pls_33, i01, sF_ne _ _ (by decide), ha]
  exact ⟨fun z => ⟨⟨z.1.2.1, z.1.2.2.1, z.2⟩, z.1.2.2.2⟩, fun z => ⟨⟨hg, z.1.1, z.1.2.1, z.2⟩, z.1.2.2⟩⟩
theorem pl1_B (k e : Nat) : gB (pl1 r q i b F x) k e = if k = 25 ∧ e = i - b then (rgO F x.1).toInt32 else if k = 26 ∧ e = i - b then (dnO F x.1).toInt32 else gB r k e := by
  unfold pl1 plp
  rw [w1_BB, w1_BB, szd_B, sL_B, pls_B, sF_BB]
  by_cases h1 : k = 26 ∧ e = i - b
  · rw [if_pos h1, if_neg (by omega), if_pos h1]
  · rw [if_neg h1, if_neg h1]
theorem pl1_L (e : Nat) : (pl1 r q i b F x).2.2.2 e = if e = q then beO F x.1 else r.2.2.2 e := rfl
theorem pl1_T : (pl1 r q i b F x).2.1 = r.2.1 := by
  show (pls _ _ _ _ _).2.1 = _
  unfold pls
  split <;> rfl
end p1
