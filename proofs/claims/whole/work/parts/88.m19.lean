/-! the reference's places: a box is entered; all of a list -/
theorem RW_p1 {r : RS} {b q i : Nat} {F : Nat → Int32} {x y : Rec} {j : Nat} (h : RW r j y) : RW (pl1 r q i b F x) j y := fun k h1 h7 => by rw [pl1_B, if_neg (by omega), if_neg (by omega)]; exact h k h1 h7
theorem ent_F {r : RS} {q i b k : Nat} (h1 : k ≠ 27) (h2 : k ≠ 33) : gF (ent r q i b) k = gF r k := by
  unfold ent
  rw [sF_ne _ _ h1, szd_F _ _ h2]
  rfl
theorem ent_27 {r : RS} {q i b : Nat} : gF (ent r q i b) 27 = nI (q + 1) := by
  unfold ent
  rw [sF_FF, if_pos rfl]
theorem ent_33 {r : RS} {q i b : Nat} : ¬ gF (ent r q i b) 33 = 0 ↔ ¬ gF r 33 = 0 ∧ ¬ iszl (enat r i b) = 0 := by
  unfold ent
  rw [sF_ne _ _ (by decide), szd_33, i01]
  exact Iff.rfl
theorem ent_B {r : RS} {q i b : Nat} (k e : Nat) : gB (ent r q i b) k e = if k = 30 ∧ e = 8 * q then nI i else if k = 28 ∧ e = q then nI i + gB r 7 i else gB r k e := by
  unfold ent
  rw [sF_BB, szd_B, sL_B, w1_BB, w1_BB]
theorem ent_L {r : RS} {q i b : Nat} (e : Nat) : (ent r q i b).2.2.2 e = if e = q then enat r i b else r.2.2.2 e := rfl
theorem ent_T {r : RS} {q i b : Nat} : (ent r q i b).2.1 = r.2.1 := rfl
theorem not_wiZ {F : Nat → Int32} {x : Rec} (h : ¬ wiZ F x.1) : ¬ iszl (rgO F x.1) = 0 ∧ ¬ iszl (dnO F x.1) = 0 ∧ ¬ iszl (beO F x.1) = 0 := by
  have h : ¬ asz (rgO F x.1) (dnO F x.1) (beO F x.1) = 0 := h
  unfold asz at h
  rw [i01] at h
  exact h
section pe
variable {r : RS} {b q bx i : Nat} {F : Nat → Int32} {x : Rec} {v : Int32} {c' : List Rec}
theorem bx_meas (h : RW r i x) (hN : NK v (x, c')) (h3 : x.1 0 = 3) : gB r 2 i = x.1 1 ∧ gB r 3 i = x.1 2 ∧ gB r 4 i = x.1 3 ∧ gB r 7 i = nI (c'.length + 1) ∧ gB r 1 i = if x.2.1 = 0 then 4 else 5 := by
  have h6 : x.1 6 = 0 := hN.2.2.2.2.2.1 (by rw [show (x, c').1.1 0 = 3 from h3]; decide)
  refine ⟨?_, ?_, ?_, ?_, ?_⟩
  · rw [h 2 (by decide) (by decide)]; show run1 (x.1 6) 1 (x.1 1) = _; rw [h6]; exact run1_0 (by decide) (by decide)
  · rw [h 3 (by decide) (by decide)]; show run1 (x.1 6) 2 (x.1 2) = _; rw [h6]; exact run1_0 (by decide) (by decide)
  · rw [h 4 (by decide) (by decide)]; show run1 (x.1 6) 4 (x.1 3) = _; rw [h6]; exact run1_0 (by decide) (by decide)
  · rw [span_R h, show x.2.2.1 = c'.length + 1 from hN.1]
  · rw [h 1 (by decide) (by decide), rC1_b x h3]
theorem enat_1 (h : RW r i x) (hN : NK v (x, c')) (h3 : x.1 0 = 3) (hz : ¬ wiZ F x.1) : enat (pl1 r q i b F x) i b = if x.2.1 = 0 then rgO F x.1 else dnO F x.1 - (x.1 2).toInt64 := by
  have hm := bx_meas (RW_p1 (q := q) (i := i) (b := b) (F := F) (x := x) h) hN h3
  have hs := not_wiZ hz
  unfold enat
  have e1 : gB (pl1 r q i b F x) 25 (i - b) = (rgO F x.1).toInt32 := by rw [pl1_B, if_pos ⟨rfl, rfl⟩]
  have e2 : gB (pl1 r q i b F x) 26 (i - b) = (dnO F x.1).toInt32 := by rw [pl1_B, if_neg (by omega), if_pos ⟨rfl, rfl⟩]
  rw [hm.2.2.2.2, hm.2.1, e1, e2, (l2i_sz hs.1).2, (l2i_sz hs.2.1).2]
  by_cases h0 : x.2.1 = 0
  · rw [if_pos h0, if_pos rfl, if_pos h0]
  · rw [if_neg h0, if_neg (by decide), if_neg h0]
theorem bad_box (h3 : x.1 0 = 3) (hz : ¬ wiZ F x.1) : ¬ badX F x ↔ ¬ iszl (if x.2.1 = 0 then rgO F x.1 else dnO F x.1 - (x.1 2).toInt64) = 0 := by
  unfold badX csb
  rw [if_pos h3, if_neg (by rw [h3]; decide)]
  by_cases h0 : x.2.1 = 0
  · rw [if_pos h0, if_pos h0]
    exact ⟨fun _ => (not_wiZ hz).1, fun _ y => y.elim hz (fun y => absurd y (by decide))⟩
  · rw [if_neg h0, if_neg h0]
    exact ⟨fun z y => z (Or.inr y), fun z y => y.elim hz z⟩
theorem p_it1 (h : RW r i x) (hN : NK v (x, c')) (hB : FB r b q bx F) (hv : F 5 = v) (hbx : bx < i) (hg : ¬ gF r 33 = 0) (hq : q ≤ 99) (hJ : JK r i q) (hi : i + c'.length + 1 < 10000) (hib : i - b < 3100 ∧ i < 6200) (h3 : x.1 0 = 3) (hc : c' ≠ []) : PU b i (i + 1) q r (ple (pl1 r q i b F x) (q + 1) i b) ∧ (¬ gF (ple (pl1 r q i b F x) (q + 1) i b) 33 = 0 ↔ ¬ badX F x) ∧ (¬ badX F x → FB (ple (pl1 r q i b F x) (q + 1) i b) b q bx (advX F x) ∧ FB (ple (pl1 r q i b F x) (q + 1) i b) b (q + 1) i (bgX F x) ∧ gB (ple (pl1 r q i b F x) (q + 1) i b) 28 (q + 1) = nI (i + 1 + c'.length) ∧ JK (ple (pl1 r q i b F x) (q + 1) i b) (i + 1) (q + 1)) := by
  have h1 : RW (pl1 r q i b F x) i x := RW_p1 h
  have hm := bx_meas h1 hN h3
  have hm0 := bx_meas h hN h3
  have hbi := hB.2.1
  have hlen : c'.length ≠ 0 := fun z => hc (List.length_eq_zero_iff.mp z)
  have hisb : ¬ isb (pl1 r q i b F x) i = 0 := by rw [isb_R h1 hN.2.2.1, if_pos h3]; decide
  have hsp : 1 < gB (pl1 r q i b F x) 7 i := by rw [hm.2.2.2.1]; exact nI_lt (a := 1) (by omega) (by omega)
  have h33 := pl1_33 (q := q) (i := i) (b := b) (F := F) (x := x) hg
  have hPU : PU b i (i + 1) q r (pl1 r q i b F x) := by
    refine ⟨fun k h1 h2 => pl1_F h1 h2, pl1_T, fun k h1 h2 _ _ => ?_, fun e he => ?_, fun e he => ?_, fun e he => ?_⟩
    · funext e
      rw [pl1_B, if_neg (fun z => h1 z.1), if_neg (fun z => h2 z.1)]
    · have hn : e ≠ i - b := by omega
      exact ⟨by rw [pl1_B, if_neg (fun z => hn z.2), if_neg (fun z => hn z.2)], by rw [pl1_B, if_neg (fun z => hn z.2), if_neg (fun z => hn z.2)]⟩
    · exact ⟨by rw [pl1_B, if_neg (by omega), if_neg (by omega)], by rw [pl1_B, if_neg (by omega), if_neg (by omega)]⟩
    · rw [pl1_L, if_neg (by omega)]
  by_cases hz : wiZ F x.1
  · have hg0 : gF (pl1 r q i b F x) 33 = 0 := Classical.byContradiction fun z => (h33.mp z).1 hz
    have e : ple (pl1 r q i b F x) (q + 1) i b = pl1 r q i b F x := by
      unfold ple
      exact if_neg (fun z => z.2.2 hg0)
    rw [e]
    have hb : badX F x := Or.inl hz
    exact ⟨hPU, ⟨fun z => absurd hg0 z, fun z => absurd hb z⟩, fun z => absurd hb z⟩
  · have hg1 : ¬ gF (pl1 r q i b F x) 33 = 0 := h33.mpr ⟨hz, fun y => absurd (h3.symm.trans y) (by decide)⟩
    have e : ple (pl1 r q i b F x) (q + 1) i b = ent (pl1 r q i b F x) (q + 1) i b := by
      unfold ple
      exact if_pos ⟨hisb, hsp, hg1⟩
    rw [e]
    have hs := not_wiZ hz
    have hen := enat_1 (q := q) (b := b) (F := F) h hN h3 hz
    have hbad : ¬ gF (ent (pl1 r q i b F x) (q + 1) i b) 33 = 0 ↔ ¬ badX F x := by
      rw [ent_33, hen, bad_box h3 hz]
      exact ⟨fun z => z.2, fun z => ⟨hg1, z⟩⟩
    have hPE : PU b (i + 1) (i + 1) q (pl1 r q i b F x) (ent (pl1 r q i b F x) (q + 1) i b) := by
      refine ⟨fun k h1 h2 => ent_F h1 h2, ent_T, fun k _ _ h1 h2 => ?_, fun e he => ?_, fun e he => ?_, fun e he => ?_⟩
      · funext e
        rw [ent_B, if_neg (fun z => h2 z.1), if_neg (fun z => h1 z.1)]
      · exact ⟨by rw [ent_B, if_neg (by omega), if_neg (by omega)], by rw [ent_B, if_neg (by omega), if_neg (by omega)]⟩
      · exact ⟨by rw [ent_B, if_neg (by omega), if_neg (by omega)], by rw [ent_B, if_neg (by omega), if_neg (by omega)]⟩
      · rw [ent_L, if_neg (by omega)]
    refine ⟨PU_tr hPU hPE (Nat.le_succ _) (Nat.le_refl _) (Nat.le_refl _), hbad, fun hb => ⟨?_, ?_, ?_, ?_⟩⟩
    · refine FB_up hB ?_ ?_ ?_ ?_ (fun k hk => ad_n F x hk)
      · rw [ent_B, if_neg (by omega), if_neg (by omega), pl1_B, if_neg (by omega), if_neg (by omega)]
      · rw [ent_L, if_neg (by omega), pl1_L, if_pos rfl]
        show _ = (va_up F 11 (beO F x.1).toInt32 11).toInt64
        rw [va_up_self, (l2i_sz hs.2.2).2]
      · have hn : bx - b ≠ i - b := by omega
        exact ⟨by rw [ent_B, if_neg (by omega), if_neg (by omega), pl1_B, if_neg (fun z => hn z.2), if_neg (fun z => hn z.2)], by rw [ent_B, if_neg (by omega), if_neg (by omega), pl1_B, if_neg (fun z => hn z.2), if_neg (fun z => hn z.2)]⟩
      · refine ⟨?_, ?_, ?_, ?_⟩ <;> (funext e; rw [ent_B, if_neg (by omega), if_neg (by omega), pl1_B, if_neg (by omega), if_neg (by omega)])
    · have hsz := (bad_box h3 hz).mp hb
      refine ⟨?_, ⟨by omega, by omega, by omega⟩, ?_, ?_, ?_, ?_, ?_, ?_, ?_⟩
      · rw [ent_B, if_pos ⟨rfl, rfl⟩]
      · rw [ent_L, if_pos rfl, hen]
        show _ = (if x.2.1 = 0 then (rgO F x.1).toInt32 else (dnO F x.1).toInt32 - x.1 2).toInt64
        by_cases h0 : x.2.1 = 0
        · rw [if_pos h0, if_pos h0, (l2i_sz hs.1).2]
        · rw [if_neg h0] at hsz ⊢
          rw [if_neg h0]
          have e2 := (l2i_sz hs.2.1).2
          have := l64_sub (a := (dnO F x.1).toInt32) (b := x.1 2) (by rw [e2]; exact hsz)
          rw [this, e2]
      · rw [ent_B, if_neg (by omega), if_neg (by omega), pl1_B, if_pos ⟨rfl, rfl⟩]; rfl
      · rw [ent_B, if_neg (by omega), if_neg (by omega), pl1_B, if_neg (by omega), if_pos ⟨rfl, rfl⟩]; rfl
      · rw [ent_B, if_neg (by omega), if_neg (by omega), hm.2.2.2.2]; rfl
      · rw [ent_B, if_neg (by omega), if_neg (by omega), hm.1]; rfl
      · rw [ent_B, if_neg (by omega), if_neg (by omega), hm.2.1]; rfl
      · rw [ent_B, if_neg (by omega), if_neg (by omega), hm.2.2.1]; rfl
    · rw [ent_B, if_neg (by omega), if_pos ⟨rfl, rfl⟩, hm.2.2.2.1, nI_add]
      congr 1
      omega
    · exact ⟨q + 2, ent_27, Nat.le_refl _, by omega, fun e a c => by omega⟩
end pe
