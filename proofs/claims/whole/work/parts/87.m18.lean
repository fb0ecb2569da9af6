/-! the reference's places: item i with its box -/
def PU (b i j q : Nat) (r r' : RS) : Prop := (∀ k, k ≠ 27 → k ≠ 33 → gF r' k = gF r k) ∧ r'.2.1 = r.2.1 ∧ (∀ k, k ≠ 25 → k ≠ 26 → k ≠ 28 → k ≠ 30 → gB r' k = gB r k) ∧ (∀ e, (e < i - b ∨ j - b ≤ e) → gB r' 25 e = gB r 25 e ∧ gB r' 26 e = gB r 26 e) ∧ (∀ e, e ≤ q → gB r' 28 e = gB r 28 e ∧ gB r' 30 (8 * e) = gB r 30 (8 * e)) ∧ (∀ e, e < q → r'.2.2.2 e = r.2.2.2 e)
theorem PU_rf (b i q : Nat) (r : RS) : PU b i i q r r := ⟨fun _ _ _ => rfl, rfl, fun _ _ _ _ _ => rfl, fun _ _ => ⟨rfl, rfl⟩, fun _ _ => ⟨rfl, rfl⟩, fun _ _ => rfl⟩
theorem PU_tr {b i j k q q' : Nat} {r r' r'' : RS} (h : PU b i j q r r') (h' : PU b j k q' r' r'') (h1 : i ≤ j) (h2 : j ≤ k) (hq : q ≤ q') : PU b i k q r r'' := by
  obtain ⟨a1, a2, a3, a4, a5, a6⟩ := h
  obtain ⟨b1, b2, b3, b4, b5, b6⟩ := h'
  refine ⟨fun k x y => (b1 k x y).trans (a1 k x y), b2.trans a2, fun k x y z w => (b3 k x y z w).trans (a3 k x y z w), fun e he => ?_, fun e he => ?_, fun e he => (b6 e (by omega)).trans (a6 e he)⟩
  · have c1 := b4 e (by omega)
    have c2 := a4 e (by omega)
    exact ⟨c1.1.trans c2.1, c1.2.trans c2.2⟩
  · have c1 := b5 e (by omega)
    have c2 := a5 e he
    exact ⟨c1.1.trans c2.1, c1.2.trans c2.2⟩
def JK (r : RS) (i q : Nat) : Prop := ∃ Q, gF r 27 = nI Q ∧ q + 1 ≤ Q ∧ Q ≤ 101 ∧ ∀ e, q + 1 ≤ e → e < Q → gB r 28 e ≤ nI i
theorem popq_J {r : RS} {i q : Nat} (hu : nI i < gB r 28 q) : ∀ m, (∀ e, q + 1 ≤ e → e < q + 1 + m → gB r 28 e ≤ nI i) → popq r i (q + 1 + m) = q + 1 := by
  intro m
  induction m with
  | zero =>
    intro _
    show (if gB r 28 q ≤ nI i then popq r i q else q + 1) = q + 1
    exact if_neg (Int32.not_le.mpr hu)
  | succ m ih =>
    intro h
    show (if gB r 28 (q + 1 + m) ≤ nI i then popq r i (q + 1 + m) else q + 1 + m + 1) = q + 1
    rw [if_pos (h _ (by omega) (by omega))]
    exact ih (fun e h1 h2 => h e h1 (by omega))
theorem plq_J {r : RS} {i q : Nat} (hJ : JK r i q) (hu : nI i < gB r 28 q) : plq r i = q + 1 ∧ gF r 27 = nI (opq r) ∧ opq r ≤ 101 := by
  obtain ⟨Q, h1, h2, h3, h4⟩ := hJ
  have e : opq r = Q := by unfold opq; rw [h1, nI_clamp (by omega)]
  unfold plq
  rw [e]
  refine ⟨?_, h1, h3⟩
  have := popq_J hu (Q - (q + 1)) (fun e a c => h4 e a (by omega))
  rw [show q + 1 + (Q - (q + 1)) = Q by omega] at this
  exact this
theorem JK_le {r : RS} {i j q : Nat} (h : JK r i q) (hij : i ≤ j) (hj : j < 10000) : JK r j q := by
  obtain ⟨Q, h1, h2, h3, h4⟩ := h
  exact ⟨Q, h1, h2, h3, fun e a c => Int32.le_trans (h4 e a c) (nI_le hij (by omega))⟩
/-- the box that was open on top is over -/
theorem JK_pop {r : RS} {j q : Nat} (h : JK r j (q + 1)) (hu : gB r 28 (q + 1) ≤ nI j) : JK r j q := by
  obtain ⟨Q, h1, h2, h3, h4⟩ := h
  refine ⟨Q, h1, by omega, h3, fun e a c => ?_⟩
  by_cases he : e = q + 1
  · rw [he]; exact hu
  · exact h4 e (by omega) c
theorem l64_sub {a b : Int32} (h : ¬ iszl (a.toInt64 - b.toInt64) = 0) : (a - b).toInt64 = a.toInt64 - b.toInt64 := by
  have h1 := (l2i_sz h).2
  have h2 : (a.toInt64 - b.toInt64).toInt32 = a - b := by rw [Int64.toInt32_sub, Int32.toInt32_toInt64, Int32.toInt32_toInt64]
  rw [h2] at h1
  exact h1
theorem FB_up {r r' : RS} {b q bx : Nat} {F F' : Nat → Int32} (h : FB r b q bx F) (h1 : gB r' 30 (8 * q) = gB r 30 (8 * q)) (h2 : r'.2.2.2 q = (F' 11).toInt64) (h3 : gB r' 25 (bx - b) = gB r 25 (bx - b) ∧ gB r' 26 (bx - b) = gB r 26 (bx - b)) (h4 : gB r' 1 = gB r 1 ∧ gB r' 2 = gB r 2 ∧ gB r' 3 = gB r 3 ∧ gB r' 4 = gB r 4) (h5 : ∀ k, k ≠ 11 → F' k = F k) : FB r' b q bx F' := by
  obtain ⟨a1, a2, a3, a4, a5, a6, a7, a8, a9⟩ := h
  refine ⟨h1.trans a1, a2, h2, ?_, ?_, ?_, ?_, ?_, ?_⟩
  · rw [h3.1, a4, h5 9 (by decide)]
  · rw [h3.2, a5, h5 10 (by decide)]
  · rw [h4.1, a6, h5 5 (by decide)]
  · rw [h4.2.1, a7, h5 6 (by decide)]
  · rw [h4.2.2.1, a8, h5 7 (by decide)]
  · rw [h4.2.2.2, a9, h5 8 (by decide)]
section pi
variable {r : RS} {b q bx i : Nat} {F : Nat → Int32} {x : Rec} {v : Int32} {c' : List Rec}
/-- an item that opens nothing -/
theorem p_it0 (h : RW r i x) (hN : NK v (x, c')) (hB : FB r b q bx F) (hv : F 5 = v) (hbx : bx < i) (hg : ¬ gF r 33 = 0) (hq : q ≤ 100) (hJ : JK r i q) (hi : i + 1 < 10000) (he : ¬ (x.1 0 = 3 ∧ c' ≠ [])) : PU b i (i + 1) q r (pl1 r q i b F x) ∧ (¬ gF (pl1 r q i b F x) 33 = 0 ↔ ¬ badX F x) ∧ (¬ badX F x → FB (pl1 r q i b F x) b q bx (advX F x) ∧ JK (pl1 r q i b F x) (i + 1) q) := by
  have hne : ∀ e, e < i - b ∨ i + 1 - b ≤ e → e ≠ i - b ∨ i - b = i + 1 - b := fun e he => by omega
  have hbi := hB.2.1
  refine ⟨⟨fun k h1 h2 => pl1_F h1 h2, pl1_T, fun k h1 h2 _ _ => ?_, fun e he => ?_, fun e he => ?_, fun e he => ?_⟩, ?_, fun hb => ⟨?_, ?_⟩⟩
  · funext e
    rw [pl1_B, if_neg (fun z => h1 z.1), if_neg (fun z => h2 z.1)]
  · have hn : e ≠ i - b := by omega
    exact ⟨by rw [pl1_B, if_neg (fun z => hn z.2), if_neg (fun z => hn z.2)], by rw [pl1_B, if_neg (fun z => hn z.2), if_neg (fun z => hn z.2)]⟩
  · exact ⟨by rw [pl1_B, if_neg (by omega), if_neg (by omega)], by rw [pl1_B, if_neg (by omega), if_neg (by omega)]⟩
  · rw [pl1_L, if_neg (by omega)]
  · rw [pl1_33 hg]
    unfold badX
    by_cases h3 : x.1 0 = 3
    · have hc : c' = [] := Classical.byContradiction fun z => he ⟨h3, z⟩
      have h2 : x.1 2 = 0 := by
        rcases hN.2.1 with z | z
        · exact z.2.2.1 hc
        · exact absurd h3 z.1
      rw [if_pos h3, h2]
      unfold csb
      have h1 : ¬ x.1 0 = 1 := by rw [h3]; decide
      rw [if_neg h1]
      refine ⟨fun z y => ?_, fun z => ⟨fun y => z (Or.inl y), fun y => absurd y h1⟩⟩
      rcases y with y | y
      · exact z.1 y
      · have hz := z.1
        have hd : ¬ iszl (dnO F x.1) = 0 := by
          have : ¬ asz (rgO F x.1) (dnO F x.1) (beO F x.1) = 0 := hz
          unfold asz at this
          rw [i01] at this
          exact this.2.1
        by_cases hv0 : x.2.1 = 0
        · rw [if_pos hv0] at y; exact absurd y (by decide)
        · rw [if_neg hv0] at y
          have e0 : dnO F x.1 - (0 : Int32).toInt64 = dnO F x.1 := Int64.sub_zero _
          rw [e0] at y
          exact hd y
    · rw [if_neg h3]
      unfold csn
      by_cases h1 : x.1 0 = 1
      · rw [if_pos h1]
        exact ⟨fun z y => y.elim z.1 (z.2 h1), fun z => ⟨fun y => z (Or.inl y), fun _ y => z (Or.inr y)⟩⟩
      · rw [if_neg h1]
        exact ⟨fun z y => y.elim z.1 (fun y => absurd y (by decide)), fun z => ⟨fun y => z (Or.inl y), fun y => absurd y h1⟩⟩
  · refine FB_up hB ?_ ?_ ?_ ?_ (fun k hk => ad_n F x hk)
    · rw [pl1_B, if_neg (by omega), if_neg (by omega)]
    · rw [pl1_L, if_pos rfl]
      have hz : ¬ asz (rgO F x.1) (dnO F x.1) (beO F x.1) = 0 := fun y => hb (Or.inl y)
      unfold asz at hz
      rw [i01] at hz
      show _ = (va_up F 11 (beO F x.1).toInt32 11).toInt64
      rw [va_up_self, (l2i_sz hz.2.2).2]
    · have hn : bx - b ≠ i - b := by omega
      exact ⟨by rw [pl1_B, if_neg (fun z => hn z.2), if_neg (fun z => hn z.2)], by rw [pl1_B, if_neg (fun z => hn z.2), if_neg (fun z => hn z.2)]⟩
    · refine ⟨?_, ?_, ?_, ?_⟩ <;> (funext e; rw [pl1_B, if_neg (by omega), if_neg (by omega)])
  · exact ⟨q + 1, pl1_27, Nat.le_refl _, by omega, fun e a c => by omega⟩
end pi
