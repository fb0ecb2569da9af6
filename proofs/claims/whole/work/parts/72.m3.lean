/-! measures: the class's running ones and the reference's at the end -/
def mea (v : Int32) : List TRE → T3 → T3
  | [], t => t
  | p :: ts, t => mea v ts (olm v p.1.1 t)
theorem mea_app (v : Int32) (a b : List TRE) : ∀ t, mea v (a ++ b) t = mea v b (mea v a t) := by
  induction a with
  | nil => intro t; rfl
  | cons p a ih => intro t; exact ih _
def rlT (v : Int32) (c : T3) : T3 := if v = 0 then c else (c.1, c.2.1 + c.2.2, c.2.2)
def nnT (v : Int32) (c : T3) : Prop := if v = 0 then 0 ≤ c.2.1 ∧ 0 ≤ c.2.2 else 0 ≤ c.1
theorem maxl_eq (m x : Int64) : (if m < x then x else m) = maxl m x := by
  unfold maxl
  by_cases h : m < x
  · rw [if_pos h, if_neg (fun z => Int64.lt_irrefl (Int64.lt_trans h z))]
  · rw [if_neg h]
    by_cases h2 : x < m
    · rw [if_pos h2]
    · rw [if_neg h2]; exact Int64.le_antisymm (Int64.not_lt.mp h2) (Int64.not_lt.mp h)
theorem maxl_0 {m : Int64} (h : 0 ≤ m) : maxl m 0 = m := by
  unfold maxl
  by_cases h2 : 0 < m
  · rw [if_pos h2]
  · rw [if_neg h2]; exact Int64.le_antisymm h (Int64.not_lt.mp h2)
theorem maxl_ge (m x : Int64) : m ≤ maxl m x := by
  unfold maxl
  split
  · exact Int64.le_refl _
  · next h => exact Int64.not_lt.mp h
theorem sz_ne {x : Int32} (h : sz4 x) : ¬ x = -2147483648 := fun z => by rw [z] at h; exact h (by decide)
theorem run1_0 {x bit w : Int32} (hb : ¬ (0 : Int32) = bit) (h : x &&& bit = 0) : run1 x bit w = w := by
  unfold run1
  rw [h, if_neg hb]
/-- a bit that stands alone: both ways of asking for it -/
def bit1 (x bit : Int32) : Prop := x &&& bit = 0 ∨ x &&& bit = bit
theorem run1_1 {x bit w : Int32} (h : bit1 x bit) (hn : ¬ x &&& bit = 0) : run1 x bit w = -2147483648 := by
  unfold run1
  rcases h with z | z
  · exact absurd z hn
  · rw [if_pos z]
theorem bit1_k {bit : Int32} (k : Nat) (hb : bit.toBitVec = BitVec.twoPow 32 k) (x : Int32) : bit1 x bit := by
  have h : (x &&& bit).toBitVec = if x.toBitVec.getLsbD k then BitVec.twoPow 32 k else 0#32 := by
    rw [Int32.toBitVec_and, hb, BitVec.and_twoPow]
  unfold bit1
  by_cases hx : x.toBitVec.getLsbD k = true
  · rw [if_pos hx, ← hb] at h; exact Or.inr (Int32.toBitVec_inj.mp h)
  · rw [if_neg hx] at h; exact Or.inl (Int32.toBitVec_inj.mp h)
theorem bit1_1 (x : Int32) : bit1 x 1 := bit1_k 0 (by decide) x
theorem bit1_2 (x : Int32) : bit1 x 2 := bit1_k 1 (by decide) x
theorem bit1_4 (x : Int32) : bit1 x 4 := bit1_k 2 (by decide) x
theorem clm_R {r : RS} {i f : Nat} {z : Int32} {x m : Int64} (hz : ¬ z = 0) (hg : ¬ gB r f i = -2147483648) : clm r f i z x m = maxl m x := by
  unfold clm
  rw [← maxl_eq]
  by_cases h : m < x
  · rw [if_pos ⟨hz, hg, h⟩, if_pos h]
  · rw [if_neg (fun y => h y.2.2), if_neg h]
theorem clm_0 {r : RS} {i f : Nat} {z : Int32} {x m : Int64} (h : z = 0 ∨ gB r f i = -2147483648) : clm r f i z x m = m := by
  unfold clm
  rw [if_neg (fun y => h.elim y.1 y.2.1)]
/-- one step of the reference's measuring -/
theorem cst_R {r : RS} {v : Int32} {i : Nat} {x : Rec} {c : T3} (h : RW r i x) (hI : IOK v x) (hn : nnT v c) : cst r v i (rlT v c) = rlT v (olm v x.1 c) ∧ nnT v (olm v x.1 c) := by
  obtain ⟨hk, -, ⟨s1, s2, s3, -⟩, h6, h7, hv0, hv1, h2, r1, r2, r4⟩ := hI
  have e3 := h 3 (by decide) (by decide)
  have e4 := h 4 (by decide) (by decide)
  have e2 := h 2 (by decide) (by decide)
  have e5 := h 5 (by decide) (by decide)
  have hkk := k3_R h hk
  have hib := isb_R h hk
  have g2 : gB r 2 i = run1 (x.1 6) 1 (x.1 1) := e2
  have g3 : gB r 3 i = run1 (x.1 6) 2 (x.1 2) := e3
  have g4 : gB r 4 i = run1 (x.1 6) 4 (x.1 3) := e4
  have hs : cls1 r i = (x.1 7).toInt64 := by
    unfold cls1
    by_cases h3 : x.1 0 = 3
    · rw [hib, if_pos h3, if_neg (by decide), e5]
      show (if x.1 0 = 0 then x.1 4 else x.1 7).toInt64 = _
      rw [h3, if_neg (by decide)]
    · rw [hib, if_neg h3, if_pos rfl, h7 h3]; rfl
  have hz : clsz r i = if x.1 0 = 2 then 0 else 1 := by
    unfold clsz
    by_cases h9 : x.1 0 = 2
    · rw [if_pos h9, if_pos (hkk.1.mpr h9)]
    · rw [if_neg h9, if_neg (fun z => h9 (hkk.1.mp z))]
  by_cases hv : v = 0
  · have n1 : 0 ≤ c.2.1 ∧ 0 ≤ c.2.2 := by unfold nnT at hn; rw [if_pos hv] at hn; exact hn
    have w2 : gB r 2 i = x.1 1 := by rw [g2]; exact run1_0 (by decide) (hv0 hv)
    have hA : olm v x.1 c = olmA x.1 c := if_pos hv
    have m3 : clm r 3 i (clsz r i) ((gB r 3 i).toInt64 - cls1 r i) c.2.1 = maxl c.2.1 ((x.1 2).toInt64 - (x.1 7).toInt64) := by
      by_cases h9 : x.1 0 = 2
      · rw [clm_0 (Or.inl (by rw [hz, if_pos h9])), (h2 h9).1, h7 (by rw [h9]; decide)]
        exact (maxl_0 n1.1).symm
      · by_cases hr : x.1 6 &&& 2 = 0
        · have y3 : gB r 3 i = x.1 2 := by rw [g3]; exact run1_0 (by decide) hr
          rw [clm_R (by rw [hz, if_neg h9]; decide) (by rw [y3]; exact sz_ne s2), y3, hs]
        · have h1 : x.1 0 = 1 := Classical.byContradiction (fun z => hr (by rw [h6 z]; decide))
          rw [clm_0 (Or.inr (by rw [g3]; exact run1_1 (bit1_2 _) hr)), r2 hr, h7 (by rw [h1]; decide)]
          exact (maxl_0 n1.1).symm
    have m4 : clm r 4 i (clsz r i) ((gB r 4 i).toInt64 + cls1 r i) c.2.2 = maxl c.2.2 ((x.1 3).toInt64 + (x.1 7).toInt64) := by
      by_cases h9 : x.1 0 = 2
      · rw [clm_0 (Or.inl (by rw [hz, if_pos h9])), (h2 h9).2, h7 (by rw [h9]; decide)]
        exact (maxl_0 n1.2).symm
      · by_cases hr : x.1 6 &&& 4 = 0
        · have y3 : gB r 4 i = x.1 3 := by rw [g4]; exact run1_0 (by decide) hr
          rw [clm_R (by rw [hz, if_neg h9]; decide) (by rw [y3]; exact sz_ne s3), y3, hs]
        · have h1 : x.1 0 = 1 := Classical.byContradiction (fun z => hr (by rw [h6 z]; decide))
          rw [clm_0 (Or.inr (by rw [g4]; exact run1_1 (bit1_4 _) hr)), r4 hr, h7 (by rw [h1]; decide)]
          exact (maxl_0 n1.2).symm
    constructor
    · rw [hA]
      unfold cst rlT
      rw [if_pos hv, if_pos hv, if_pos hv, w2, m3, m4]
      rfl
    · rw [hA]
      unfold nnT
      rw [if_pos hv]
      exact ⟨Int64.le_trans n1.1 (maxl_ge _ _), Int64.le_trans n1.2 (maxl_ge _ _)⟩
  · have n1 : 0 ≤ c.1 := by unfold nnT at hn; rw [if_neg hv] at hn; exact hn
    obtain ⟨q2, q4, q0⟩ := hv1 hv
    have w3 : gB r 3 i = x.1 2 := by rw [g3]; exact run1_0 (by decide) q2
    have w4 : gB r 4 i = x.1 3 := by rw [g4]; exact run1_0 (by decide) q4
    have hA : olm v x.1 c = olmD x.1 c := if_neg hv
    by_cases h9 : x.1 0 = 2
    · have w2 : gB r 2 i = x.1 1 := by rw [g2]; exact run1_0 (by decide) (by rw [h6 (by rw [h9]; decide)]; decide)
      have hD : olmD x.1 c = (c.1, c.2.1 + c.2.2 + (x.1 1).toInt64, 0) := if_pos h9
      rw [hA, hD]
      constructor
      · unfold cst rlT clh cld
        rw [if_neg hv, if_neg hv, if_neg hv, hz, if_pos h9, if_pos rfl, if_pos rfl, clm_0 (Or.inl rfl), w2]
        show (c.1, c.2.1 + c.2.2 + (x.1 1).toInt64, 0) = (c.1, c.2.1 + c.2.2 + (x.1 1).toInt64 + 0, (0 : Int64))
        rw [Int64.add_zero]
      · unfold nnT
        rw [if_neg hv]
        exact n1
    · have hD : olmD x.1 c = (maxl c.1 ((x.1 1).toInt64 + (x.1 7).toInt64), c.2.1 + c.2.2 + (x.1 2).toInt64, (x.1 3).toInt64) := if_neg h9
      have m2 : clm r 2 i (clsz r i) ((gB r 2 i).toInt64 + cls1 r i) c.1 = maxl c.1 ((x.1 1).toInt64 + (x.1 7).toInt64) := by
        by_cases hr : x.1 6 &&& 1 = 0
        · have y3 : gB r 2 i = x.1 1 := by rw [g2]; exact run1_0 (by decide) hr
          rw [clm_R (by rw [hz, if_neg h9]; decide) (by rw [y3]; exact sz_ne s1), y3, hs]
        · have h1 : x.1 0 = 1 := Classical.byContradiction (fun z => hr (by rw [h6 z]; decide))
          rw [clm_0 (Or.inr (by rw [g2]; exact run1_1 (bit1_1 _) hr)), r1 hr, h7 (by rw [h1]; decide)]
          exact (maxl_0 n1).symm
      rw [hA, hD]
      constructor
      · unfold cst rlT clh cld
        rw [if_neg hv, if_neg hv, if_neg hv]
        show (clm r 2 i (clsz r i) ((gB r 2 i).toInt64 + cls1 r i) c.1, c.2.1 + c.2.2 + (if clsz r i = 0 then (gB r 2 i).toInt64 else (gB r 3 i).toInt64 + (gB r 4 i).toInt64), if clsz r i = 0 then 0 else (gB r 4 i).toInt64) = (maxl c.1 ((x.1 1).toInt64 + (x.1 7).toInt64), c.2.1 + c.2.2 + (x.1 2).toInt64 + (x.1 3).toInt64, (x.1 3).toInt64)
        rw [m2, hz, if_neg h9, if_neg (by decide), if_neg (by decide), w3, w4, Int64.add_assoc (c.2.1 + c.2.2)]
      · unfold nnT
        rw [if_neg hv]
        exact Int64.le_trans n1 (maxl_ge _ _)
/-- the reference's measuring of a whole list -/
theorem clo_R {r : RS} {v : Int32} {sp : Nat → Nat} {e : Nat} : ∀ (ts : List TRE) {a m : Nat} {c : T3}, (∀ p ∈ ts, NK v p) → RWs r a (flt ts) → e = a + (flt ts).length → (flt ts).length ≤ m → (∀ j, a ≤ j → j < e → gB r 7 j = nI (sp j)) → e < 10000 → (∀ j, a ≤ j → j < e → sp j < 10000) → nnT v c → clo r v sp e m a (rlT v c) = rlT v (mea v ts c) ∧ nnT v (mea v ts c) := by
  intro ts
  induction ts with
  | nil =>
    intro a m c _ _ he _ _ _ _ hn
    refine ⟨?_, hn⟩
    cases m with
    | zero => rfl
    | succ m => show (if a < e then _ else rlT v c) = _; rw [if_neg (by rw [he]; exact Nat.lt_irrefl _)]; rfl
  | cons p ts ih =>
    intro a m c hp hr he hm hsp hb hsb hn
    obtain ⟨h1, h2, h3⟩ := RWs_flt hr
    have hN := hp p List.mem_cons_self
    have hlen : (flt (p :: ts)).length = 1 + p.2.length + (flt ts).length := by show (p.2 ++ flt ts).length + 1 = _; rw [List.length_append]; omega
    rw [hlen] at he hm
    cases m with
    | zero => omega
    | succ m =>
      have hsa : sp a = p.2.length + 1 := by
        have q1 := hsp a (Nat.le_refl _) (by omega)
        rw [span_R h1, hN.1] at q1
        exact ((nI_eq (by omega) (by have := hsb a (Nat.le_refl _) (by omega); omega)).mp q1).symm
      obtain ⟨c1, c2⟩ := cst_R h1 hN.2.2 hn
      show (if a < e then clo r v sp e m (a + sp a) (cst r v a (rlT v c)) else rlT v c) = _ ∧ _
      rw [if_pos (by omega), c1, hsa]
      exact ih (fun q hq => hp q (List.mem_cons_of_mem _ hq)) (by rw [show a + (p.2.length + 1) = a + 1 + p.2.length by omega]; exact h3) (by omega) (by omega) (fun j j1 j2 => hsp j (by omega) j2) hb (fun j j1 j2 => hsb j (by omega) j2) c2
/-- spans stay inside -/
theorem span_in : ∀ (n : Nat) {v : Int32} {c : List Rec} {d : Nat}, WF n v c d → ∀ i x, c[i]? = some x → 0 < x.2.2.1 ∧ i + x.2.2.1 ≤ c.length := by
  intro n
  induction n with
  | zero => intro v c d h i x hx; rw [h.1] at hx; cases i <;> cases hx
  | succ n ih =>
    intro v c d h i x hx
    obtain ⟨ts, rfl, -, hp⟩ := h
    clear d
    induction ts generalizing i with
    | nil => cases i <;> cases hx
    | cons p ts ihs =>
      obtain ⟨hN, hW⟩ := hp p List.mem_cons_self
      have hlen : (flt (p :: ts)).length = 1 + p.2.length + (flt ts).length := by show (p.2 ++ flt ts).length + 1 = _; rw [List.length_append]; omega
      rw [hlen]
      cases i with
      | zero => cases hx; rw [hN.1]; omega
      | succ i =>
        have hx : (p.2 ++ flt ts)[i]? = some x := hx
        by_cases hi : i < p.2.length
        · rw [List.getElem?_append_left hi] at hx
          have := ih hW i x hx
          omega
        · rw [List.getElem?_append_right (by omega)] at hx
          have := ihs (i - p.2.length) hx (fun q hq => hp q (List.mem_cons_of_mem _ hq))
          omega
