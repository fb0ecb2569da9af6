/-! the class's loop does what abF says -/
def GR (s s' : PS) (k : Nat) : Prop := ∃ more, xF s' = fwr (xF s) more ∧ wsum more ≤ k ∧ ∀ p ∈ more, p.2 ≤ 4
theorem wsum_app (a b : List (Int32 × Nat)) : wsum (a ++ b) = wsum a + wsum b := by
  induction a with
  | nil => exact (Nat.zero_add _).symm
  | cons p a ih => show p.2 + wsum (a ++ b) = p.2 + wsum a + wsum b; rw [ih]; omega
theorem GR_tr {s s' s'' : PS} {k k' : Nat} (h : GR s s' k) (h' : GR s' s'' k') : GR s s'' (k + k') := by
  obtain ⟨m, h1, h2, h3⟩ := h
  obtain ⟨m', g1, g2, g3⟩ := h'
  refine ⟨m ++ m', by rw [g1, h1, fwr_app], by rw [wsum_app]; omega, fun p hp => ?_⟩
  rcases List.mem_append.mp hp with z | z
  · exact h3 p z
  · exact g3 p z
def EF (i B k : Nat) (s s' : PS) : Prop := OS i s s' ∧ GR s s' k ∧ xN s' ≤ max (xN s) B
theorem EF_tr {i B k k' : Nat} {s s' s'' : PS} (h : EF i B k s s') (h' : EF i B k' s' s'') : EF i B (k + k') s s'' := ⟨OS_tr h.1 h'.1, GR_tr h.2.1 h'.2.1, by have := h.2.2; have := h'.2.2; omega⟩
theorem EF_mono {i B k j B' k' : Nat} {s s' : PS} (h : EF j B k s s') (h1 : i ≤ j) (h2 : B ≤ B') (h3 : k ≤ k') : EF i B' k' s s' := by
  obtain ⟨a, ⟨m, b1, b2, b3⟩, c⟩ := h
  exact ⟨OS_le a h1, ⟨m, b1, Nat.le_trans b2 h3, b3⟩, by omega⟩
theorem EF_0 {i B : Nat} {s s' : PS} (h : OS i s s') (hF : xF s' = xF s) (hN : xN s' = xN s) : EF i B 0 s s' := ⟨h, ⟨[], hF, Nat.le_refl _, fun _ z => by cases z⟩, by omega⟩
theorem nbl_4 (m : Int64) : nbl m ≤ 4 := by
  unfold nbl
  split
  · decide
  · split
    · decide
    · split <;> decide
theorem gby_4 (m : Int64) (t : TR) : gby m t ≤ 4 := by
  unfold gby
  split
  · decide
  · exact nbl_4 m
theorem goL_b (c x : Int32) (t : TR) : wsum (goL c x t) ≤ 5 ∧ ∀ p ∈ goL c x t, p.2 ≤ 4 := by
  have h4 := gby_4 (gmv x t) t
  unfold goL
  split
  · exact ⟨Nat.zero_le _, fun _ z => by cases z⟩
  · split
    · exact ⟨Nat.zero_le _, fun _ z => by cases z⟩
    · refine ⟨show 1 + (gby (gmv x t) t + 0) ≤ 5 by omega, fun p hp => ?_⟩
      unfold gL1 at hp
      simp only [List.mem_cons, List.not_mem_nil, or_false] at hp
      rcases hp with rfl | rfl
      · exact show 1 ≤ 4 by decide
      · exact h4
theorem mvL_b (s : PS) (x y : Int32) : wsum (mvL s x y) ≤ 10 ∧ ∀ p ∈ mvL s x y, p.2 ≤ 4 := by
  have h1 := goL_b 147 x (xT s 0)
  have h2 := goL_b 161 y (xT s 1)
  unfold mvL
  split
  · rw [List.append_nil]; exact ⟨by omega, h1.2⟩
  · refine ⟨by rw [wsum_app]; omega, fun p hp => ?_⟩
    rcases List.mem_append.mp hp with z | z
    · exact h1.2 p z
    · exact h2.2 p z
theorem EF_mv {i B : Nat} {s : PS} {x y : Int32} (h : OS i s (mvS s x y)) : EF i B 10 s (mvS s x y) := ⟨h, ⟨mvL s x y, mvS_F s x y, mvL_b s x y⟩, by rw [mvS_N]; omega⟩
theorem EF_ru {i B : Nat} (s : PS) (F I : Nat → Int32) : EF i B 9 s (ruS s F I) := by
  refine ⟨(ruS_27 s F I).2 i, ⟨ruL F I, ruS_F s F I, by show 1 + (4 + (4 + 0)) ≤ 9; decide, fun p hp => ?_⟩, by rw [ruS_N]; omega⟩
  unfold ruL at hp
  simp only [List.mem_cons, List.not_mem_nil, or_false] at hp
  rcases hp with rfl | rfl | rfl
  · exact show 1 ≤ 4 by decide
  · exact show 4 ≤ 4 by decide
  · exact show 4 ≤ 4 by decide
theorem fnL_b (s : PS) (m : Nat) : wsum (fnL s m) = 17 ∧ ∀ p ∈ fnL s m, p.2 ≤ 4 := by
  refine ⟨rfl, fun p hp => ?_⟩
  unfold fnL at hp
  simp only [List.mem_cons, List.not_mem_nil, or_false] at hp
  rcases hp with rfl | rfl | rfl | rfl | rfl | rfl | rfl | rfl <;> exact Nat.le_of_ble_eq_true rfl
theorem wl3_b (I : Nat → Int32) : wsum (wl3 I) ≤ 2 ∧ ∀ p ∈ wl3 I, p.2 ≤ 4 := by
  unfold wl3
  split
  · exact ⟨Nat.le_of_ble_eq_true rfl, fun p hp => by rw [List.mem_singleton.mp hp]; exact Nat.le_of_ble_eq_true rfl⟩
  · refine ⟨Nat.le_of_ble_eq_true rfl, fun p hp => ?_⟩
    simp only [List.mem_cons, List.not_mem_nil, or_false] at hp
    rcases hp with rfl | rfl <;> exact (by decide : 1 ≤ 4)
theorem wl2_b (s : PS) (I : Nat → Int32) : wsum (wl2 s I) ≤ 3 ∧ ∀ p ∈ wl2 s I, p.2 ≤ 4 := by
  have h := wl3_b I
  unfold wl2
  split
  · exact ⟨by omega, h.2⟩
  · refine ⟨show 1 + wsum (wl3 I) ≤ 3 by omega, fun p hp => ?_⟩
    rcases List.mem_cons.mp hp with rfl | hp
    · exact (by decide : 1 ≤ 4)
    · exact h.2 p hp
theorem wl1_b (s : PS) (I : Nat → Int32) (m : Nat) : wsum (wl1 s I m) ≤ 20 ∧ ∀ p ∈ wl1 s I m, p.2 ≤ 4 := by
  have h := wl2_b s I
  have h2 := fnL_b s m
  unfold wl1
  split
  · refine ⟨by rw [wsum_app]; omega, fun p hp => ?_⟩
    rcases List.mem_append.mp hp with z | z
    · exact h2.2 p z
    · exact h.2 p z
  · exact ⟨by omega, h.2⟩
theorem wc1_OS (s : PS) (I : Nat → Int32) (m i : Nat) : OS i s (wc1 s I m) := by
  obtain ⟨a1, a2, a3, a4, a5, a6, a7, a8, a9, a10⟩ := wc1_S s I m
  exact ⟨a6, a7, fun j b1 b2 b3 b4 => a5 j b1 b4, fun j _ => by rw [a9], by rw [a10]; exact Nat.le_refl _⟩
theorem EF_ch {i B : Nat} (s : PS) (I : Nat → Int32) (m : Nat) : EF i B 20 s (wc1 s I m) := ⟨wc1_OS s I m i, ⟨wl1 s I m, wc1_F s I m, wl1_b s I m⟩, by rw [wc1_N]; omega⟩
theorem EF_en {i B : Nat} (s : PS) (hi : i < xN s) (v w h d : Int32) (fo : Option Nat) (hB : i + 2 ≤ B) : EF (i + 1) B 1 s (enS (inS s i) (i + 1) v w h d fo) := by
  obtain ⟨b1, b2, b3, b4, b5⟩ := inS_S s i
  have hN := inS_N hi
  refine ⟨⟨b2, b3, fun j _ hj _ _ => ?_, fun j hj => ?_, by rw [enS_N]; exact hN.1⟩, ⟨[(141, 1)], by rw [enS_F, inS_F], by decide, fun p hp => by rw [List.mem_singleton.mp hp]; decide⟩, ?_⟩
  · show va_up (inS s i).1 26 _ j = _
    rw [va_up_ne _ _ hj, b1]
  · show va_up (xG (inS s i)) (i + 1) _ j = _
    rw [va_up_ne _ _ (by omega), b5 j (by omega)]
  · rw [enS_N]
    unfold inS
    split
    · omega
    · show i + 1 + 1 ≤ _; omega
theorem EF_le {i B : Nat} (s : PS) : EF (i + 1) B 1 s (leS s (i + 1)) := ⟨⟨rfl, rfl, fun _ _ _ _ _ => rfl, fun _ _ => rfl, Nat.le_refl _⟩, ⟨[(142, 1)], leS_F s (i + 1), by decide, fun p hp => by rw [List.mem_singleton.mp hp]; decide⟩, by rw [leS_N]; omega⟩
section cr
variable {Z : MP} {n i : Nat} {s sE : PS}
theorem cR_fail (h : ¬ s.1 27 = 0) : cRun Z (n + 1) s i s := Or.inl ⟨h, rfl⟩
theorem cR_item {a m : Nat} {I : Nat → Int32} {nx : Option Nat} (h : s.1 27 = 0) (h1 : (xG s i).2.1 = some a) (h2 : Z a = some (.inr (5, itv I .null (va_rf nx)))) (h3 : I 0 = 0 ∨ I 0 = 1 ∨ I 0 = 2) (h4 : m < 32) (h5 : I 4 = nI m) (hr : cRun Z n (wi0 (nxS s i nx) i I m) i sE) : cRun Z (n + 1) s i sE := Or.inr ⟨h, Or.inr (Or.inl ⟨a, I, nx, m, h1, h2, h3, h4, fun _ => h5, hr⟩)⟩
theorem cR_box {a q : Nat} {I : Nat → Int32} {nx fo : Option Nat} {v w h' d it ne : Int32} (h : s.1 27 = 0) (h1 : (xG s i).2.1 = some a) (h2 : Z a = some (.inr (5, itv I (.ref q) (va_rf nx)))) (h3 : Z q = some (.inr (1, bxv v w h' d (va_rf fo) it ne))) (h4 : isz1 v) (h5 : I 0 = 3) (hr : cRun Z n (wi1 (nxS s i nx) i I v w h' d fo) (wi1i (nxS s i nx) i I v h' fo) sE) : cRun Z (n + 1) s i sE := Or.inr ⟨h, Or.inr (Or.inr ⟨a, I, nx, q, v, w, h', d, it, ne, fo, h1, h2, h3, h4, h5, hr⟩)⟩
theorem cR_le (h : s.1 27 = 0) (h1 : (xG s (i + 1)).2.1 = none) (hr : cRun Z n (leS s (i + 1)) i sE) : cRun Z (n + 1) s (i + 1) sE := Or.inr ⟨h, Or.inl ⟨h1, Or.inr ⟨i, rfl, hr⟩⟩⟩
theorem cR_end (h : s.1 27 = 0) (h1 : (xG s 0).2.1 = none) : cRun Z (n + 1) s 0 (leS s 0) := Or.inr ⟨h, Or.inl ⟨h1, Or.inl ⟨rfl, rfl⟩⟩⟩
end cr
theorem CH_nil {Zf : MP} {n : Nat} {q : Option Nat} {v : Int32} {c : List Rec} {d : Nat} (h : CH Zf n q v c d) : q = none ↔ c = [] := by
  cases n with
  | zero => exact ⟨fun _ => h.2.1, fun _ => h.1⟩
  | succ n =>
    obtain ⟨ts, rfl, -, h3⟩ := h
    cases ts with
    | nil => exact ⟨fun _ => rfl, fun _ => h3⟩
    | cons p ts =>
      obtain ⟨a, nx, bo, h1, -⟩ := h3
      exact ⟨fun z => (by rw [h1] at z; cases z), fun z => (by cases z)⟩
theorem PX_ts {Zf : MP} {q : Option Nat} {v : Int32} {c : List Rec} {d : Nat} (h : PX Zf q v c d) : ∃ ts, c = flt ts ∧ chn (PX Zf) Zf v q ts := by
  obtain ⟨n, h⟩ := h
  cases n with
  | zero => exact ⟨[], h.2.1, h.1⟩
  | succ n =>
    obtain ⟨ts, h1, -, h3⟩ := h
    exact ⟨ts, h1, chn_mono (fun _ _ z => z) (fun _ _ _ _ z => ⟨n, z⟩) h3⟩
