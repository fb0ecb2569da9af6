/-! MATHEMATICS: records and the reference's rows -/
abbrev Rec : Type := (Nat → Int32) × Int32 × Nat × Nat
def rC (x : Rec) (j : Nat) : Int32 := if j = 1 then (if x.1 0 = 0 then 1 else if x.1 0 = 1 then 2 else if x.1 0 = 2 then 3 else if x.2.1 = 0 then 4 else 5) else if j = 2 then run1 (x.1 6) 1 (x.1 1) else if j = 3 then run1 (x.1 6) 2 (x.1 2) else if j = 4 then run1 (x.1 6) 4 (x.1 3) else if j = 5 then (if x.1 0 = 0 then x.1 4 else x.1 7) else if j = 6 then x.1 5 else nI x.2.2.1
def RW (r : RS) (i : Nat) (x : Rec) : Prop := ∀ j, 1 ≤ j → j ≤ 7 → gB r j i = rC x j
def RWs (r : RS) (b : Nat) : List Rec → Prop
  | [] => True
  | x :: L => RW r b x ∧ RWs r (b + 1) L
theorem RWs_app (r : RS) (L1 L2 : List Rec) : ∀ b, RWs r b (L1 ++ L2) ↔ RWs r b L1 ∧ RWs r (b + L1.length) L2 := by
  induction L1 with
  | nil => intro b; exact ⟨fun h => ⟨trivial, h⟩, fun h => h.2⟩
  | cons x L ih =>
    intro b
    show RW r b x ∧ RWs r (b + 1) (L ++ L2) ↔ (RW r b x ∧ RWs r (b + 1) L) ∧ RWs r (b + (L.length + 1)) L2
    rw [ih (b + 1), show b + 1 + L.length = b + (L.length + 1) by omega]
    exact ⟨fun h => ⟨⟨h.1, h.2.1⟩, h.2.2⟩, fun h => ⟨h.1.1, h.1.2, h.2⟩⟩
theorem RWs_at {r : RS} : ∀ {L : List Rec} {b i : Nat} {x : Rec}, RWs r b L → L[i]? = some x → RW r (b + i) x := by
  intro L
  induction L with
  | nil => intro b i x _ h; cases i <;> cases h
  | cons y L ih =>
    intro b i x h hi
    cases i with
    | zero => cases hi; exact h.1
    | succ i => rw [show b + (i + 1) = b + 1 + i by omega]; exact ih h.2 hi
/-- the rows of another state, shifted -/
theorem RWs_sh {r r' : RS} : ∀ {L : List Rec} {b b' : Nat}, RWs r b L → (∀ i, i < L.length → ∀ j, 1 ≤ j → j ≤ 7 → gB r' j (b' + i) = gB r j (b + i)) → RWs r' b' L := by
  intro L
  induction L with
  | nil => intro b b' _ _; exact trivial
  | cons y L ih =>
    intro b b' h hs
    refine ⟨fun j h1 h2 => (hs 0 (Nat.succ_pos _) j h1 h2).trans (h.1 j h1 h2), ih h.2 (fun i hi j h1 h2 => ?_)⟩
    have := hs (i + 1) (Nat.succ_lt_succ hi) j h1 h2
    rw [show b' + 1 + i = b' + (i + 1) by omega, show b + 1 + i = b + (i + 1) by omega]
    exact this
theorem w1_BB (r : RS) (k e : Nat) (v : Int32) (j i : Nat) : gB (w1 r k e v) j i = if j = k ∧ i = e then v else gB r j i := by
  unfold w1
  by_cases hj : j = k
  · subst hj
    show (va_up r.2.2.1 j _) j i = _
    rw [va_up_self]
    by_cases hi : i = e
    · subst hi; rw [if_pos ⟨rfl, rfl⟩]; exact if_pos rfl
    · rw [if_neg (fun z => hi z.2)]; exact if_neg hi
  · rw [if_neg (fun z => hj z.1)]
    show (va_up r.2.2.1 k _) j i = _
    rw [va_up_ne _ _ hj]
    rfl
theorem w1_FF (r : RS) (k e : Nat) (v : Int32) (j : Nat) : gF (w1 r k e v) j = gF r j := rfl
theorem sF_BB (r : RS) (k : Nat) (v : Int32) (j : Nat) : gB (sF r k v) j = gB r j := rfl
theorem sF_FF (r : RS) (k : Nat) (v : Int32) (j : Nat) : gF (sF r k v) j = if j = k then v else gF r j := rfl
theorem mv_R (r : RS) (a b : Nat) {j : Nat} (h1 : 1 ≤ j) (h7 : j ≤ 7) (i : Nat) : gB (mv r a b) j i = if i = b then gB r j a else gB r j i := by
  have hs : ∀ (r : RS) (k : Nat), gB (mv1 r k a b) k i = if i = b then gB r k a else gB r k i := fun r k => by
    show (va_up r.2.2.1 k _) k i = _
    rw [va_up_self]
    rfl
  have hn : ∀ (r : RS) (k j : Nat), j ≠ k → ∀ i, gB (mv1 r k a b) j i = gB r j i := fun r k j h i => by rw [mv1_B _ _ _ h]
  unfold mv
  have hj : j = 1 ∨ j = 2 ∨ j = 3 ∨ j = 4 ∨ j = 5 ∨ j = 6 ∨ j = 7 := by omega
  rcases hj with rfl | rfl | rfl | rfl | rfl | rfl | rfl
  · rw [hn _ 7 1 (by decide), hn _ 6 1 (by decide), hn _ 5 1 (by decide), hn _ 4 1 (by decide), hn _ 3 1 (by decide), hn _ 2 1 (by decide), hs]
  · rw [hn _ 7 2 (by decide), hn _ 6 2 (by decide), hn _ 5 2 (by decide), hn _ 4 2 (by decide), hn _ 3 2 (by decide), hs, hn _ 1 2 (by decide), hn _ 1 2 (by decide)]
  · rw [hn _ 7 3 (by decide), hn _ 6 3 (by decide), hn _ 5 3 (by decide), hn _ 4 3 (by decide), hs, hn _ 2 3 (by decide), hn _ 1 3 (by decide), hn _ 2 3 (by decide), hn _ 1 3 (by decide)]
  · rw [hn _ 7 4 (by decide), hn _ 6 4 (by decide), hn _ 5 4 (by decide), hs, hn _ 3 4 (by decide), hn _ 2 4 (by decide), hn _ 1 4 (by decide), hn _ 3 4 (by decide), hn _ 2 4 (by decide), hn _ 1 4 (by decide)]
  · rw [hn _ 7 5 (by decide), hn _ 6 5 (by decide), hs, hn _ 4 5 (by decide), hn _ 3 5 (by decide), hn _ 2 5 (by decide), hn _ 1 5 (by decide), hn _ 4 5 (by decide), hn _ 3 5 (by decide), hn _ 2 5 (by decide), hn _ 1 5 (by decide)]
  · rw [hn _ 7 6 (by decide), hs, hn _ 5 6 (by decide), hn _ 4 6 (by decide), hn _ 3 6 (by decide), hn _ 2 6 (by decide), hn _ 1 6 (by decide), hn _ 5 6 (by decide), hn _ 4 6 (by decide), hn _ 3 6 (by decide), hn _ 2 6 (by decide), hn _ 1 6 (by decide)]
  · rw [hs, hn _ 6 7 (by decide), hn _ 5 7 (by decide), hn _ 4 7 (by decide), hn _ 3 7 (by decide), hn _ 2 7 (by decide), hn _ 1 7 (by decide), hn _ 6 7 (by decide), hn _ 5 7 (by decide), hn _ 4 7 (by decide), hn _ 3 7 (by decide), hn _ 2 7 (by decide), hn _ 1 7 (by decide)]
theorem mvd_R {n : Nat} : ∀ (m : Nat) (r : RS) (i0 : Nat), n ≤ i0 → ∀ {j : Nat}, 1 ≤ j → j ≤ 7 → ∀ i, gB (mvd n m r i0) j i = if i0 - n ≤ i ∧ i < i0 - n + m then gB r j (i + n) else gB r j i := by
  intro m
  induction m with
  | zero => intro r i0 _ j _ _ i; rw [if_neg (by omega)]; rfl
  | succ m ih =>
    intro r i0 hn j h1 h7 i
    show gB (mvd n m (mv r i0 (i0 - n)) (i0 + 1)) j i = _
    rw [ih _ (i0 + 1) (by omega) h1 h7, mv_R _ _ _ h1 h7, mv_R _ _ _ h1 h7]
    by_cases c1 : i = i0 - n
    · rw [if_neg (by omega), if_pos c1, if_pos (by omega), show i + n = i0 by omega]
    · by_cases c2 : i0 + 1 - n ≤ i ∧ i < i0 + 1 - n + m
      · rw [if_pos c2, if_neg (by omega), if_pos (by omega)]
      · rw [if_neg c2, if_neg c1, if_neg (by omega)]
theorem mvd_BB {n : Nat} {k : Nat} (h : 7 < k) : ∀ (m : Nat) (r : RS) (i0 : Nat), gB (mvd n m r i0) k = gB r k := by
  intro m
  induction m with
  | zero => intro r i0; rfl
  | succ m ih => intro r i0; exact (ih _ _).trans (mv_B _ _ _ h)
theorem mvd_FF {n : Nat} (k : Nat) : ∀ (m : Nat) (r : RS) (i0 : Nat), gF (mvd n m r i0) k = gF r k := by
  intro m
  induction m with
  | zero => intro r i0; rfl
  | succ m ih => intro r i0; exact (ih _ _).trans (mv_F _ _ _ _)
theorem mv_T (r : RS) (a b : Nat) : (mv r a b).2.1 = r.2.1 := rfl
theorem mvd_T {n : Nat} : ∀ (m : Nat) (r : RS) (i0 : Nat), (mvd n m r i0).2.1 = r.2.1 := by
  intro m
  induction m with
  | zero => intro r i0; rfl
  | succ m ih => intro r i0; exact (ih _ _).trans (mv_T _ _ _)
theorem mvu_R {n p : Nat} (hn : 0 < n) : ∀ (m : Nat) (r : RS) {j : Nat}, 1 ≤ j → j ≤ 7 → ∀ i, gB (mvu n p m r) j i = if p + n ≤ i ∧ i < p + n + m then gB r j (i - n) else gB r j i := by
  intro m
  induction m with
  | zero => intro r j _ _ i; rw [if_neg (by omega)]; rfl
  | succ m ih =>
    intro r j h1 h7 i
    show gB (mvu n p m (mv r (p + m) (p + m + n))) j i = _
    rw [ih _ h1 h7, mv_R _ _ _ h1 h7, mv_R _ _ _ h1 h7]
    by_cases c1 : i = p + m + n
    · rw [if_neg (by omega), if_pos c1, if_pos (by omega), show i - n = p + m by omega]
    · by_cases c2 : p + n ≤ i ∧ i < p + n + m
      · rw [if_pos c2, if_neg (by omega), if_pos (by omega)]
      · rw [if_neg c2, if_neg c1, if_neg (by omega)]
theorem mvu_BB {n p : Nat} {k : Nat} (h : 7 < k) : ∀ (m : Nat) (r : RS), gB (mvu n p m r) k = gB r k := by
  intro m
  induction m with
  | zero => intro r; rfl
  | succ m ih => intro r; exact (ih _).trans (mv_B _ _ _ h)
theorem mvu_FF {n p : Nat} (k : Nat) : ∀ (m : Nat) (r : RS), gF (mvu n p m r) k = gF r k := by
  intro m
  induction m with
  | zero => intro r; rfl
  | succ m ih => intro r; exact (ih _).trans (mv_F _ _ _ _)
theorem mvu_T {n p : Nat} : ∀ (m : Nat) (r : RS), (mvu n p m r).2.1 = r.2.1 := by
  intro m
  induction m with
  | zero => intro r; rfl
  | succ m ih => intro r; exact (ih _).trans (mv_T _ _ _)
theorem mvc_R {p e : Nat} : ∀ (m : Nat) (r : RS) (i0 : Nat), (e + i0 + m ≤ p + i0 ∨ p + i0 + m ≤ e + i0) → ∀ {j : Nat}, 1 ≤ j → j ≤ 7 → ∀ i, gB (mvc p e m r i0) j i = if e + i0 ≤ i ∧ i < e + i0 + m then gB r j (i - e + p) else gB r j i := by
  intro m
  induction m with
  | zero => intro r i0 _ j _ _ i; rw [if_neg (by omega)]; rfl
  | succ m ih =>
    intro r i0 hn j h1 h7 i
    show gB (mvc p e m (mv r (p + i0) (e + i0)) (i0 + 1)) j i = _
    rw [ih _ (i0 + 1) (by omega) h1 h7, mv_R _ _ _ h1 h7, mv_R _ _ _ h1 h7]
    by_cases c1 : i = e + i0
    · rw [if_neg (by omega), if_pos c1, if_pos (by omega), show i - e + p = p + i0 by omega]
    · by_cases c2 : e + (i0 + 1) ≤ i ∧ i < e + (i0 + 1) + m
      · rw [if_pos c2, if_neg (by omega), if_pos (by omega)]
      · rw [if_neg c2, if_neg c1, if_neg (by omega)]
theorem mvc_B2 {p e : Nat} {k : Nat} (h : 7 < k) : ∀ (m : Nat) (r : RS) (i0 : Nat), gB (mvc p e m r i0) k = gB r k := by
  intro m
  induction m with
  | zero => intro r i0; rfl
  | succ m ih => intro r i0; exact (ih _ _).trans (mv_B _ _ _ h)
theorem mvc_FF {p e : Nat} (k : Nat) : ∀ (m : Nat) (r : RS) (i0 : Nat), gF (mvc p e m r i0) k = gF r k := by
  intro m
  induction m with
  | zero => intro r i0; rfl
  | succ m ih => intro r i0; exact (ih _ _).trans (mv_F _ _ _ _)
theorem mvc_T {p e : Nat} : ∀ (m : Nat) (r : RS) (i0 : Nat), (mvc p e m r i0).2.1 = r.2.1 := by
  intro m
  induction m with
  | zero => intro r i0; rfl
  | succ m ih => intro r i0; exact (ih _ _).trans (mv_T _ _ _)
/-! the shelf: registers one behind another -/
def shf8 (g : Nat → List Rec) : Nat → List Rec
  | 0 => []
  | k + 1 => shf8 g k ++ g k
theorem shf8_ge {g g' : Nat → List Rec} : ∀ {k : Nat}, (∀ i, i < k → g i = g' i) → shf8 g k = shf8 g' k := by
  intro k
  induction k with
  | zero => intro _; rfl
  | succ k ih => intro h; show shf8 g k ++ g k = shf8 g' k ++ g' k; rw [ih (fun i hi => h i (by omega)), h k (by omega)]
/-- the shelf behind register k -/
def shb8 (g : Nat → List Rec) (k : Nat) : Nat → List Rec
  | 0 => []
  | m + 1 => shb8 g k m ++ g (k + 1 + m)
theorem shf8_split (g : Nat → List Rec) (k : Nat) : ∀ m, shf8 g (k + 1 + m) = shf8 g k ++ g k ++ shb8 g k m := by
  intro m
  induction m with
  | zero => show shf8 g (k + 1) = _ ++ []; rw [List.append_nil]; rfl
  | succ m ih => show shf8 g (k + 1 + m) ++ g (k + 1 + m) = shf8 g k ++ g k ++ (shb8 g k m ++ g (k + 1 + m)); rw [ih, List.append_assoc]
theorem shb8_ge {g g' : Nat → List Rec} {k : Nat} (h : ∀ i, k < i → g i = g' i) : ∀ m, shb8 g k m = shb8 g' k m := by
  intro m
  induction m with
  | zero => rfl
  | succ m ih => show shb8 g k m ++ _ = shb8 g' k m ++ _; rw [ih, h _ (by omega)]
theorem shf8_up (g : Nat → List Rec) {k : Nat} (hk : k < 8) (L : List Rec) : shf8 (va_up g k L) 8 = shf8 g k ++ L ++ shb8 g k (7 - k) := by
  have h := shf8_split (va_up g k L) k (7 - k)
  rw [show k + 1 + (7 - k) = 8 by omega] at h
  rw [h, va_up_self, shf8_ge (g' := g) (fun i hi => va_up_ne _ _ (by omega)), shb8_ge (g' := g) (fun i hi => va_up_ne _ _ (by omega))]
theorem shf8_8 (g : Nat → List Rec) {k : Nat} (hk : k < 8) : shf8 g 8 = shf8 g k ++ g k ++ shb8 g k (7 - k) := by
  have h := shf8_split g k (7 - k)
  rw [show k + 1 + (7 - k) = 8 by omega] at h
  exact h
