/-! the class's lists: closed ones (in Zf, which never changes), open ones -/
def itm (K : Option Nat → Int32 → List Rec → Nat → Prop) (Zf : MP) (v : Int32) (p : TRE) (bo : Option Nat) : Prop := NK v p ∧ ((¬ p.1.1 0 = 3 ∧ bo = none ∧ p.1.2.1 = 0 ∧ p.1.2.2.2 = 0) ∨ (p.1.1 0 = 3 ∧ ∃ b fo, bo = some b ∧ Zf b = some (.inr (1, bxv p.1.2.1 (p.1.1 1) (p.1.1 2) (p.1.1 3) (va_rf fo) (nI p.1.2.2.1) (nI (p.1.2.2.2 + 1)))) ∧ K fo p.1.2.1 p.2 p.1.2.2.2))
def chn (K : Option Nat → Int32 → List Rec → Nat → Prop) (Zf : MP) (v : Int32) : Option Nat → List TRE → Prop
  | q, [] => q = none
  | q, p :: ts => ∃ a nx bo, q = some a ∧ Zf a = some (.inr (5, itv p.1.1 (va_rf bo) (va_rf nx))) ∧ itm K Zf v p bo ∧ chn K Zf v nx ts
def CH (Zf : MP) : Nat → Option Nat → Int32 → List Rec → Nat → Prop
  | 0, q, _, c, d => q = none ∧ c = [] ∧ d = 0
  | n + 1, q, v, c, d => ∃ ts : List TRE, c = flt ts ∧ d = dmx ts ∧ chn (CH Zf n) Zf v q ts
theorem itm_mono {K K' : Option Nat → Int32 → List Rec → Nat → Prop} {Zf Zf' : MP} (hZ : ∀ a e, Zf a = some e → Zf' a = some e) (hK : ∀ q v c d, K q v c d → K' q v c d) {v : Int32} {p : TRE} {bo : Option Nat} (h : itm K Zf v p bo) : itm K' Zf' v p bo := by
  obtain ⟨h1, h2⟩ := h
  refine ⟨h1, ?_⟩
  rcases h2 with h2 | ⟨h3, b, fo, h4, h5, h6⟩
  · exact Or.inl h2
  · exact Or.inr ⟨h3, b, fo, h4, hZ _ _ h5, hK _ _ _ _ h6⟩
theorem chn_mono {K K' : Option Nat → Int32 → List Rec → Nat → Prop} {Zf Zf' : MP} (hZ : ∀ a e, Zf a = some e → Zf' a = some e) (hK : ∀ q v c d, K q v c d → K' q v c d) {v : Int32} : ∀ {ts : List TRE} {q : Option Nat}, chn K Zf v q ts → chn K' Zf' v q ts := by
  intro ts
  induction ts with
  | nil => intro q h; exact h
  | cons p ts ih =>
    intro q h
    obtain ⟨a, nx, bo, h1, h2, h3, h4⟩ := h
    exact ⟨a, nx, bo, h1, hZ _ _ h2, itm_mono hZ hK h3, ih h4⟩
theorem CH_mono {Zf Zf' : MP} (hZ : ∀ a e, Zf a = some e → Zf' a = some e) : ∀ (n : Nat) {q : Option Nat} {v : Int32} {c : List Rec} {d : Nat}, CH Zf n q v c d → CH Zf' n q v c d := by
  intro n
  induction n with
  | zero => intro q v c d h; exact h
  | succ n ih =>
    intro q v c d h
    obtain ⟨ts, h1, h2, h3⟩ := h
    exact ⟨ts, h1, h2, chn_mono hZ (fun _ _ _ _ h => ih h) h3⟩
theorem CH_succ {Zf : MP} : ∀ (n : Nat) {q : Option Nat} {v : Int32} {c : List Rec} {d : Nat}, CH Zf n q v c d → CH Zf (n + 1) q v c d := by
  intro n
  induction n with
  | zero => intro q v c d h; exact ⟨[], h.2.1, h.2.2, h.1⟩
  | succ n ih =>
    intro q v c d h
    obtain ⟨ts, h1, h2, h3⟩ := h
    exact ⟨ts, h1, h2, chn_mono (fun _ _ h => h) (fun _ _ _ _ h => ih h) h3⟩
theorem CH_le {Zf : MP} {n : Nat} {q : Option Nat} {v : Int32} {c : List Rec} {d : Nat} (h : CH Zf n q v c d) : ∀ m, CH Zf (n + m) q v c d := by
  intro m
  induction m with
  | zero => exact h
  | succ m ih => exact CH_succ _ ih
theorem CH_WF {Zf : MP} : ∀ (n : Nat) {q : Option Nat} {v : Int32} {c : List Rec} {d : Nat}, CH Zf n q v c d → WF n v c d := by
  intro n
  induction n with
  | zero => intro q v c d h; exact h.2
  | succ n ih =>
    intro q v c d h
    obtain ⟨ts, h1, h2, h3⟩ := h
    refine ⟨ts, h1, h2, ?_⟩
    clear h1 h2
    induction ts generalizing q with
    | nil => intro p hp; cases hp
    | cons p ts ihs =>
      obtain ⟨a, nx, bo, -, -, ⟨hN, hK⟩, h4⟩ := h3
      intro p' hp'
      rcases List.mem_cons.mp hp' with rfl | hp'
      · refine ⟨hN, ?_⟩
        rcases hK with ⟨h3, -, -, he⟩ | ⟨h3, b, fo, -, -, h6⟩
        · have hc : p'.2 = [] := by
            rcases hN.2.1 with z | z
            · exact absurd z.1 h3
            · exact z.2
          rw [hc, he]
          cases n with
          | zero => exact ⟨rfl, rfl⟩
          | succ n => exact ⟨[], rfl, rfl, fun _ z => by cases z⟩
        · exact ih h6
      · exact ihs h4 p' hp'
def PX (Zf : MP) (q : Option Nat) (v : Int32) (c : List Rec) (d : Nat) : Prop := ∃ n, CH Zf n q v c d
/-- an open list's items, by their addresses -/
def lkn (Zf Z : MP) (v : Int32) : List Nat → List TRE → Prop
  | [], ts => ts = []
  | a :: as, ts => ∃ p ts' bo, ts = p :: ts' ∧ Z a = some (.inr (5, itv p.1.1 (va_rf bo) (va_rf as.head?))) ∧ itm (PX Zf) Zf v p bo ∧ lkn Zf Z v as ts'
theorem lkn_cong {Zf Zf' Z Z' : MP} {v : Int32} (hZ : ∀ a e, Zf a = some e → Zf' a = some e) : ∀ {as : List Nat} {ts : List TRE}, (∀ a ∈ as, Z' a = Z a) → lkn Zf Z v as ts → lkn Zf' Z' v as ts := by
  intro as
  induction as with
  | nil => intro ts _ h; exact h
  | cons a as ih =>
    intro ts hs h
    obtain ⟨p, ts', bo, h1, h2, h3, h4⟩ := h
    exact ⟨p, ts', bo, h1, (hs a List.mem_cons_self).trans h2, itm_mono hZ (fun _ _ _ _ z => by obtain ⟨n, z⟩ := z; exact ⟨n, CH_mono hZ n z⟩) h3, ih (fun b hb => hs b (List.mem_cons_of_mem _ hb)) h4⟩
def OLS (Zf Z : MP) : Option Nat → List (Int32 × List TRE) → List Nat → Prop
  | q, [], fp => q = none ∧ fp = []
  | q, vt :: o, fp => ∃ b oo as fp', q = some b ∧ Z b = some (.inr (6, olv vt.1 (va_rf oo) (nI (o.length + 1)) (va_rf as.head?) (va_rf as.getLast?) (nI (flt vt.2).length) (nI (dmx vt.2)) (mea vt.1 vt.2 (0, 0, 0)))) ∧ isz1 vt.1 ∧ lkn Zf Z vt.1 as vt.2 ∧ fp = b :: (as ++ fp') ∧ OLS Zf Z oo o fp'
theorem OLS_cong {Zf Zf' Z Z' : MP} (hZ : ∀ a e, Zf a = some e → Zf' a = some e) : ∀ {ops : List (Int32 × List TRE)} {q : Option Nat} {fp : List Nat}, (∀ a ∈ fp, Z' a = Z a) → OLS Zf Z q ops fp → OLS Zf' Z' q ops fp := by
  intro ops
  induction ops with
  | nil => intro q fp _ h; exact h
  | cons vt o ih =>
    intro q fp hs h
    obtain ⟨b, oo, as, fp', h1, h2, h3, h4, rfl, h6⟩ := h
    refine ⟨b, oo, as, fp', h1, (hs b List.mem_cons_self).trans h2, h3, lkn_cong hZ (fun a ha => hs a (List.mem_cons_of_mem _ (List.mem_append_left _ ha))) h4, rfl, ih (fun a ha => hs a (List.mem_cons_of_mem _ (List.mem_append_right _ ha))) h6⟩
/-- every open thing is kept -/
theorem lkn_some {Zf Z : MP} {v : Int32} : ∀ {as : List Nat} {ts : List TRE}, lkn Zf Z v as ts → ∀ a ∈ as, ∃ I bo nx, Z a = some (.inr (5, itv I (va_rf bo) (va_rf nx))) := by
  intro as
  induction as with
  | nil => intro ts _ a ha; cases ha
  | cons b as ih =>
    intro ts h a ha
    obtain ⟨p, ts', bo, -, h2, -, h4⟩ := h
    rcases List.mem_cons.mp ha with rfl | ha
    · exact ⟨_, bo, _, h2⟩
    · exact ih h4 a ha
theorem OLS_some {Zf Z : MP} : ∀ {ops : List (Int32 × List TRE)} {q : Option Nat} {fp : List Nat}, OLS Zf Z q ops fp → ∀ a ∈ fp, ∃ e, Z a = some e := by
  intro ops
  induction ops with
  | nil => intro q fp h a ha; rw [h.2] at ha; cases ha
  | cons vt o ih =>
    intro q fp h a ha
    obtain ⟨b, oo, as, fp', h1, h2, h3, h4, rfl, h6⟩ := h
    rcases List.mem_cons.mp ha with rfl | ha
    · exact ⟨_, h2⟩
    · rcases List.mem_append.mp ha with ha | ha
      · obtain ⟨I, bo, nx, h⟩ := lkn_some h4 a ha; exact ⟨_, h⟩
      · exact ih h6 a ha
/-- the last item, when there is one -/
theorem lkn_last {Zf Z : MP} {v : Int32} : ∀ {as : List Nat} {c : Nat} {ts : List TRE}, lkn Zf Z v (as ++ [c]) ts → ∃ I bo, Z c = some (.inr (5, itv I (va_rf bo) .null)) := by
  intro as
  induction as with
  | nil => intro c ts h; obtain ⟨p, ts', bo, -, h2, -, -⟩ := h; exact ⟨_, bo, h2⟩
  | cons a as ih => intro c ts h; obtain ⟨p, ts', bo, -, h2, -, h4⟩ := h; exact ih h4
/-- a new item at the end -/
theorem lkn_join {Zf Z Z' : MP} {v : Int32} {q : Nat} {p : TRE} {bo : Option Nat} (hq : Z' q = some (.inr (5, itv p.1.1 (va_rf bo) .null))) (hp : itm (PX Zf) Zf v p bo) : ∀ {as : List Nat} {c : Nat} {ts : List TRE} {I : Nat → Int32} {bc : Option Nat}, lkn Zf Z v (as ++ [c]) ts → Z c = some (.inr (5, itv I (va_rf bc) .null)) → (∀ a ∈ as, Z' a = Z a) → Z' c = some (.inr (5, itv I (va_rf bc) (.ref q))) → lkn Zf Z' v (as ++ [c] ++ [q]) (ts ++ [p]) := by
  intro as
  induction as with
  | nil =>
    intro c ts I bc h hc hs hc'
    obtain ⟨p1, ts', b1, rfl, h2, h3, h4⟩ := h
    rw [hc] at h2
    have e := congrArg (fun z => match z with | some (.inr (_, [i0, i1, i2, i3, i4, i5, i6, i7, b, _])) => ([i0, i1, i2, i3, i4, i5, i6, i7, b] : List Value) | _ => []) h2
    have h4' : ts' = [] := h4
    subst h4'
    refine ⟨p1, [p], b1, rfl, ?_, h3, p, [], bo, rfl, hq, hp, rfl⟩
    rw [hc']
    have e1 : [Value.int (I 0), .int (I 1), .int (I 2), .int (I 3), .int (I 4), .int (I 5), .int (I 6), .int (I 7), va_rf bc] = [.int (p1.1.1 0), .int (p1.1.1 1), .int (p1.1.1 2), .int (p1.1.1 3), .int (p1.1.1 4), .int (p1.1.1 5), .int (p1.1.1 6), .int (p1.1.1 7), va_rf b1] := e
    simp only [List.cons.injEq, and_true] at e1
    obtain ⟨a0, a1, a2, a3, a4, a5, a6, a7, a8⟩ := e1
    show some (Sum.inr (5, [Value.int (I 0), .int (I 1), .int (I 2), .int (I 3), .int (I 4), .int (I 5), .int (I 6), .int (I 7), va_rf bc, .ref q])) = some (Sum.inr (5, [.int (p1.1.1 0), .int (p1.1.1 1), .int (p1.1.1 2), .int (p1.1.1 3), .int (p1.1.1 4), .int (p1.1.1 5), .int (p1.1.1 6), .int (p1.1.1 7), va_rf b1, .ref q]))
    rw [a0, a1, a2, a3, a4, a5, a6, a7, a8]
  | cons a as ih =>
    intro c ts I bc h hc hs hc'
    obtain ⟨p1, ts', b1, rfl, h2, h3, h4⟩ := h
    refine ⟨p1, ts' ++ [p], b1, rfl, ?_, h3, ih h4 hc (fun x hx => hs x (List.mem_cons_of_mem _ hx)) hc'⟩
    rw [hs a List.mem_cons_self, h2]
    cases as <;> rfl
/-- an open list that is closed becomes a chain -/
theorem lkn_chn {Zf Z Zf' : MP} {v : Int32} (hZ : ∀ a e, Zf a = some e → Zf' a = some e) : ∀ {as : List Nat} {ts : List TRE}, lkn Zf Z v as ts → (∀ a ∈ as, Zf' a = Z a) → ∃ n, chn (CH Zf' n) Zf' v as.head? ts := by
  intro as
  induction as with
  | nil => intro ts h _; cases h; exact ⟨0, rfl⟩
  | cons a as ih =>
    intro ts h hs
    obtain ⟨p, ts', bo, rfl, h2, h3, h4⟩ := h
    obtain ⟨n, hn⟩ := ih h4 (fun x hx => hs x (List.mem_cons_of_mem _ hx))
    obtain ⟨hN, hk⟩ := h3
    rcases hk with hk | ⟨k3, b, fo, k4, k5, m, k6⟩
    · exact ⟨n, a, as.head?, bo, rfl, (hs a List.mem_cons_self).trans h2, ⟨hN, Or.inl hk⟩, hn⟩
    · refine ⟨n + m, a, as.head?, bo, rfl, (hs a List.mem_cons_self).trans h2, ⟨hN, Or.inr ⟨k3, b, fo, k4, hZ _ _ k5, ?_⟩⟩, chn_mono (fun _ _ z => z) (fun _ _ _ _ z => CH_le z m) hn⟩
      rw [Nat.add_comm]
      exact CH_le (CH_mono hZ m k6) n
