/-! forests: a record and what it holds, one behind another -/
abbrev TRE : Type := Rec × List Rec
def flt : List TRE → List Rec
  | [] => []
  | p :: ts => p.1 :: (p.2 ++ flt ts)
theorem flt_app (a b : List TRE) : flt (a ++ b) = flt a ++ flt b := by
  induction a with
  | nil => rfl
  | cons p ts ih => show p.1 :: (p.2 ++ flt (ts ++ b)) = p.1 :: (p.2 ++ flt ts) ++ flt b; rw [ih, List.cons_append, List.append_assoc]
def dm1 (p : TRE) : Nat := if p.1.1 0 = 3 then p.1.2.2.2 + 1 else 0
def dmx : List TRE → Nat
  | [] => 0
  | p :: ts => max (dm1 p) (dmx ts)
theorem dmx_app (a b : List TRE) : dmx (a ++ b) = max (dmx a) (dmx b) := by
  induction a with
  | nil => show dmx b = max 0 (dmx b); omega
  | cons p ts ih => show max (dm1 p) (dmx (ts ++ b)) = max (max (dm1 p) (dmx ts)) (dmx b); rw [ih]; omega
abbrev sz4 (x : Int32) : Prop := ¬ isz x = 0
/-- what is true of a record in a list that is horizontal (v = 0) or vertical -/
def IOK (v : Int32) (x : Rec) : Prop := (x.1 0 = 0 ∨ x.1 0 = 1 ∨ x.1 0 = 2 ∨ x.1 0 = 3) ∧ (∃ m, m < 32 ∧ x.1 4 = nI m) ∧ (sz4 (x.1 1) ∧ sz4 (x.1 2) ∧ sz4 (x.1 3) ∧ sz4 (x.1 7)) ∧ (¬ x.1 0 = 1 → x.1 6 = 0) ∧ (¬ x.1 0 = 3 → x.1 7 = 0) ∧ (v = 0 → x.1 6 &&& 1 = 0) ∧ (¬ v = 0 → x.1 6 &&& 2 = 0 ∧ x.1 6 &&& 4 = 0 ∧ ¬ x.1 0 = 0) ∧ (x.1 0 = 2 → x.1 2 = 0 ∧ x.1 3 = 0) ∧ (¬ x.1 6 &&& 1 = 0 → x.1 1 = 0) ∧ (¬ x.1 6 &&& 2 = 0 → x.1 2 = 0) ∧ (¬ x.1 6 &&& 4 = 0 → x.1 3 = 0)
def NK (v : Int32) (p : TRE) : Prop := p.1.2.2.1 = p.2.length + 1 ∧ ((p.1.1 0 = 3 ∧ isz1 p.1.2.1 ∧ (p.2 = [] → p.1.1 2 = 0) ∧ p.1.2.2.2 ≤ 99) ∨ (¬ p.1.1 0 = 3 ∧ p.2 = [])) ∧ IOK v p.1
def WF : Nat → Int32 → List Rec → Nat → Prop
  | 0, _, c, d => c = [] ∧ d = 0
  | n + 1, v, c, d => ∃ ts : List TRE, c = flt ts ∧ d = dmx ts ∧ ∀ p ∈ ts, NK v p ∧ WF n p.1.2.1 p.2 p.1.2.2.2
theorem RWs_flt {r : RS} {p : TRE} {ts : List TRE} {b : Nat} (h : RWs r b (flt (p :: ts))) : RW r b p.1 ∧ RWs r (b + 1) p.2 ∧ RWs r (b + 1 + p.2.length) (flt ts) := ⟨h.1, (RWs_app r p.2 (flt ts) (b + 1)).mp h.2⟩
/-! kinds -/
theorem rC1_b (x : Rec) (h : x.1 0 = 3) : rC x 1 = if x.2.1 = 0 then 4 else 5 := by
  unfold rC
  rw [if_pos rfl, h, if_neg (by decide), if_neg (by decide), if_neg (by decide)]
theorem rC1_n {x : Rec} (h : x.1 0 = 0 ∨ x.1 0 = 1 ∨ x.1 0 = 2) : rC x 1 = if x.1 0 = 0 then 1 else if x.1 0 = 1 then 2 else 3 := by
  unfold rC
  rw [if_pos rfl]
  rcases h with h | h | h
  · rw [h, if_pos rfl, if_pos rfl]
  · rw [h, if_neg (by decide), if_pos rfl, if_neg (by decide), if_pos rfl]
  · rw [h, if_neg (by decide), if_neg (by decide), if_pos rfl, if_neg (by decide), if_neg (by decide)]
theorem isb_R {r : RS} {i : Nat} {x : Rec} (h : RW r i x) (hk : x.1 0 = 0 ∨ x.1 0 = 1 ∨ x.1 0 = 2 ∨ x.1 0 = 3) : isb r i = if x.1 0 = 3 then 1 else 0 := by
  have h1 := h 1 (by decide) (by decide)
  unfold isb
  rw [h1]
  by_cases h3 : x.1 0 = 3
  · rw [rC1_b x h3, if_pos h3]
    split
    · rw [if_pos (Or.inl rfl)]
    · rw [if_pos (Or.inr rfl)]
  · have hk2 : x.1 0 = 0 ∨ x.1 0 = 1 ∨ x.1 0 = 2 := by
      rcases hk with h | h | h | h
      · exact Or.inl h
      · exact Or.inr (Or.inl h)
      · exact Or.inr (Or.inr h)
      · exact absurd h h3
    rw [rC1_n hk2, if_neg h3]
    rcases hk2 with h | h | h
    · rw [h]; decide
    · rw [h]; decide
    · rw [h]; decide
theorem span_R {r : RS} {i : Nat} {x : Rec} (h : RW r i x) : gB r 7 i = nI x.2.2.1 := h 7 (by decide) (by decide)
theorem k3_R {r : RS} {i : Nat} {x : Rec} (h : RW r i x) (hk : x.1 0 = 0 ∨ x.1 0 = 1 ∨ x.1 0 = 2 ∨ x.1 0 = 3) : (gB r 1 i = 3 ↔ x.1 0 = 2) ∧ (gB r 1 i = 1 ↔ x.1 0 = 0) ∧ (gB r 1 i = 2 ↔ x.1 0 = 1) := by
  have h1 := h 1 (by decide) (by decide)
  rw [h1]
  unfold rC
  rw [if_pos rfl]
  rcases hk with h | h | h | h <;> rw [h]
  · rw [if_pos rfl]; exact ⟨by decide, by decide, by decide⟩
  · rw [if_neg (by decide), if_pos rfl]; exact ⟨by decide, by decide, by decide⟩
  · rw [if_neg (by decide), if_neg (by decide), if_pos rfl]; exact ⟨by decide, by decide, by decide⟩
  · rw [if_neg (by decide), if_neg (by decide), if_neg (by decide)]
    split
    · exact ⟨by decide, by decide, by decide⟩
    · exact ⟨by decide, by decide, by decide⟩
/-! how deep boxes are nested -/
theorem nstc_add (r : RS) (i a : Nat) (n : Nat) : ∀ m, nstc r a i (n + m) = nstc r a i n + nstc r (a + n) i m := by
  intro m
  induction m with
  | zero => rfl
  | succ m ih => show nstc r a i (n + m) + nst1 r i (a + (n + m)) = nstc r a i n + (nstc r (a + n) i m + nst1 r i (a + n + m)); rw [ih, Nat.add_assoc a n m]; omega
theorem nst1_R {r : RS} {i j : Nat} {x : Rec} (h : RW r j x) (hk : x.1 0 = 0 ∨ x.1 0 = 1 ∨ x.1 0 = 2 ∨ x.1 0 = 3) (hb : i < 10000 ∧ j < 10000 ∧ x.2.2.1 < 10000) : nst1 r i j = if x.1 0 = 3 ∧ i < j + x.2.2.1 then 1 else 0 := by
  unfold nst1
  rw [isb_R h hk, span_R h, nI_add]
  by_cases h3 : x.1 0 = 3
  · rw [if_pos h3]
    by_cases hl : i < j + x.2.2.1
    · rw [if_pos ⟨by decide, (nI_ltI (by omega) (by omega)).mpr hl⟩, if_pos ⟨h3, hl⟩]
    · rw [if_neg (fun z => hl ((nI_ltI (by omega) (by omega)).mp z.2)), if_neg (fun z => hl z.2)]
  · rw [if_neg h3, if_neg (fun z => z.1 rfl), if_neg (fun z => h3 z.1)]
/-- no box of a forest reaches behind it -/
theorem nstc_0 {r : RS} : ∀ (n : Nat) {v : Int32} {c : List Rec} {d a i : Nat}, WF n v c d → RWs r a c → a + c.length ≤ i → i < 10000 → nstc r a i c.length = 0 := by
  intro n
  induction n with
  | zero => intro v c d a i h _ _ _; rw [h.1]; rfl
  | succ n ih =>
    intro v c d a i h hr hi hb
    obtain ⟨ts, rfl, -, hp⟩ := h
    clear d
    induction ts generalizing a with
    | nil => rfl
    | cons p ts ihs =>
      obtain ⟨h1, h2, h3⟩ := RWs_flt hr
      obtain ⟨hN, hW⟩ := hp p List.mem_cons_self
      have hlen : (flt (p :: ts)).length = 1 + p.2.length + (flt ts).length := by show (p.2 ++ flt ts).length + 1 = _; rw [List.length_append]; omega
      rw [hlen] at hi ⊢
      rw [nstc_add, nstc_add]
      have e1 : nstc r a i 1 = 0 := by
        show 0 + nst1 r i a = 0
        rw [nst1_R h1 hN.2.2.1 (by rw [hN.1]; omega), if_neg (fun z => by rw [hN.1] at z; omega)]
      rw [e1, ih hW h2 (by omega) hb, show a + (1 + p.2.length) = a + 1 + p.2.length by omega, ihs h3 (by rw [show a + 1 + p.2.length + (flt ts).length = a + (1 + p.2.length + (flt ts).length) by omega]; exact hi) (fun q hq => hp q (List.mem_cons_of_mem _ hq))]
/-- the deepest of a stretch, counted from a0 -/
def nsm2 (r : RS) (a0 a : Nat) : Nat → Nat
  | 0 => 0
  | n + 1 => max (nsm2 r a0 a n) (nstx r a0 (a + n))
theorem nsm2_add (r : RS) (a0 a n : Nat) : ∀ m, nsm2 r a0 a (n + m) = max (nsm2 r a0 a n) (nsm2 r a0 (a + n) m) := by
  intro m
  induction m with
  | zero => show nsm2 r a0 a n = max (nsm2 r a0 a n) 0; omega
  | succ m ih => show max (nsm2 r a0 a (n + m)) (nstx r a0 (a + (n + m))) = max (nsm2 r a0 a n) (max (nsm2 r a0 (a + n) m) (nstx r a0 (a + n + m))); rw [ih, Nat.add_assoc a n m]; omega
theorem nsm2_eq (r : RS) (a : Nat) : ∀ n, nstm r a n = nsm2 r a a n := by
  intro n
  induction n with
  | zero => rfl
  | succ n ih => show max (nstm r a n) _ = max (nsm2 r a a n) _; rw [ih]
theorem nsm2_R {r : RS} {a0 : Nat} : ∀ (n : Nat) {v : Int32} {c : List Rec} {d a e : Nat}, WF n v c d → RWs r a c → a0 ≤ a → a + c.length < 10000 → (∀ i, a ≤ i → i < a + c.length → nstc r a0 i (a - a0) = e) → nsm2 r a0 a c.length = if d = 0 then 0 else e + d := by
  intro n
  induction n with
  | zero => intro v c d a e h _ _ _ _; rw [h.1, h.2]; rfl
  | succ n ih =>
    intro v c d a e h hr ha hb he
    obtain ⟨ts, rfl, rfl, hp⟩ := h
    induction ts generalizing a with
    | nil => rfl
    | cons p ts ihs =>
      obtain ⟨h1, h2, h3⟩ := RWs_flt hr
      obtain ⟨hN, hW⟩ := hp p List.mem_cons_self
      have hlen : (flt (p :: ts)).length = 1 + p.2.length + (flt ts).length := by show (p.2 ++ flt ts).length + 1 = _; rw [List.length_append]; omega
      rw [hlen] at hb he ⊢
      have hn0 : nstc r (a + 1) a p.2.length = nstc r (a + 1) a p.2.length := rfl
      have e0 : ∀ i, nst1 r i a = if i < 10000 then (if p.1.1 0 = 3 ∧ i < a + (p.2.length + 1) then 1 else 0) else nst1 r i a := fun i => by
        by_cases hi : i < 10000
        · rw [if_pos hi, nst1_R h1 hN.2.2.1 (by rw [hN.1]; omega), hN.1]
        · rw [if_neg hi]
      have c1 : ∀ i, i < 10000 → nstc r a i 1 = if p.1.1 0 = 3 ∧ i < a + (p.2.length + 1) then 1 else 0 := fun i hi => by
        show 0 + nst1 r i a = _
        rw [e0 i, if_pos hi, Nat.zero_add]
      rw [nsm2_add, nsm2_add]
      have hx : nsm2 r a0 a 1 = if p.1.1 0 = 3 then e + 1 else 0 := by
        show max 0 (nstx r a0 (a + 0)) = _
        rw [Nat.zero_max]
        unfold nstx
        rw [Nat.add_zero, isb_R h1 hN.2.2.1]
        by_cases h3 : p.1.1 0 = 3
        · rw [if_pos h3, if_neg (by decide), if_pos h3, show a + 1 - a0 = (a - a0) + 1 by omega, nstc_add, he a (Nat.le_refl _) (by omega), show a0 + (a - a0) = a by omega, c1 a (by omega), if_pos ⟨h3, by omega⟩]
        · rw [if_neg h3, if_pos rfl, if_neg h3]
      have hin : nsm2 r a0 (a + 1) p.2.length = if p.1.2.2.2 = 0 then 0 else (if p.1.1 0 = 3 then e + 1 else e) + p.1.2.2.2 := by
        refine ih hW h2 (by omega) (by omega) (fun i i1 i2 => ?_)
        rw [show a + 1 - a0 = (a - a0) + 1 by omega, nstc_add, he i (by omega) (by omega), show a0 + (a - a0) = a by omega, c1 i (by omega)]
        by_cases h3 : p.1.1 0 = 3
        · rw [if_pos h3, if_pos ⟨h3, by omega⟩]
        · rw [if_neg h3, if_neg (fun z => h3 z.1)]; rfl
      have htl : nsm2 r a0 (a + 1 + p.2.length) (flt ts).length = if dmx ts = 0 then 0 else e + dmx ts := by
        refine ihs (by omega) h3 (by omega) (fun i i1 i2 => ?_) (fun q hq => hp q (List.mem_cons_of_mem _ hq))
        rw [show a + 1 + p.2.length - a0 = (a - a0) + (1 + p.2.length) by omega, nstc_add, he i (by omega) (by omega), show a0 + (a - a0) = a by omega, nstc_add, c1 i (by omega), if_neg (fun z => by omega), nstc_0 n hW h2 (by omega) (by omega)]
        rfl
      rw [hx, show a + (1 + p.2.length) = a + 1 + p.2.length by omega, htl, hin]
      show _ = if max (dm1 p) (dmx ts) = 0 then 0 else e + max (dm1 p) (dmx ts)
      unfold dm1
      by_cases h3 : p.1.1 0 = 3
      · simp only [if_pos h3]
        split <;> (split <;> (split <;> omega))
      · have hc : p.2 = [] := by
          rcases hN.2.1 with z | z
          · exact absurd z.1 h3
          · exact z.2
        have hd0 : p.1.2.2.2 = 0 := by
          rw [hc] at hW
          cases n with
          | zero => exact hW.2
          | succ n =>
            obtain ⟨ts2, g1, g2, -⟩ := hW
            cases ts2 with
            | nil => exact g2
            | cons q ts2 => cases g1
        rw [if_neg h3, if_neg h3, if_neg h3, hd0, if_pos rfl]
        show max (max 0 0) _ = _
        rw [Nat.max_self, Nat.zero_max, Nat.zero_max]
theorem nstm_R {r : RS} {n : Nat} {v : Int32} {c : List Rec} {d a : Nat} (h : WF n v c d) (hr : RWs r a c) (hb : a + c.length < 10000) : nstm r a c.length = d := by
  rw [nsm2_eq, nsm2_R n (e := 0) h hr (Nat.le_refl _) hb (fun i _ _ => by rw [Nat.sub_self]; rfl)]
  split
  · next z => exact z.symm
  · exact Nat.zero_add _
