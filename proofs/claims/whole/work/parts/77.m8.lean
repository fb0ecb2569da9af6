/-! call by call -/
theorem isz_l (x : Int32) : iszl x.toInt64 = isz x := by
  unfold iszl isz
  have h : (-1073741823 ≤ x.toInt64 ∧ x.toInt64 ≤ 1073741823) ↔ (-1073741823 ≤ x ∧ x ≤ 1073741823) := by
    rw [Int64.le_iff_toInt_le, Int64.le_iff_toInt_le, Int32.le_iff_toInt_le, Int32.le_iff_toInt_le, Int32.toInt_toInt64]
    exact Iff.rfl
  by_cases h1 : -1073741823 ≤ x ∧ x ≤ 1073741823
  · rw [if_pos h1, if_pos (h.mpr h1)]
  · rw [if_neg h1, if_neg (fun z => h1 (h.mp z))]
theorem asz_l (x y z : Int32) : asz x.toInt64 y.toInt64 z.toInt64 = 0 ↔ ¬ (sz4 x ∧ sz4 y ∧ sz4 z) := by
  unfold asz
  rw [isz_l, isz_l, isz_l]
  by_cases h : ¬ isz x = 0 ∧ ¬ isz y = 0 ∧ ¬ isz z = 0
  · rw [if_pos h]; exact ⟨fun q => absurd q (by decide), fun q => absurd h q⟩
  · rw [if_neg h]; exact ⟨fun _ => h, fun _ => rfl⟩
theorem le_lt (x : Int32) : (32 ≤ x ↔ 31 < x) ∧ (8 ≤ x ↔ 7 < x) := by
  rw [Int32.le_iff_toInt_le, Int32.lt_iff_toInt_lt, Int32.le_iff_toInt_le, Int32.lt_iff_toInt_lt]
  rw [show (32 : Int32).toInt = 32 from rfl, show (31 : Int32).toInt = 31 from rfl, show (8 : Int32).toInt = 8 from rfl, show (7 : Int32).toInt = 7 from rfl]
  omega
theorem ifn_0 (x : Int32) : ¬ ifn x = 0 ↔ ¬ x < 0 ∧ ¬ 32 ≤ x := by
  unfold ifn
  by_cases h : ¬ x < 0 ∧ ¬ 32 ≤ x
  · rw [if_pos h]; exact ⟨fun _ => h, fun _ => by decide⟩
  · rw [if_neg h]; exact ⟨fun z => absurd rfl z, fun z => absurd z h⟩
theorem irg_0 (x : Int32) : ¬ irg x = 0 ↔ ¬ x < 0 ∧ ¬ 8 ≤ x := by
  unfold irg
  by_cases h : ¬ x < 0 ∧ ¬ 8 ≤ x
  · rw [if_pos h]; exact ⟨fun _ => h, fun _ => by decide⟩
  · rw [if_neg h]; exact ⟨fun z => absurd rfl z, fun z => absurd z h⟩
/-! font -/
theorem S_font {s : PS} {Z : MP} {r : RS} {g : Nat → List Rec} {ops : List (Int32 × List TRE)} (h : SIM s Z r g ops) (x y z : Int32) : (foc x y z ↔ fok x y z) ∧ SIM (foS s x y z) Z (fnt r x y z) g ops := by
  have he : foc x y z ↔ fok x y z := by
    show (¬ ifn x = 0 ∧ ¬ y < 0 ∧ ¬ z < 0) ↔ (¬ x < 0 ∧ ¬ 31 < x ∧ ¬ y < 0 ∧ ¬ z < 0)
    rw [ifn_0, (le_lt x).1]
    exact ⟨fun q => ⟨q.1.1, q.1.2, q.2⟩, fun q => ⟨⟨q.1, q.2.1⟩, q.2.2⟩⟩
  refine ⟨he, ?_⟩
  unfold foS fnt
  by_cases hc : foc x y z
  · rw [if_pos hc, if_pos (he.mp hc)]
    obtain ⟨h1, h2, h3, h4, h5⟩ := SIM_0 h 0
    obtain ⟨m, hm, rfl⟩ := ifn_ex hc.1
    rw [nI_clamp (by omega)]
    refine ⟨h1, RR_cong h2 rfl rfl (fun j hj => ?_), h3, h4, ?_⟩
    · funext i; rw [w1_BB, w1_BB, if_neg (by omega), if_neg (by omega)]
    · obtain ⟨a1, a2, a3, a4, a5⟩ := h5
      refine ⟨fun q hq => ⟨?_, ?_⟩, fun q hq => ?_, ⟨a3.1, fun k hk => ?_⟩, a4, a5⟩
      · rw [w1_BB, w1_BB]
        show (va_up (va_up s.2.2.1 0 (upd (s.2.2.1 0) m y)) 1 (upd (s.2.2.1 1) m z)) 0 q = _
        rw [va_up_ne _ _ (by decide), va_up_self, if_neg (by omega)]
        show (if q = m then y else s.2.2.1 0 q) = _
        by_cases hqm : q = m
        · rw [if_pos hqm, if_pos ⟨rfl, hqm⟩]
        · rw [if_neg hqm, if_neg (fun z => hqm z.2)]; exact (a1 q hq).1
      · rw [w1_BB, w1_BB]
        show (va_up (va_up s.2.2.1 0 (upd (s.2.2.1 0) m y)) 1 (upd (s.2.2.1 1) m z)) 1 q = _
        rw [va_up_self]
        show (if q = m then z else s.2.2.1 1 q) = _
        by_cases hqm : q = m
        · rw [if_pos hqm, if_pos ⟨rfl, hqm⟩]
        · rw [if_neg hqm, if_neg (fun z => hqm z.2), if_neg (by omega)]; exact (a1 q hq).2
      · rw [w1_BB, w1_BB, if_neg (by omega), if_neg (by omega)]; exact a2 q hq
      · rw [w1_BB, w1_BB, if_neg (by omega), if_neg (by omega)]; exact a3.2 k hk
  · rw [if_neg hc, if_neg (fun z => hc (he.mpr z))]
    exact SIM_0 h 0
/-! open -/
theorem S_lev {s : PS} {Z : MP} {r : RS} {g : Nat → List Rec} {ops : List (Int32 × List TRE)} (h : SIM s Z r g ops) : ∀ b, s.2.1 8 = some b → ∃ fs, Z b = some (.inr (6, fs)) ∧ fs[2]? = some (.int (nI ops.length)) := by
  intro b hb
  obtain ⟨⟨Zf, fp, -, h2, -⟩, -⟩ := h
  cases ops with
  | nil => rw [h2.1] at hb; cases hb
  | cons vt o =>
    obtain ⟨b', oo, as, fp', e1, e2, -⟩ := h2
    rw [e1] at hb; cases hb
    exact ⟨_, e2, rfl⟩
theorem S_opc {s : PS} {Z : MP} {r : RS} {g : Nat → List Rec} {ops : List (Int32 × List TRE)} (h : SIM s Z r g ops) : opc s (nI ops.length) ↔ ¬ ops.length = 100 := by
  have hl := h.2.1.1
  obtain ⟨⟨Zf, fp, -, h2, -⟩, -⟩ := h
  cases ops with
  | nil => exact ⟨fun _ => by decide, fun _ => Or.inl h2.1⟩
  | cons vt o =>
    obtain ⟨b', oo, as, fp', e1, e2, -⟩ := h2
    constructor
    · rintro (z | z)
      · rw [e1] at z; cases z
      · have := (nI_ltI (b := 100) (by omega) (by decide)).mp z
        omega
    · intro z
      exact Or.inr (show nI _ < nI 100 from nI_lt (by omega) (by decide))
theorem S_open {s : PS} {Z : MP} {r : RS} {g : Nat → List Rec} {ops : List (Int32 × List TRE)} (h : SIM s Z r g ops) {v : Int32} (hz : isz1 v) (hn : vp_nar .boolean v = v) (hl : ¬ ops.length = 100) {q : Nat} (hq : Z q = none) : SIM (uR s 8 (some q)) (mu Z q (.inr (6, olv v (va_rf (s.2.1 8)) (olev (s.2.1 8) (nI ops.length)) .null .null 0 0 (0, 0, 0)))) (opn r ops.length v) g ((v, []) :: ops) := by
  have hl9 := h.2.1.1
  obtain ⟨⟨Zf, fp, h1, h2, h3, h4, h5⟩, hR, ht, h5', hS⟩ := h
  have hfq : ∀ a ∈ fp, a ≠ q := fun a ha z => by obtain ⟨e, he⟩ := OLS_some h2 a ha; rw [z, hq] at he; cases he
  refine ⟨⟨Zf, q :: ([] ++ fp), fun a e ha => ?_, ?_, List.nodup_cons.mpr ⟨fun z => hfq q z rfl, h3⟩, fun a ha => ?_, fun k hk => ?_⟩, RR_open hR hn (by omega), ?_, ?_, ?_⟩
  · rw [mu_ne _ _ (fun z => by have := h1 a e ha; rw [z, hq] at this; cases this)]; exact h1 a e ha
  · show OLS Zf _ (va_up s.2.1 8 (some q) 8) _ _
    rw [va_up_self]
    exact OLS_push h2 hz hq (fun b _ => rfl)
  · rcases List.mem_cons.mp ha with rfl | ha
    · cases hz : Zf a with
      | none => rfl
      | some e => have := h1 a e hz; rw [hq] at this; cases this
    · exact h4 a ha
  · show RGS (va_up s.2.1 8 (some q) k) Zf (g k)
    rw [va_up_ne _ _ (by omega)]; exact h5 k hk
  · show (cat ops ++ []).length + _ ≤ 3000; rw [List.append_nil]; exact ht
  · show s.1 5 = nI ((cat ops ++ []).length + _); rw [List.append_nil]; exact h5'
  · refine RST_cong hS (fun _ _ => rfl) rfl (fun j hj => ?_) (fun j hj => ?_) ?_
    · unfold opn; rw [if_neg hl, sF_FF, if_neg (by omega)]; show gF (sF r 0 0) j = _; rw [sF_FF, if_neg (by omega)]
    · funext i; unfold opn; rw [if_neg hl, sF_BB, w1_BB, w1_BB, if_neg (by omega), if_neg (by omega)]; rfl
    · unfold opn; rw [if_neg hl]; rfl
/-! an item that isn't a box -/
theorem S_emp {s : PS} {Z : MP} {r : RS} {g : Nat → List Rec} (h : SIM s Z r g []) : s.2.1 8 = none ∧ gF r 8 = 0 := by
  obtain ⟨⟨Zf, fp, -, h2, -⟩, hR, -⟩ := h
  exact ⟨h2.1, hR.2.2.1⟩
theorem S_rm {s : PS} {Z : MP} {r : RS} {g : Nat → List Rec} {ops : List (Int32 × List TRE)} (h : SIM s Z r g ops) : ¬ hrm r 1 = 0 ↔ s.1 5 < 3000 := by
  obtain ⟨-, hR, ht, h5, -⟩ := h
  rw [show (1 : Int32) = nI 1 by decide, hrm_R hR (by decide), h5]
  show (¬ (if toI g ops + 1 ≤ 3000 then (1 : Int32) else 0) = 0) ↔ nI (toI g ops) < nI 3000
  by_cases hh : toI g ops + 1 ≤ 3000
  · rw [if_pos hh]; exact ⟨fun _ => nI_lt (by omega) (by decide), fun _ => by decide⟩
  · rw [if_neg hh]; exact ⟨fun z => absurd rfl z, fun z => absurd ((nI_ltI (by omega) (by decide)).mp z) (by omega)⟩
theorem S_gt {s : PS} {Z : MP} {r : RS} {g : Nat → List Rec} {ops : List (Int32 × List TRE)} (h : SIM s Z r g ops) (h9 : s.1 5 < 3000) : toI g ops + 1 ≤ 3000 := by
  obtain ⟨-, hR, ht, h5, -⟩ := h
  rw [h5] at h9
  have := (nI_ltI (b := 3000) (by omega) (by decide)).mp h9
  omega
theorem S_isv {s : PS} {Z : MP} {r : RS} {g : Nat → List Rec} {v : Int32} {ts : List TRE} {o : List (Int32 × List TRE)} (h : SIM s Z r g ((v, ts) :: o)) : isv r (o.length + 1) = if v = 0 then 0 else 1 := by
  have hb := h.2.1.2.2.2.2.2.1.2.1
  unfold isv
  rw [show o.length + 1 - 1 = o.length by omega, hb]
  by_cases hv : v = 0
  · rw [if_pos hv, if_neg (fun z => z.2 hv)]
  · rw [if_neg hv, if_pos ⟨by omega, hv⟩]
theorem S_L {s : PS} {Z : MP} {r : RS} {g : Nat → List Rec} {v : Int32} {ts : List TRE} {o : List (Int32 × List TRE)} (h : SIM s Z r g ((v, ts) :: o)) : ¬ gF r 8 = 0 := by
  rw [h.2.1.2.2.1]
  exact nI_ne0 (by show 0 < o.length + 1; omega) (by have := h.2.1.1; omega)
theorem put1_RST {s : PS} {r : RS} (h : RST s r) (e : Nat) (k w h' d q c : Int32) (x : Int32) : RST (uI s 5 x) (put1 (sF r 0 0) e k w h' d q c) := RST_cong h (fun j hj => va_up_ne _ _ (by omega)) rfl (fun j hj => by unfold put1; rw [sF_FF, if_neg (by omega)]; show gF (sF r 0 0) j = _; rw [sF_FF, if_neg (by omega)]) (fun j hj => by funext i; rw [put1_B, if_neg (by omega)]; rfl) rfl
theorem dmx_lt {ts : List TRE} {n : Nat} (h : ∀ p ∈ ts, p.1.2.2.2 < n) : dmx ts ≤ n := by
  induction ts with
  | nil => exact Nat.zero_le _
  | cons p ts ih =>
    have h1 := h p List.mem_cons_self
    have h2 := ih (fun q hq => h q (List.mem_cons_of_mem _ hq))
    show max (dm1 p) (dmx ts) ≤ n
    unfold dm1
    split <;> omega
/-- no nesting is deeper than there are records -/
theorem WF_dl : ∀ (n : Nat) {v : Int32} {c : List Rec} {d : Nat}, WF n v c d → d ≤ c.length := by
  intro n
  induction n with
  | zero => intro v c d h; rw [h.2]; exact Nat.zero_le _
  | succ n ih =>
    intro v c d h
    obtain ⟨ts, rfl, rfl, hp⟩ := h
    induction ts with
    | nil => exact Nat.zero_le _
    | cons p ts ihs =>
      have h1 := ih (hp p List.mem_cons_self).2
      have h2 := ihs (fun q hq => hp q (List.mem_cons_of_mem _ hq))
      have hlen : (flt (p :: ts)).length = 1 + p.2.length + (flt ts).length := by show (p.2 ++ flt ts).length + 1 = _; rw [List.length_append]; omega
      rw [hlen]
      show max (dm1 p) (dmx ts) ≤ _
      unfold dm1
      split <;> omega
theorem lkn_WF {Zf Z : MP} {v : Int32} : ∀ {as : List Nat} {ts : List TRE}, lkn Zf Z v as ts → ∃ n, ∀ p ∈ ts, NK v p ∧ WF n p.1.2.1 p.2 p.1.2.2.2 := by
  intro as
  induction as with
  | nil => intro ts h; cases h; exact ⟨0, fun p hp => by cases hp⟩
  | cons a as ih =>
    intro ts h
    obtain ⟨p0, ts', bo, rfl, -, h3, h4⟩ := h
    obtain ⟨n, hn⟩ := ih h4
    have hup : ∀ (n m : Nat) {v : Int32} {c : List Rec} {d : Nat}, WF n v c d → WF (n + m) v c d := by
      intro n
      induction n with
      | zero =>
        intro m v c d h
        cases m with
        | zero => exact h
        | succ m => rw [Nat.zero_add]; exact ⟨[], h.1, h.2, fun _ z => by cases z⟩
      | succ n ihn =>
        intro m v c d h
        obtain ⟨ts, h1, h2, h3⟩ := h
        rw [show n + 1 + m = (n + m) + 1 by omega]
        exact ⟨ts, h1, h2, fun p hp => ⟨(h3 p hp).1, ihn m (h3 p hp).2⟩⟩
    have h0 : ∃ m, WF m p0.1.2.1 p0.2 p0.1.2.2.2 := by
      rcases h3.2 with ⟨k3, -, -, he⟩ | ⟨k3, b, fo, -, -, m, k6⟩
      · have hc : p0.2 = [] := by
          rcases h3.1.2.1 with z | z
          · exact absurd z.1 k3
          · exact z.2
        rw [hc, he]
        exact ⟨0, rfl, rfl⟩
      · exact ⟨m, CH_WF m k6⟩
    obtain ⟨m, hm⟩ := h0
    refine ⟨n + m, fun p hp => ?_⟩
    rcases List.mem_cons.mp hp with rfl | hp
    · refine ⟨h3.1, ?_⟩
      rw [Nat.add_comm]
      exact hup m n hm
    · exact ⟨(hn p hp).1, hup n m (hn p hp).2⟩
theorem S_dl {Zf Z : MP} {v : Int32} {as : List Nat} {ts : List TRE} (h : lkn Zf Z v as ts) : dmx ts ≤ (flt ts).length := by
  obtain ⟨n, hn⟩ := lkn_WF h
  exact WF_dl (n + 1) (v := v) ⟨ts, rfl, rfl, hn⟩
theorem cat_len (v : Int32) (ts : List TRE) (o : List (Int32 × List TRE)) : (cat ((v, ts) :: o)).length = (cat o).length + (flt ts).length := by show (cat o ++ flt ts).length = _; rw [List.length_append]
/-- what joins and is no box -/
theorem S_add {s : PS} {Z : MP} {r : RS} {g : Nat → List Rec} {v : Int32} {ts : List TRE} {o : List (Int32 × List TRE)} (h : SIM s Z r g ((v, ts) :: o)) {b q : Nat} {oo : Option Nat} {as fp' : List Nat} {Ic : Nat → Int32} {bc : Value} {Zf : MP} {I : Nat → Int32} (e2 : Z b = some (.inr (6, olv v (va_rf oo) (nI (o.length + 1)) (va_rf as.head?) (va_rf as.getLast?) (nI (flt ts).length) (nI (dmx ts)) (mea v ts (0, 0, 0))))) (hz : isz1 v) (hlo : ∀ c, as.getLast? = some c → ∃ nc, Z c = some (.inr (5, itv Ic bc nc))) (hs : ∀ a e, Zf a = some e → Z a = some e) (hl : lkn Zf Z v as ts) (ho : OLS Zf Z oo o fp') (hnd : (b :: (as ++ fp')).Nodup) (hnf : ∀ a ∈ b :: (as ++ fp'), Zf a = none) (hr : ∀ k, k < 8 → RGS (s.2.1 k) Zf (g k)) (h8 : s.2.1 8 = some b) (hq : Z q = none) (h3 : ¬ I 0 = 3) (hI : IOK v (I, 0, 1, 0)) {k w h' d e c : Int32} (hx : rC (I, 0, 1, 0) 1 = k ∧ rC (I, 0, 1, 0) 2 = w ∧ rC (I, 0, 1, 0) 3 = h' ∧ rC (I, 0, 1, 0) 4 = d ∧ rC (I, 0, 1, 0) 5 = e ∧ rC (I, 0, 1, 0) 6 = c ∧ rC (I, 0, 1, 0) 7 = 1) (h9 : s.1 5 < 3000) :
    SIM (uI s 5 (s.1 5 + 1)) (adZ Z b q I none as.getLast? Ic bc v (va_rf oo) (nI (o.length + 1)) (va_rf as.head?) (nI (flt ts).length) (nI (dmx ts)) 0 0 (mea v ts (0, 0, 0))) (put1 (sF r 0 0) (cat ((v, ts) :: o)).length k w h' d e c) g ((v, ts ++ [((I, 0, 1, 0), [])]) :: o) := by
  have hg := S_gt h h9
  have hcl := cat_len v ts o
  obtain ⟨-, hR, ht, h5, hS⟩ := h
  have hti : toI g ((v, ts ++ [((I, 0, 1, 0), ([] : List Rec))]) :: o) = toI g ((v, ts) :: o) + 1 := by
    show (cat o ++ flt (ts ++ [((I, 0, 1, 0), [])])).length + _ = (cat o ++ flt ts).length + _ + 1
    rw [flt_app, List.length_append, List.length_append, List.length_append]
    show _ + (_ + 1) + _ = _
    omega
  have hd := S_dl hl
  unfold toI at ht
  refine ⟨CLS_join (s := s) (g := g) (p := ((I, 0, 1, 0), [])) e2 hz hlo hs hl ho hnd hnf (s' := uI s 5 (s.1 5 + 1)) hr h8 hq ⟨⟨rfl, Or.inr ⟨h3, rfl⟩, hI⟩, Or.inl ⟨h3, rfl, rfl, rfl⟩⟩ (fun y hy => by cases hy) ⟨show 0 < 10000 by decide, by omega⟩, RR_add hR hx (by unfold toI at hg; omega), by rw [hti]; exact hg, ?_, put1_RST hS _ _ _ _ _ _ _ _⟩
  rw [hti]
  show va_up s.1 5 (s.1 5 + 1) 5 = _
  rw [va_up_self, h5, nI_1]
