/-! what the calls do to the class's lists -/
theorem gl_head {as : List Nat} (h : as.getLast? = none) : as = [] := List.getLast?_eq_none_iff.mp h
theorem gl_split {as : List Nat} {c : Nat} (h : as.getLast? = some c) : ∃ bs, as = bs ++ [c] := by
  have := List.getLast?_eq_some_iff.mp h
  obtain ⟨ys, h⟩ := this
  exact ⟨ys, h⟩
theorem jn_len (a m : Nat) (hm : 0 < m) : nI a + 1 + (nI m - 1) = nI (a + m) := by
  obtain ⟨k, rfl⟩ : ∃ k, m = k + 1 := ⟨m - 1, by omega⟩
  rw [nI_pred, nI_1, nI_add]
  congr 1
  omega
theorem OLS_join {Zf Z : MP} {b q : Nat} {v : Int32} {ts : List TRE} {o : List (Int32 × List TRE)} {oo : Option Nat} {as fp' : List Nat} {p : TRE} {bo : Option Nat} {Ic : Nat → Int32} {bc : Value} {bi bn : Int32} (hb : Z b = some (.inr (6, olv v (va_rf oo) (nI (o.length + 1)) (va_rf as.head?) (va_rf as.getLast?) (nI (flt ts).length) (nI (dmx ts)) (mea v ts (0, 0, 0))))) (hz : isz1 v) (hl : lkn Zf Z v as ts) (ho : OLS Zf Z oo o fp') (hnd : (b :: (as ++ fp')).Nodup) (hq : Z q = none) (hp : itm (PX Zf) Zf v p bo) (hlo : ∀ c, as.getLast? = some c → ∃ nc, Z c = some (.inr (5, itv Ic bc nc))) (hbi : ∀ y, bo = some y → bi = nI p.1.2.2.1 ∧ bn = nI (p.1.2.2.2 + 1)) (hlt : p.1.2.2.2 < 10000 ∧ dmx ts < 10000) :
    OLS Zf (adZ Z b q p.1.1 bo as.getLast? Ic bc v (va_rf oo) (nI (o.length + 1)) (va_rf as.head?) (nI (flt ts).length) (nI (dmx ts)) bi bn (mea v ts (0, 0, 0))) (some b) ((v, ts ++ [p]) :: o) (b :: (as ++ [q] ++ fp')) := by
  have hbq : b ≠ q := fun z => by rw [z, hq] at hb; cases hb
  have hasq : ∀ a ∈ as, a ≠ q := fun a ha z => by obtain ⟨I, bo, nx, h⟩ := lkn_some hl a ha; rw [z, hq] at h; cases h
  have hfpq : ∀ a ∈ fp', a ≠ q := fun a ha z => by obtain ⟨e, h⟩ := OLS_some ho a ha; rw [z, hq] at h; cases h
  have hnd1 := (List.nodup_cons.mp hnd).1
  have hnd2 := (List.nodup_cons.mp hnd).2
  have hasb : ∀ a ∈ as, a ≠ b := fun a ha z => hnd1 (by rw [← z]; exact List.mem_append_left _ ha)
  have hfpb : ∀ a ∈ fp', a ≠ b := fun a ha z => hnd1 (by rw [← z]; exact List.mem_append_right _ ha)
  have hdis : ∀ a ∈ as, ∀ c ∈ fp', a ≠ c := fun a ha c hc => (List.nodup_append.mp hnd2).2.2 a ha c hc
  have hitn : jit bo (nI (flt ts).length) bi = nI (flt (ts ++ [p])).length := by
    rw [flt_app, List.length_append]
    have hpl : (flt [p]).length = p.2.length + 1 := by show (p.2 ++ []).length + 1 = _; rw [List.append_nil]
    rw [hpl]
    rcases hp.2 with ⟨h3, rfl, -, -⟩ | ⟨h3, b9, fo, rfl, -, -⟩
    · have hc : p.2 = [] := by
        rcases hp.1.2.1 with z | z
        · exact absurd z.1 h3
        · exact z.2
      rw [hc]; exact nI_1 _
    · show nI _ + 1 + (bi - 1) = _
      rw [(hbi b9 rfl).1, hp.1.1]
      exact jn_len _ _ (by omega)
  have hnen : jne bo (nI (dmx ts)) bn = nI (dmx (ts ++ [p])) := by
    rw [dmx_app]
    show _ = nI (max (dmx ts) (max (dm1 p) 0))
    rw [Nat.max_zero]
    unfold dm1
    rcases hp.2 with ⟨h3, rfl, -, -⟩ | ⟨h3, b9, fo, rfl, -, -⟩
    · rw [if_neg h3, Nat.max_zero]; rfl
    · rw [if_pos h3]
      show (if nI (dmx ts) < bn then bn else nI (dmx ts)) = _
      rw [(hbi b9 rfl).2]
      by_cases hh : dmx ts < p.1.2.2.2 + 1
      · rw [if_pos (nI_lt hh (by omega)), Nat.max_eq_right (by omega)]
      · rw [if_neg (nI_nlt (by omega) (by omega)), Nat.max_eq_left (by omega)]
  have hmea : olm v p.1.1 (mea v ts (0, 0, 0)) = mea v (ts ++ [p]) (0, 0, 0) := by rw [mea_app]; rfl
  cases hgl : as.getLast? with
  | none =>
    have has := gl_head hgl
    subst has
    have hts : ts = [] := hl
    subst hts
    refine ⟨b, oo, [q], fp', rfl, ?_, hz, ?_, rfl, ?_⟩
    · unfold adZ
      rw [mu_self, hitn, hnen, hmea]
      rfl
    · refine ⟨p, [], bo, rfl, ?_, hp, rfl⟩
      unfold adZ
      rw [mu_ne _ _ hbq.symm]
      exact mu_self _ _ _
    · refine OLS_cong (fun _ _ z => z) (fun a ha => ?_) ho
      unfold adZ
      rw [mu_ne _ _ (hfpb a ha)]
      exact mu_ne _ _ (hfpq a ha)
  | some c =>
    obtain ⟨bs, has⟩ := gl_split hgl
    have hcm : c ∈ as := by rw [has]; exact List.mem_append_right _ List.mem_cons_self
    have hcq := hasq c hcm
    have hcb := hasb c hcm
    rw [has] at hl
    obtain ⟨I, b1, hI⟩ := lkn_last hl
    obtain ⟨nc, hnc⟩ := hlo c hgl
    have hndas : as.Nodup := (List.nodup_append.mp hnd2).1
    have hbsc : ∀ a ∈ bs, a ≠ c := fun a ha => by
      rw [has] at hndas
      exact (List.nodup_append.mp hndas).2.2 a ha c List.mem_cons_self
    have hval : ∀ a, a ≠ b → a ≠ c → a ≠ q → adZ Z b q p.1.1 bo (some c) Ic bc v (va_rf oo) (nI (o.length + 1)) (va_rf as.head?) (nI (flt ts).length) (nI (dmx ts)) bi bn (mea v ts (0, 0, 0)) a = Z a := fun a h1 h2 h3 => by
      unfold adZ
      rw [mu_ne _ _ h1]
      show mu (mu Z q _) c _ a = _
      rw [mu_ne _ _ h2, mu_ne _ _ h3]
    refine ⟨b, oo, as ++ [q], fp', rfl, ?_, hz, ?_, rfl, ?_⟩
    · unfold adZ
      rw [mu_self, hitn, hnen, hmea]
      have e1 : (as ++ [q]).getLast? = some q := List.getLast?_concat
      have e2 : (as ++ [q]).head? = as.head? := by rw [has]; cases bs <;> rfl
      rw [e1, e2]
      rfl
    · have hj := lkn_join (Z' := adZ Z b q p.1.1 bo (some c) Ic bc v (va_rf oo) (nI (o.length + 1)) (va_rf as.head?) (nI (flt ts).length) (nI (dmx ts)) bi bn (mea v ts (0, 0, 0))) (q := q) (p := p) (bo := bo) ?_ hp hl hI (fun a ha => hval a (hasb a (by rw [has]; exact List.mem_append_left _ ha)) (hbsc a ha) (hasq a (by rw [has]; exact List.mem_append_left _ ha))) ?_
      · rw [← has] at hj; exact hj
      · unfold adZ
        rw [mu_ne _ _ hbq.symm]
        show mu (mu Z q _) c _ q = _
        rw [mu_ne _ _ hcq.symm, mu_self]
      · unfold adZ
        rw [mu_ne _ _ hcb]
        show mu (mu Z q _) c _ c = _
        rw [mu_self]
        rw [hnc] at hI
        have e := congrArg (fun z => match z with | some (.inr (_, [i0, i1, i2, i3, i4, i5, i6, i7, b, _])) => ([i0, i1, i2, i3, i4, i5, i6, i7, b] : List Value) | _ => []) hI
        have e1 : [Value.int (Ic 0), .int (Ic 1), .int (Ic 2), .int (Ic 3), .int (Ic 4), .int (Ic 5), .int (Ic 6), .int (Ic 7), bc] = [.int (I 0), .int (I 1), .int (I 2), .int (I 3), .int (I 4), .int (I 5), .int (I 6), .int (I 7), va_rf b1] := e
        simp only [List.cons.injEq, and_true] at e1
        obtain ⟨a0, a1, a2, a3, a4, a5, a6, a7, a8⟩ := e1
        show some (Sum.inr (5, [Value.int (Ic 0), .int (Ic 1), .int (Ic 2), .int (Ic 3), .int (Ic 4), .int (Ic 5), .int (Ic 6), .int (Ic 7), bc, .ref q])) = some (Sum.inr (5, [.int (I 0), .int (I 1), .int (I 2), .int (I 3), .int (I 4), .int (I 5), .int (I 6), .int (I 7), va_rf b1, .ref q]))
        rw [a0, a1, a2, a3, a4, a5, a6, a7, a8]
    · refine OLS_cong (fun _ _ z => z) (fun a ha => hval a (hfpb a ha) (fun z => hdis c hcm a ha z.symm) (hfpq a ha)) ho
/-- a new list -/
theorem OLS_push {Zf Z : MP} {q : Nat} {v : Int32} {ops : List (Int32 × List TRE)} {i8 : Option Nat} {fp : List Nat} (h : OLS Zf Z i8 ops fp) (hz : isz1 v) (hq : Z q = none) {le : Int32} (hle : ∀ b, i8 = some b → le = nI ops.length) : OLS Zf (mu Z q (.inr (6, olv v (va_rf i8) (olev i8 le) .null .null 0 0 (0, 0, 0)))) (some q) ((v, []) :: ops) (q :: ([] ++ fp)) := by
  refine ⟨q, i8, [], fp, rfl, ?_, hz, rfl, rfl, OLS_cong (fun _ _ z => z) (fun a ha => ?_) h⟩
  · rw [mu_self]
    have e : olev i8 le = nI (ops.length + 1) := by
      cases i8 with
      | none =>
        cases ops with
        | nil => rfl
        | cons vt o => obtain ⟨b, oo, as, fp', h1, -⟩ := h; cases h1
      | some b => show le + 1 = _; rw [hle b rfl]; exact nI_1 _
    rw [e]
    rfl
  · obtain ⟨e, he⟩ := OLS_some h a ha
    exact mu_ne _ _ (fun z => by rw [z, hq] at he; cases he)
/-- the innermost list is closed: its items are kept for good -/
def ZfC (Zf Z : MP) (as : List Nat) (q : Nat) (e : va_E) : MP := fun a => if a = q then some e else if a ∈ as then Z a else Zf a
theorem ZfC_sub {Zf Z : MP} {as : List Nat} {q : Nat} {e : va_E} (hs : ∀ a x, Zf a = some x → Z a = some x) (hq : Z q = none) (hn : ∀ a ∈ as, Zf a = none) : (∀ a x, Zf a = some x → ZfC Zf Z as q e a = some x) ∧ ∀ a x, ZfC Zf Z as q e a = some x → mu Z q e a = some x := by
  constructor
  · intro a x ha
    unfold ZfC
    rw [if_neg (fun z => by have := hs a x ha; rw [z, hq] at this; cases this), if_neg (fun z => by rw [hn a z] at ha; cases ha)]
    exact ha
  · intro a x ha
    unfold ZfC at ha
    by_cases h1 : a = q
    · rw [if_pos h1] at ha; rw [h1, mu_self]; exact ha
    · rw [if_neg h1] at ha
      rw [mu_ne _ _ h1]
      by_cases h2 : a ∈ as
      · rw [if_pos h2] at ha; exact ha
      · rw [if_neg h2] at ha; exact hs a x ha
