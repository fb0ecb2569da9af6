/-! The reference's constructor: its arrays come one by one. -/
def rMt (ac : Nat → ClassId) (T : List (Nat × Nat × Nat)) (fs : List Value) (o : Nat) (ad : Nat → Nat) (r : RS) (M0 : MP) : MP := fun a => if a = o then some (.inr (9, fs)) else match T.find? (fun q => ad q.1 == a) with
  | some q => some (rcl ac r q)
  | none => M0 a
def adT (M0 : MP) (T : List (Nat × Nat × Nat)) (o : Nat) (ad : Nat → Nat) : Prop := (∀ p ∈ T, ∀ q ∈ T, ad p.1 = ad q.1 → p = q) ∧ (∀ q ∈ T, ad q.1 ≠ o) ∧ ∀ q ∈ T, M0 (ad q.1) = none
theorem rMt_o {ac : Nat → ClassId} {T : List (Nat × Nat × Nat)} {fs : List Value} {o : Nat} {ad : Nat → Nat} {r : RS} {M0 : MP} : rMt ac T fs o ad r M0 o = some (.inr (9, fs)) := if_pos rfl
theorem rMt_new {ac : Nat → ClassId} {T : List (Nat × Nat × Nat)} {fs : List Value} {o q : Nat} {ad : Nat → Nat} {r : RS} {M0 : MP} (x : Nat × Nat × Nat) (hx : ∀ p ∈ T, p.1 ≠ x.1) (hT : adT M0 T o ad) (hq : rMt ac T fs o ad r M0 q = none) : mu (rMt ac T fs o ad r M0) q (rcl ac r x) = rMt ac (T ++ [x]) fs o (va_up ad x.1 q) r M0 ∧ adT M0 (T ++ [x]) o (va_up ad x.1 q) := by
  have hqo : q ≠ o := fun z => by rw [z, rMt_o] at hq; cases hq
  have hqT : ∀ p ∈ T, ad p.1 ≠ q := by
    intro p hp z
    unfold rMt at hq
    rw [if_neg hqo] at hq
    cases hf : T.find? (fun p => ad p.1 == q) with
    | none => exact absurd (List.find?_eq_none.mp hf p hp) (by simp [z])
    | some y => rw [hf] at hq; cases hq
  have hup : ∀ p ∈ T, va_up ad x.1 q p.1 = ad p.1 := fun p hp => va_up_ne _ _ (hx p hp)
  have hqM : M0 q = none := by
    unfold rMt at hq
    rw [if_neg hqo] at hq
    cases hf : T.find? (fun p => ad p.1 == q) with
    | none => rw [hf] at hq; exact hq
    | some y => rw [hf] at hq; cases hq
  refine ⟨?_, ?_, ?_, ?_⟩
  · funext a
    by_cases ha : a = q
    · subst ha
      rw [mu_self]
      unfold rMt
      rw [if_neg hqo]
      have hf : T.find? (fun p => va_up ad x.1 a p.1 == a) = none := List.find?_eq_none.mpr (fun p hp => by rw [hup p hp]; simpa using hqT p hp)
      rw [List.find?_append, hf]
      simp [va_up_self]
    · rw [mu_ne _ _ ha]
      unfold rMt
      by_cases hao : a = o
      · rw [if_pos hao, if_pos hao]
      · rw [if_neg hao, if_neg hao]
        have hf : T.find? (fun p => va_up ad x.1 q p.1 == a) = T.find? (fun p => ad p.1 == a) := by
          have key : ∀ (L : List (Nat × Nat × Nat)), (∀ p ∈ L, va_up ad x.1 q p.1 = ad p.1) → L.find? (fun p => va_up ad x.1 q p.1 == a) = L.find? (fun p => ad p.1 == a) := by
            intro L
            induction L with
            | nil => intro _; rfl
            | cons y L ih =>
              intro hL
              rw [List.find?_cons, List.find?_cons, hL y List.mem_cons_self, ih (fun p hp => hL p (List.mem_cons_of_mem _ hp))]
          exact key T hup
        rw [List.find?_append, hf]
        cases T.find? (fun p => ad p.1 == a) with
        | some y => rfl
        | none =>
          have hqa : ¬ q = a := fun z => ha z.symm
          simp [va_up_self, hqa]
  · intro p hp y hy h
    rcases List.mem_append.mp hp with hp | hp <;> rcases List.mem_append.mp hy with hy | hy
    · rw [hup p hp, hup y hy] at h; exact hT.1 p hp y hy h
    · rw [List.mem_singleton.mp hy, va_up_self, hup p hp] at h; exact absurd h (hqT p hp)
    · rw [List.mem_singleton.mp hp, va_up_self, hup y hy] at h; exact absurd h.symm (hqT y hy)
    · rw [List.mem_singleton.mp hp, List.mem_singleton.mp hy]
  · intro p hp
    rcases List.mem_append.mp hp with hp | hp
    · rw [hup p hp]; exact hT.2.1 p hp
    · rw [List.mem_singleton.mp hp, va_up_self]; exact hqo
  · intro p hp
    rcases List.mem_append.mp hp with hp | hp
    · rw [hup p hp]; exact hT.2.2 p hp
    · rw [List.mem_singleton.mp hp, va_up_self]; exact hqM
theorem rMt_set {ac : Nat → ClassId} {T : List (Nat × Nat × Nat)} {fs fs' : List Value} {o : Nat} {ad : Nat → Nat} {r : RS} {M0 : MP} : mu (rMt ac T fs o ad r M0) o (.inr (9, fs')) = rMt ac T fs' o ad r M0 := by
  funext a
  by_cases ha : a = o
  · subst ha; rw [mu_self, rMt_o]
  · rw [mu_ne _ _ ha]
    unfold rMt
    rw [if_neg ha, if_neg ha]
def r00 : RS := (fun k => if k = 21 then -1 else 0, 0, fun _ _ => 0, fun _ => 0)
set_option maxRecDepth 100000 in
set_option maxHeartbeats 4000000 in
theorem Mod_init {l : Launch} {D : va_G} {ac : Nat → ClassId} {o : Nat} {M : MP} : Ct l D (tyl ac) t_Mod_init 21 370966 [.ref o] (mu M o (.inr (9, [.int 0, .null, .null, .null, .null, .null, .null, .null, .int 0, .null, .null, .int 0, .null, .null, .null, .null, .null, .null, .int 0, .int 0, .int 0, .int 0, .long 0, .int 0, .int 0, .null, .null, .int 0, .null, .null, .null, .null, .int 0, .int 0]))) (fun x M' => x = none ∧ ∃ ad, rAD o ad ∧ (∀ q ∈ rt, M (ad q.1) = none) ∧ M' = rM ac o ad r00 M) := by
  refine Ct_of (by decide) (Nat.le_of_ble_eq_true rfl) ?_
  refine V_ar_n d_Mod_init_0 rfl ?_
  refine V_objInit d_Mod_init_1 oi_Mod oi1 oi2 (by decide) (by decide) ?_
  have e0 : mu M o (.inr (9, [.int 0, .null, .null, .null, .null, .null, .null, .null, .int 0, .null, .null, .int 0, .null, .null, .null, .null, .null, .null, .int 0, .int 0, .int 0, .int 0, .long 0, .int 0, .int 0, .null, .null, .int 0, .null, .null, .null, .null, .int 0, .int 0])) = rMt ac [] [.int 0, .null, .null, .null, .null, .null, .null, .null, .int 0, .null, .null, .int 0, .null, .null, .null, .null, .null, .null, .int 0, .int 0, .int 0, .int 0, .long 0, .int 0, .int 0, .null, .null, .int 0, .null, .null, .null, .null, .int 0, .int 0] o (fun _ => 0) r00 M := by
    funext a
    by_cases ha : a = o
    · subst ha; rw [mu_self, rMt_o]
    · rw [mu_ne _ _ ha]; unfold rMt; rw [if_neg ha]; rfl
  rw [e0]
  have hT0 : adT M [] o (fun _ => 0) := ⟨fun p hp => absurd hp List.not_mem_nil, fun p hp => absurd hp List.not_mem_nil, fun p hp => absurd hp List.not_mem_nil⟩
  refine V_ar_n d_Mod_init_4 rfl ?_
  refine V_sipush (v := nI 6200) d_Mod_init_5 (by decide) ?_
  refine V_newi (N := 6200) (k' := 20) (n' := 364766) d_Mod_init_8 aw_int (by decide) (by decide) (by decide) rfl rfl (fun q0 hq0 => ?_)
  obtain ⟨e1, hT1⟩ := rMt_new (ac := ac) (r := r00) (1, 0, 6200) (by decide) hT0 hq0
  refine V_eqM e1 ?_
  refine V_putF d_Mod_init_10 f_Mod_7 rfl rMt_o rfl rfl (Nat.le_of_ble_eq_true rfl) ?_
  rw [rMt_set]
  refine V_eqM (M' := rMt ac [(1, 0, 6200)] [.int 0, .ref q0, .null, .null, .null, .null, .null, .null, .int 0, .null, .null, .int 0, .null, .null, .null, .null, .null, .null, .int 0, .int 0, .int 0, .int 0, .long 0, .int 0, .int 0, .null, .null, .int 0, .null, .null, .null, .null, .int 0, .int 0] o (va_up (fun _ => 0) 1 q0) r00 M) rfl ?_
  refine V_ar_n d_Mod_init_13 rfl ?_
  refine V_sipush (v := nI 6200) d_Mod_init_14 (by decide) ?_
  refine V_newi (N := 6200) (k' := 19) (n' := 358566) d_Mod_init_17 aw_int (by decide) (by decide) (by decide) rfl rfl (fun q1 hq1 => ?_)
  obtain ⟨e2, hT2⟩ := rMt_new (ac := ac) (r := r00) (2, 0, 6200) (by decide) hT1 hq1
  refine V_eqM e2 ?_
  refine V_putF d_Mod_init_19 f_Mod_13 rfl rMt_o rfl rfl (Nat.le_of_ble_eq_true rfl) ?_
  rw [rMt_set]
  refine V_eqM (M' := rMt ac [(1, 0, 6200), (2, 0, 6200)] [.int 0, .ref q0, .ref q1, .null, .null, .null, .null, .null, .int 0, .null, .null, .int 0, .null, .null, .null, .null, .null, .null, .int 0, .int 0, .int 0, .int 0, .long 0, .int 0, .int 0, .null, .null, .int 0, .null, .null, .null, .null, .int 0, .int 0] o (va_up (va_up (fun _ => 0) 1 q0) 2 q1) r00 M) rfl ?_
  refine V_ar_n d_Mod_init_22 rfl ?_
  refine V_sipush (v := nI 6200) d_Mod_init_23 (by decide) ?_
  refine V_newi (N := 6200) (k' := 18) (n' := 352366) d_Mod_init_26 aw_int (by decide) (by decide) (by decide) rfl rfl (fun q2 hq2 => ?_)
  obtain ⟨e3, hT3⟩ := rMt_new (ac := ac) (r := r00) (3, 0, 6200) (by decide) hT2 hq2
  refine V_eqM e3 ?_
  refine V_putF d_Mod_init_28 f_Mod_16 rfl rMt_o rfl rfl (Nat.le_of_ble_eq_true rfl) ?_
  rw [rMt_set]
  refine V_eqM (M' := rMt ac [(1, 0, 6200), (2, 0, 6200), (3, 0, 6200)] [.int 0, .ref q0, .ref q1, .ref q2, .null, .null, .null, .null, .int 0, .null, .null, .int 0, .null, .null, .null, .null, .null, .null, .int 0, .int 0, .int 0, .int 0, .long 0, .int 0, .int 0, .null, .null, .int 0, .null, .null, .null, .null, .int 0, .int 0] o (va_up (va_up (va_up (fun _ => 0) 1 q0) 2 q1) 3 q2) r00 M) rfl ?_
  refine V_ar_n d_Mod_init_31 rfl ?_
  refine V_sipush (v := nI 6200) d_Mod_init_32 (by decide) ?_
  refine V_newi (N := 6200) (k' := 17) (n' := 346166) d_Mod_init_35 aw_int (by decide) (by decide) (by decide) rfl rfl (fun q3 hq3 => ?_)
  obtain ⟨e4, hT4⟩ := rMt_new (ac := ac) (r := r00) (4, 0, 6200) (by decide) hT3 hq3
  refine V_eqM e4 ?_
  refine V_putF d_Mod_init_37 f_Mod_19 rfl rMt_o rfl rfl (Nat.le_of_ble_eq_true rfl) ?_
  rw [rMt_set]
  refine V_eqM (M' := rMt ac [(1, 0, 6200), (2, 0, 6200), (3, 0, 6200), (4, 0, 6200)] [.int 0, .ref q0, .ref q1, .ref q2, .ref q3, .null, .null, .null, .int 0, .null, .null, .int 0, .null, .null, .null, .null, .null, .null, .int 0, .int 0, .int 0, .int 0, .long 0, .int 0, .int 0, .null, .null, .int 0, .null, .null, .null, .null, .int 0, .int 0] o (va_up (va_up (va_up (va_up (fun _ => 0) 1 q0) 2 q1) 3 q2) 4 q3) r00 M) rfl ?_
  refine V_ar_n d_Mod_init_40 rfl ?_
  refine V_sipush (v := nI 6200) d_Mod_init_41 (by decide) ?_
  refine V_newi (N := 6200) (k' := 16) (n' := 339966) d_Mod_init_44 aw_int (by decide) (by decide) (by decide) rfl rfl (fun q4 hq4 => ?_)
  obtain ⟨e5, hT5⟩ := rMt_new (ac := ac) (r := r00) (5, 0, 6200) (by decide) hT4 hq4
  refine V_eqM e5 ?_
  refine V_putF d_Mod_init_46 f_Mod_22 rfl rMt_o rfl rfl (Nat.le_of_ble_eq_true rfl) ?_
  rw [rMt_set]
  refine V_eqM (M' := rMt ac [(1, 0, 6200), (2, 0, 6200), (3, 0, 6200), (4, 0, 6200), (5, 0, 6200)] [.int 0, .ref q0, .ref q1, .ref q2, .ref q3, .ref q4, .null, .null, .int 0, .null, .null, .int 0, .null, .null, .null, .null, .null, .null, .int 0, .int 0, .int 0, .int 0, .long 0, .int 0, .int 0, .null, .null, .int 0, .null, .null, .null, .null, .int 0, .int 0] o (va_up (va_up (va_up (va_up (va_up (fun _ => 0) 1 q0) 2 q1) 3 q2) 4 q3) 5 q4) r00 M) rfl ?_
  refine V_ar_n d_Mod_init_49 rfl ?_
  refine V_sipush (v := nI 6200) d_Mod_init_50 (by decide) ?_
  refine V_newi (N := 6200) (k' := 15) (n' := 333766) d_Mod_init_53 aw_int (by decide) (by decide) (by decide) rfl rfl (fun q5 hq5 => ?_)
  obtain ⟨e6, hT6⟩ := rMt_new (ac := ac) (r := r00) (6, 0, 6200) (by decide) hT5 hq5
  refine V_eqM e6 ?_
  refine V_putF d_Mod_init_55 f_Mod_25 rfl rMt_o rfl rfl (Nat.le_of_ble_eq_true rfl) ?_
  rw [rMt_set]
  refine V_eqM (M' := rMt ac [(1, 0, 6200), (2, 0, 6200), (3, 0, 6200), (4, 0, 6200), (5, 0, 6200), (6, 0, 6200)] [.int 0, .ref q0, .ref q1, .ref q2, .ref q3, .ref q4, .ref q5, .null, .int 0, .null, .null, .int 0, .null, .null, .null, .null, .null, .null, .int 0, .int 0, .int 0, .int 0, .long 0, .int 0, .int 0, .null, .null, .int 0, .null, .null, .null, .null, .int 0, .int 0] o (va_up (va_up (va_up (va_up (va_up (va_up (fun _ => 0) 1 q0) 2 q1) 3 q2) 4 q3) 5 q4) 6 q5) r00 M) rfl ?_
  refine V_ar_n d_Mod_init_58 rfl ?_
  refine V_sipush (v := nI 6200) d_Mod_init_59 (by decide) ?_
  refine V_newi (N := 6200) (k' := 14) (n' := 327566) d_Mod_init_62 aw_int (by decide) (by decide) (by decide) rfl rfl (fun q6 hq6 => ?_)
  obtain ⟨e7, hT7⟩ := rMt_new (ac := ac) (r := r00) (7, 0, 6200) (by decide) hT6 hq6
  refine V_eqM e7 ?_
  refine V_putF d_Mod_init_64 f_Mod_28 rfl rMt_o rfl rfl (Nat.le_of_ble_eq_true rfl) ?_
  rw [rMt_set]
  refine V_eqM (M' := rMt ac [(1, 0, 6200), (2, 0, 6200), (3, 0, 6200), (4, 0, 6200), (5, 0, 6200), (6, 0, 6200), (7, 0, 6200)] [.int 0, .ref q0, .ref q1, .ref q2, .ref q3, .ref q4, .ref q5, .ref q6, .int 0, .null, .null, .int 0, .null, .null, .null, .null, .null, .null, .int 0, .int 0, .int 0, .int 0, .long 0, .int 0, .int 0, .null, .null, .int 0, .null, .null, .null, .null, .int 0, .int 0] o (va_up (va_up (va_up (va_up (va_up (va_up (va_up (fun _ => 0) 1 q0) 2 q1) 3 q2) 4 q3) 5 q4) 6 q5) 7 q6) r00 M) rfl ?_
  refine V_ar_n d_Mod_init_67 rfl ?_
  refine V_bipush (v := nI 101) d_Mod_init_68 (by decide) ?_
  refine V_newi (N := 101) (k' := 13) (n' := 327465) d_Mod_init_70 aw_int (by decide) (by decide) (by decide) rfl rfl (fun q7 hq7 => ?_)
  obtain ⟨e8, hT8⟩ := rMt_new (ac := ac) (r := r00) (9, 0, 101) (by decide) hT7 hq7
  refine V_eqM e8 ?_
  refine V_putF d_Mod_init_72 f_Mod_31 rfl rMt_o rfl rfl (Nat.le_of_ble_eq_true rfl) ?_
  rw [rMt_set]
  refine V_eqM (M' := rMt ac [(1, 0, 6200), (2, 0, 6200), (3, 0, 6200), (4, 0, 6200), (5, 0, 6200), (6, 0, 6200), (7, 0, 6200), (9, 0, 101)] [.int 0, .ref q0, .ref q1, .ref q2, .ref q3, .ref q4, .ref q5, .ref q6, .int 0, .ref q7, .null, .int 0, .null, .null, .null, .null, .null, .null, .int 0, .int 0, .int 0, .int 0, .long 0, .int 0, .int 0, .null, .null, .int 0, .null, .null, .null, .null, .int 0, .int 0] o (va_up (va_up (va_up (va_up (va_up (va_up (va_up (va_up (fun _ => 0) 1 q0) 2 q1) 3 q2) 4 q3) 5 q4) 6 q5) 7 q6) 9 q7) r00 M) rfl ?_
  refine V_ar_n d_Mod_init_75 rfl ?_
  refine V_bipush (v := nI 101) d_Mod_init_76 (by decide) ?_
  refine V_newz (N := 101) (k' := 12) (n' := 327364) d_Mod_init_78 aw_boolean (by decide) (by decide) (by decide) rfl rfl (fun q8 hq8 => ?_)
  obtain ⟨e9, hT9⟩ := rMt_new (ac := ac) (r := r00) (10, 2, 101) (by decide) hT8 hq8
  refine V_eqM e9 ?_
  refine V_putF d_Mod_init_80 f_Mod_34 rfl rMt_o rfl rfl (Nat.le_of_ble_eq_true rfl) ?_
  rw [rMt_set]
  refine V_eqM (M' := rMt ac [(1, 0, 6200), (2, 0, 6200), (3, 0, 6200), (4, 0, 6200), (5, 0, 6200), (6, 0, 6200), (7, 0, 6200), (9, 0, 101), (10, 2, 101)] [.int 0, .ref q0, .ref q1, .ref q2, .ref q3, .ref q4, .ref q5, .ref q6, .int 0, .ref q7, .ref q8, .int 0, .null, .null, .null, .null, .null, .null, .int 0, .int 0, .int 0, .int 0, .long 0, .int 0, .int 0, .null, .null, .int 0, .null, .null, .null, .null, .int 0, .int 0] o (va_up (va_up (va_up (va_up (va_up (va_up (va_up (va_up (va_up (fun _ => 0) 1 q0) 2 q1) 3 q2) 4 q3) 5 q4) 6 q5) 7 q6) 9 q7) 10 q8) r00 M) rfl ?_
  refine V_ar_n d_Mod_init_83 rfl ?_
  refine V_bipush (v := nI 8) d_Mod_init_84 (by decide) ?_
  refine V_newi (N := 8) (k' := 11) (n' := 327356) d_Mod_init_86 aw_int (by decide) (by decide) (by decide) rfl rfl (fun q9 hq9 => ?_)
  obtain ⟨e10, hT10⟩ := rMt_new (ac := ac) (r := r00) (12, 0, 8) (by decide) hT9 hq9
  refine V_eqM e10 ?_
  refine V_putF d_Mod_init_88 f_Mod_38 rfl rMt_o rfl rfl (Nat.le_of_ble_eq_true rfl) ?_
  rw [rMt_set]
  refine V_eqM (M' := rMt ac [(1, 0, 6200), (2, 0, 6200), (3, 0, 6200), (4, 0, 6200), (5, 0, 6200), (6, 0, 6200), (7, 0, 6200), (9, 0, 101), (10, 2, 101), (12, 0, 8)] [.int 0, .ref q0, .ref q1, .ref q2, .ref q3, .ref q4, .ref q5, .ref q6, .int 0, .ref q7, .ref q8, .int 0, .ref q9, .null, .null, .null, .null, .null, .int 0, .int 0, .int 0, .int 0, .long 0, .int 0, .int 0, .null, .null, .int 0, .null, .null, .null, .null, .int 0, .int 0] o (va_up (va_up (va_up (va_up (va_up (va_up (va_up (va_up (va_up (va_up (fun _ => 0) 1 q0) 2 q1) 3 q2) 4 q3) 5 q4) 6 q5) 7 q6) 9 q7) 10 q8) 12 q9) r00 M) rfl ?_
  refine V_ar_n d_Mod_init_91 rfl ?_
  refine V_bipush (v := nI 32) d_Mod_init_92 (by decide) ?_
  refine V_newi (N := 32) (k' := 10) (n' := 327324) d_Mod_init_94 aw_int (by decide) (by decide) (by decide) rfl rfl (fun q10 hq10 => ?_)
  obtain ⟨e11, hT11⟩ := rMt_new (ac := ac) (r := r00) (13, 0, 32) (by decide) hT10 hq10
  refine V_eqM e11 ?_
  refine V_putF d_Mod_init_96 f_Mod_41 rfl rMt_o rfl rfl (Nat.le_of_ble_eq_true rfl) ?_
  rw [rMt_set]
  refine V_eqM (M' := rMt ac [(1, 0, 6200), (2, 0, 6200), (3, 0, 6200), (4, 0, 6200), (5, 0, 6200), (6, 0, 6200), (7, 0, 6200), (9, 0, 101), (10, 2, 101), (12, 0, 8), (13, 0, 32)] [.int 0, .ref q0, .ref q1, .ref q2, .ref q3, .ref q4, .ref q5, .ref q6, .int 0, .ref q7, .ref q8, .int 0, .ref q9, .ref q10, .null, .null, .null, .null, .int 0, .int 0, .int 0, .int 0, .long 0, .int 0, .int 0, .null, .null, .int 0, .null, .null, .null, .null, .int 0, .int 0] o (va_up (va_up (va_up (va_up (va_up (va_up (va_up (va_up (va_up (va_up (va_up (fun _ => 0) 1 q0) 2 q1) 3 q2) 4 q3) 5 q4) 6 q5) 7 q6) 9 q7) 10 q8) 12 q9) 13 q10) r00 M) rfl ?_
  refine V_ar_n d_Mod_init_99 rfl ?_
  refine V_bipush (v := nI 32) d_Mod_init_100 (by decide) ?_
  refine V_newi (N := 32) (k' := 9) (n' := 327292) d_Mod_init_102 aw_int (by decide) (by decide) (by decide) rfl rfl (fun q11 hq11 => ?_)
  obtain ⟨e12, hT12⟩ := rMt_new (ac := ac) (r := r00) (14, 0, 32) (by decide) hT11 hq11
  refine V_eqM e12 ?_
  refine V_putF d_Mod_init_104 f_Mod_44 rfl rMt_o rfl rfl (Nat.le_of_ble_eq_true rfl) ?_
  rw [rMt_set]
  refine V_eqM (M' := rMt ac [(1, 0, 6200), (2, 0, 6200), (3, 0, 6200), (4, 0, 6200), (5, 0, 6200), (6, 0, 6200), (7, 0, 6200), (9, 0, 101), (10, 2, 101), (12, 0, 8), (13, 0, 32), (14, 0, 32)] [.int 0, .ref q0, .ref q1, .ref q2, .ref q3, .ref q4, .ref q5, .ref q6, .int 0, .ref q7, .ref q8, .int 0, .ref q9, .ref q10, .ref q11, .null, .null, .null, .int 0, .int 0, .int 0, .int 0, .long 0, .int 0, .int 0, .null, .null, .int 0, .null, .null, .null, .null, .int 0, .int 0] o (va_up (va_up (va_up (va_up (va_up (va_up (va_up (va_up (va_up (va_up (va_up (va_up (fun _ => 0) 1 q0) 2 q1) 3 q2) 4 q3) 5 q4) 6 q5) 7 q6) 9 q7) 10 q8) 12 q9) 13 q10) 14 q11) r00 M) rfl ?_
  refine V_ar_n d_Mod_init_107 rfl ?_
  refine V_bipush (v := nI 32) d_Mod_init_108 (by decide) ?_
  refine V_newz (N := 32) (k' := 8) (n' := 327260) d_Mod_init_110 aw_boolean (by decide) (by decide) (by decide) rfl rfl (fun q12 hq12 => ?_)
  obtain ⟨e13, hT13⟩ := rMt_new (ac := ac) (r := r00) (15, 2, 32) (by decide) hT12 hq12
  refine V_eqM e13 ?_
  refine V_putF d_Mod_init_112 f_Mod_47 rfl rMt_o rfl rfl (Nat.le_of_ble_eq_true rfl) ?_
  rw [rMt_set]
  refine V_eqM (M' := rMt ac [(1, 0, 6200), (2, 0, 6200), (3, 0, 6200), (4, 0, 6200), (5, 0, 6200), (6, 0, 6200), (7, 0, 6200), (9, 0, 101), (10, 2, 101), (12, 0, 8), (13, 0, 32), (14, 0, 32), (15, 2, 32)] [.int 0, .ref q0, .ref q1, .ref q2, .ref q3, .ref q4, .ref q5, .ref q6, .int 0, .ref q7, .ref q8, .int 0, .ref q9, .ref q10, .ref q11, .ref q12, .null, .null, .int 0, .int 0, .int 0, .int 0, .long 0, .int 0, .int 0, .null, .null, .int 0, .null, .null, .null, .null, .int 0, .int 0] o (va_up (va_up (va_up (va_up (va_up (va_up (va_up (va_up (va_up (va_up (va_up (va_up (va_up (fun _ => 0) 1 q0) 2 q1) 3 q2) 4 q3) 5 q4) 6 q5) 7 q6) 9 q7) 10 q8) 12 q9) 13 q10) 14 q11) 15 q12) r00 M) rfl ?_
  refine V_ar_n d_Mod_init_115 rfl ?_
  refine V_bipush (v := nI 32) d_Mod_init_116 (by decide) ?_
  refine V_newz (N := 32) (k' := 7) (n' := 327228) d_Mod_init_118 aw_boolean (by decide) (by decide) (by decide) rfl rfl (fun q13 hq13 => ?_)
  obtain ⟨e14, hT14⟩ := rMt_new (ac := ac) (r := r00) (16, 2, 32) (by decide) hT13 hq13
  refine V_eqM e14 ?_
  refine V_putF d_Mod_init_120 f_Mod_50 rfl rMt_o rfl rfl (Nat.le_of_ble_eq_true rfl) ?_
  rw [rMt_set]
  refine V_eqM (M' := rMt ac [(1, 0, 6200), (2, 0, 6200), (3, 0, 6200), (4, 0, 6200), (5, 0, 6200), (6, 0, 6200), (7, 0, 6200), (9, 0, 101), (10, 2, 101), (12, 0, 8), (13, 0, 32), (14, 0, 32), (15, 2, 32), (16, 2, 32)] [.int 0, .ref q0, .ref q1, .ref q2, .ref q3, .ref q4, .ref q5, .ref q6, .int 0, .ref q7, .ref q8, .int 0, .ref q9, .ref q10, .ref q11, .ref q12, .ref q13, .null, .int 0, .int 0, .int 0, .int 0, .long 0, .int 0, .int 0, .null, .null, .int 0, .null, .null, .null, .null, .int 0, .int 0] o (va_up (va_up (va_up (va_up (va_up (va_up (va_up (va_up (va_up (va_up (va_up (va_up (va_up (va_up (fun _ => 0) 1 q0) 2 q1) 3 q2) 4 q3) 5 q4) 6 q5) 7 q6) 9 q7) 10 q8) 12 q9) 13 q10) 14 q11) 15 q12) 16 q13) r00 M) rfl ?_
  refine V_ar_n d_Mod_init_123 rfl ?_
  refine V_ldc d_Mod_init_124 k_Mod_53 ?_
  refine V_newb (N := 320000) (k' := 6) (n' := 7228) d_Mod_init_126 aw_byte (by decide) (by decide) (by decide) rfl rfl (fun q14 hq14 => ?_)
  obtain ⟨e15, hT15⟩ := rMt_new (ac := ac) (r := r00) (17, 1, 320000) (by decide) hT14 hq14
  refine V_eqM e15 ?_
  refine V_putF d_Mod_init_128 f_Mod_54 rfl rMt_o rfl rfl (Nat.le_of_ble_eq_true rfl) ?_
  rw [rMt_set]
  refine V_eqM (M' := rMt ac [(1, 0, 6200), (2, 0, 6200), (3, 0, 6200), (4, 0, 6200), (5, 0, 6200), (6, 0, 6200), (7, 0, 6200), (9, 0, 101), (10, 2, 101), (12, 0, 8), (13, 0, 32), (14, 0, 32), (15, 2, 32), (16, 2, 32), (17, 1, 320000)] [.int 0, .ref q0, .ref q1, .ref q2, .ref q3, .ref q4, .ref q5, .ref q6, .int 0, .ref q7, .ref q8, .int 0, .ref q9, .ref q10, .ref q11, .ref q12, .ref q13, .ref q14, .int 0, .int 0, .int 0, .int 0, .long 0, .int 0, .int 0, .null, .null, .int 0, .null, .null, .null, .null, .int 0, .int 0] o (va_up (va_up (va_up (va_up (va_up (va_up (va_up (va_up (va_up (va_up (va_up (va_up (va_up (va_up (va_up (fun _ => 0) 1 q0) 2 q1) 3 q2) 4 q3) 5 q4) 6 q5) 7 q6) 9 q7) 10 q8) 12 q9) 13 q10) 14 q11) 15 q12) 16 q13) 17 q14) r00 M) rfl ?_
  refine V_ar_n d_Mod_init_131 rfl ?_
  refine V_iconst (v := (-1)) d_Mod_init_132 (by decide) ?_
  refine V_putf d_Mod_init_133 f_Mod_58 rMt_o rfl rfl (Nat.le_of_ble_eq_true rfl) ?_
  rw [rMt_set]
  refine V_eqM (M' := rMt ac [(1, 0, 6200), (2, 0, 6200), (3, 0, 6200), (4, 0, 6200), (5, 0, 6200), (6, 0, 6200), (7, 0, 6200), (9, 0, 101), (10, 2, 101), (12, 0, 8), (13, 0, 32), (14, 0, 32), (15, 2, 32), (16, 2, 32), (17, 1, 320000)] [.int 0, .ref q0, .ref q1, .ref q2, .ref q3, .ref q4, .ref q5, .ref q6, .int 0, .ref q7, .ref q8, .int 0, .ref q9, .ref q10, .ref q11, .ref q12, .ref q13, .ref q14, .int 0, .int 0, .int 0, .int (-1), .long 0, .int 0, .int 0, .null, .null, .int 0, .null, .null, .null, .null, .int 0, .int 0] o (va_up (va_up (va_up (va_up (va_up (va_up (va_up (va_up (va_up (va_up (va_up (va_up (va_up (va_up (va_up (fun _ => 0) 1 q0) 2 q1) 3 q2) 4 q3) 5 q4) 6 q5) 7 q6) 9 q7) 10 q8) 12 q9) 13 q10) 14 q11) 15 q12) 16 q13) 17 q14) r00 M) rfl ?_
  refine V_ar_n d_Mod_init_136 rfl ?_
  refine V_sipush (v := nI 3100) d_Mod_init_137 (by decide) ?_
  refine V_newi (N := 3100) (k' := 5) (n' := 4128) d_Mod_init_140 aw_int (by decide) (by decide) (by decide) rfl rfl (fun q15 hq15 => ?_)
  obtain ⟨e16, hT16⟩ := rMt_new (ac := ac) (r := r00) (25, 0, 3100) (by decide) hT15 hq15
  refine V_eqM e16 ?_
  refine V_putF d_Mod_init_142 f_Mod_62 rfl rMt_o rfl rfl (Nat.le_of_ble_eq_true rfl) ?_
  rw [rMt_set]
  refine V_eqM (M' := rMt ac [(1, 0, 6200), (2, 0, 6200), (3, 0, 6200), (4, 0, 6200), (5, 0, 6200), (6, 0, 6200), (7, 0, 6200), (9, 0, 101), (10, 2, 101), (12, 0, 8), (13, 0, 32), (14, 0, 32), (15, 2, 32), (16, 2, 32), (17, 1, 320000), (25, 0, 3100)] [.int 0, .ref q0, .ref q1, .ref q2, .ref q3, .ref q4, .ref q5, .ref q6, .int 0, .ref q7, .ref q8, .int 0, .ref q9, .ref q10, .ref q11, .ref q12, .ref q13, .ref q14, .int 0, .int 0, .int 0, .int (-1), .long 0, .int 0, .int 0, .ref q15, .null, .int 0, .null, .null, .null, .null, .int 0, .int 0] o (va_up (va_up (va_up (va_up (va_up (va_up (va_up (va_up (va_up (va_up (va_up (va_up (va_up (va_up (va_up (va_up (fun _ => 0) 1 q0) 2 q1) 3 q2) 4 q3) 5 q4) 6 q5) 7 q6) 9 q7) 10 q8) 12 q9) 13 q10) 14 q11) 15 q12) 16 q13) 17 q14) 25 q15) r00 M) rfl ?_
  refine V_ar_n d_Mod_init_145 rfl ?_
  refine V_sipush (v := nI 3100) d_Mod_init_146 (by decide) ?_
  refine V_newi (N := 3100) (k' := 4) (n' := 1028) d_Mod_init_149 aw_int (by decide) (by decide) (by decide) rfl rfl (fun q16 hq16 => ?_)
  obtain ⟨e17, hT17⟩ := rMt_new (ac := ac) (r := r00) (26, 0, 3100) (by decide) hT16 hq16
  refine V_eqM e17 ?_
  refine V_putF d_Mod_init_151 f_Mod_65 rfl rMt_o rfl rfl (Nat.le_of_ble_eq_true rfl) ?_
  rw [rMt_set]
  refine V_eqM (M' := rMt ac [(1, 0, 6200), (2, 0, 6200), (3, 0, 6200), (4, 0, 6200), (5, 0, 6200), (6, 0, 6200), (7, 0, 6200), (9, 0, 101), (10, 2, 101), (12, 0, 8), (13, 0, 32), (14, 0, 32), (15, 2, 32), (16, 2, 32), (17, 1, 320000), (25, 0, 3100), (26, 0, 3100)] [.int 0, .ref q0, .ref q1, .ref q2, .ref q3, .ref q4, .ref q5, .ref q6, .int 0, .ref q7, .ref q8, .int 0, .ref q9, .ref q10, .ref q11, .ref q12, .ref q13, .ref q14, .int 0, .int 0, .int 0, .int (-1), .long 0, .int 0, .int 0, .ref q15, .ref q16, .int 0, .null, .null, .null, .null, .int 0, .int 0] o (va_up (va_up (va_up (va_up (va_up (va_up (va_up (va_up (va_up (va_up (va_up (va_up (va_up (va_up (va_up (va_up (va_up (fun _ => 0) 1 q0) 2 q1) 3 q2) 4 q3) 5 q4) 6 q5) 7 q6) 9 q7) 10 q8) 12 q9) 13 q10) 14 q11) 15 q12) 16 q13) 17 q14) 25 q15) 26 q16) r00 M) rfl ?_
  refine V_ar_n d_Mod_init_154 rfl ?_
  refine V_bipush (v := nI 102) d_Mod_init_155 (by decide) ?_
  refine V_newi (N := 102) (k' := 3) (n' := 926) d_Mod_init_157 aw_int (by decide) (by decide) (by decide) rfl rfl (fun q17 hq17 => ?_)
  obtain ⟨e18, hT18⟩ := rMt_new (ac := ac) (r := r00) (28, 0, 102) (by decide) hT17 hq17
  refine V_eqM e18 ?_
  refine V_putF d_Mod_init_159 f_Mod_68 rfl rMt_o rfl rfl (Nat.le_of_ble_eq_true rfl) ?_
  rw [rMt_set]
  refine V_eqM (M' := rMt ac [(1, 0, 6200), (2, 0, 6200), (3, 0, 6200), (4, 0, 6200), (5, 0, 6200), (6, 0, 6200), (7, 0, 6200), (9, 0, 101), (10, 2, 101), (12, 0, 8), (13, 0, 32), (14, 0, 32), (15, 2, 32), (16, 2, 32), (17, 1, 320000), (25, 0, 3100), (26, 0, 3100), (28, 0, 102)] [.int 0, .ref q0, .ref q1, .ref q2, .ref q3, .ref q4, .ref q5, .ref q6, .int 0, .ref q7, .ref q8, .int 0, .ref q9, .ref q10, .ref q11, .ref q12, .ref q13, .ref q14, .int 0, .int 0, .int 0, .int (-1), .long 0, .int 0, .int 0, .ref q15, .ref q16, .int 0, .ref q17, .null, .null, .null, .int 0, .int 0] o (va_up (va_up (va_up (va_up (va_up (va_up (va_up (va_up (va_up (va_up (va_up (va_up (va_up (va_up (va_up (va_up (va_up (va_up (fun _ => 0) 1 q0) 2 q1) 3 q2) 4 q3) 5 q4) 6 q5) 7 q6) 9 q7) 10 q8) 12 q9) 13 q10) 14 q11) 15 q12) 16 q13) 17 q14) 25 q15) 26 q16) 28 q17) r00 M) rfl ?_
  refine V_ar_n d_Mod_init_162 rfl ?_
  refine V_bipush (v := nI 102) d_Mod_init_163 (by decide) ?_
  refine V_newl (N := 102) (k' := 2) (n' := 824) d_Mod_init_165 aw_long (by decide) (by decide) (by decide) rfl rfl (fun q18 hq18 => ?_)
  obtain ⟨e19, hT19⟩ := rMt_new (ac := ac) (r := r00) (29, 3, 102) (by decide) hT18 hq18
  refine V_eqM e19 ?_
  refine V_putF d_Mod_init_167 f_Mod_71 rfl rMt_o rfl rfl (Nat.le_of_ble_eq_true rfl) ?_
  rw [rMt_set]
  refine V_eqM (M' := rMt ac [(1, 0, 6200), (2, 0, 6200), (3, 0, 6200), (4, 0, 6200), (5, 0, 6200), (6, 0, 6200), (7, 0, 6200), (9, 0, 101), (10, 2, 101), (12, 0, 8), (13, 0, 32), (14, 0, 32), (15, 2, 32), (16, 2, 32), (17, 1, 320000), (25, 0, 3100), (26, 0, 3100), (28, 0, 102), (29, 3, 102)] [.int 0, .ref q0, .ref q1, .ref q2, .ref q3, .ref q4, .ref q5, .ref q6, .int 0, .ref q7, .ref q8, .int 0, .ref q9, .ref q10, .ref q11, .ref q12, .ref q13, .ref q14, .int 0, .int 0, .int 0, .int (-1), .long 0, .int 0, .int 0, .ref q15, .ref q16, .int 0, .ref q17, .ref q18, .null, .null, .int 0, .int 0] o (va_up (va_up (va_up (va_up (va_up (va_up (va_up (va_up (va_up (va_up (va_up (va_up (va_up (va_up (va_up (va_up (va_up (va_up (va_up (fun _ => 0) 1 q0) 2 q1) 3 q2) 4 q3) 5 q4) 6 q5) 7 q6) 9 q7) 10 q8) 12 q9) 13 q10) 14 q11) 15 q12) 16 q13) 17 q14) 25 q15) 26 q16) 28 q17) 29 q18) r00 M) rfl ?_
  refine V_ar_n d_Mod_init_170 rfl ?_
  refine V_sipush (v := nI 816) d_Mod_init_171 (by decide) ?_
  refine V_newi (N := 816) (k' := 1) (n' := 8) d_Mod_init_174 aw_int (by decide) (by decide) (by decide) rfl rfl (fun q19 hq19 => ?_)
  obtain ⟨e20, hT20⟩ := rMt_new (ac := ac) (r := r00) (30, 0, 816) (by decide) hT19 hq19
  refine V_eqM e20 ?_
  refine V_putF d_Mod_init_176 f_Mod_75 rfl rMt_o rfl rfl (Nat.le_of_ble_eq_true rfl) ?_
  rw [rMt_set]
  refine V_eqM (M' := rMt ac [(1, 0, 6200), (2, 0, 6200), (3, 0, 6200), (4, 0, 6200), (5, 0, 6200), (6, 0, 6200), (7, 0, 6200), (9, 0, 101), (10, 2, 101), (12, 0, 8), (13, 0, 32), (14, 0, 32), (15, 2, 32), (16, 2, 32), (17, 1, 320000), (25, 0, 3100), (26, 0, 3100), (28, 0, 102), (29, 3, 102), (30, 0, 816)] [.int 0, .ref q0, .ref q1, .ref q2, .ref q3, .ref q4, .ref q5, .ref q6, .int 0, .ref q7, .ref q8, .int 0, .ref q9, .ref q10, .ref q11, .ref q12, .ref q13, .ref q14, .int 0, .int 0, .int 0, .int (-1), .long 0, .int 0, .int 0, .ref q15, .ref q16, .int 0, .ref q17, .ref q18, .ref q19, .null, .int 0, .int 0] o (va_up (va_up (va_up (va_up (va_up (va_up (va_up (va_up (va_up (va_up (va_up (va_up (va_up (va_up (va_up (va_up (va_up (va_up (va_up (va_up (fun _ => 0) 1 q0) 2 q1) 3 q2) 4 q3) 5 q4) 6 q5) 7 q6) 9 q7) 10 q8) 12 q9) 13 q10) 14 q11) 15 q12) 16 q13) 17 q14) 25 q15) 26 q16) 28 q17) 29 q18) 30 q19) r00 M) rfl ?_
  refine V_ar_n d_Mod_init_179 rfl ?_
  refine V_bipush (v := nI 8) d_Mod_init_180 (by decide) ?_
  refine V_newi (N := 8) (k' := 0) (n' := 0) d_Mod_init_182 aw_int (by decide) (by decide) (by decide) rfl rfl (fun q20 hq20 => ?_)
  obtain ⟨e21, hT21⟩ := rMt_new (ac := ac) (r := r00) (31, 0, 8) (by decide) hT20 hq20
  refine V_eqM e21 ?_
  refine V_putF d_Mod_init_184 f_Mod_78 rfl rMt_o rfl rfl (Nat.le_of_ble_eq_true rfl) ?_
  rw [rMt_set]
  refine V_eqM (M' := rMt ac [(1, 0, 6200), (2, 0, 6200), (3, 0, 6200), (4, 0, 6200), (5, 0, 6200), (6, 0, 6200), (7, 0, 6200), (9, 0, 101), (10, 2, 101), (12, 0, 8), (13, 0, 32), (14, 0, 32), (15, 2, 32), (16, 2, 32), (17, 1, 320000), (25, 0, 3100), (26, 0, 3100), (28, 0, 102), (29, 3, 102), (30, 0, 816), (31, 0, 8)] [.int 0, .ref q0, .ref q1, .ref q2, .ref q3, .ref q4, .ref q5, .ref q6, .int 0, .ref q7, .ref q8, .int 0, .ref q9, .ref q10, .ref q11, .ref q12, .ref q13, .ref q14, .int 0, .int 0, .int 0, .int (-1), .long 0, .int 0, .int 0, .ref q15, .ref q16, .int 0, .ref q17, .ref q18, .ref q19, .ref q20, .int 0, .int 0] o (va_up (va_up (va_up (va_up (va_up (va_up (va_up (va_up (va_up (va_up (va_up (va_up (va_up (va_up (va_up (va_up (va_up (va_up (va_up (va_up (va_up (fun _ => 0) 1 q0) 2 q1) 3 q2) 4 q3) 5 q4) 6 q5) 7 q6) 9 q7) 10 q8) 12 q9) 13 q10) 14 q11) 15 q12) 16 q13) 17 q14) 25 q15) 26 q16) 28 q17) 29 q18) 30 q19) 31 q20) r00 M) rfl ?_
  exact V_return d_Mod_init_187 rfl ⟨rfl, (va_up (va_up (va_up (va_up (va_up (va_up (va_up (va_up (va_up (va_up (va_up (va_up (va_up (va_up (va_up (va_up (va_up (va_up (va_up (va_up (va_up (fun _ => 0) 1 q0) 2 q1) 3 q2) 4 q3) 5 q4) 6 q5) 7 q6) 9 q7) 10 q8) 12 q9) 13 q10) 14 q11) 15 q12) 16 q13) 17 q14) 25 q15) 26 q16) 28 q17) 29 q18) 30 q19) 31 q20), ⟨hT21.1, hT21.2.1⟩, hT21.2.2, rfl⟩
