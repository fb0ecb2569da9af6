/-! the constructors of Bytes, Fonts, PageWriter, PageFile -/
theorem mu_nn {M : MP} {a q : Nat} {e : va_E} (h : mu M a e q = none) : q ≠ a ∧ M q = none := by
  by_cases z : q = a
  · rw [z, mu_self] at h; cases h
  · rw [mu_ne _ _ z] at h; exact ⟨z, h⟩
theorem mu_o1 (M : MP) {a q : Nat} (h : q ≠ a) (e r e' : va_E) : mu (mu (mu M a e) q r) a e' = mu (mu M q r) a e' := by rw [mu_comm M h.symm, mu_mu]
theorem mu_o2 (M : MP) {a q p : Nat} (h : q ≠ a) (h2 : p ≠ a) (e r r2 e' : va_E) : mu (mu (mu (mu M a e) q r) p r2) a e' = mu (mu (mu M q r) p r2) a e' := by rw [mu_comm (mu M a e |> fun x => mu x q r) h2, mu_o1 _ h, mu_comm _ h2.symm]
theorem mu_o3 (M : MP) {a q p u : Nat} (h : q ≠ a) (h2 : p ≠ a) (h3 : u ≠ a) (e r r2 r3 e' : va_E) : mu (mu (mu (mu (mu M a e) q r) p r2) u r3) a e' = mu (mu (mu (mu M q r) p r2) u r3) a e' := by rw [mu_comm (mu (mu (mu M a e) q r) p r2) h3, mu_o2 _ h h2, mu_comm _ h3.symm]
set_option maxRecDepth 100000 in
set_option maxHeartbeats 4000000 in
theorem Byt_init {l : Launch} {D : va_G} {ac : Nat → ClassId} {M : MP} {a : Nat} : Ct l D (tyl ac) t_Byt_init 1 256 [.ref a] (mu M a (.inr (2, [.null, .int 0]))) (fun r M' => r = none ∧ ∃ q, M q = none ∧ q ≠ a ∧ M' = mu (mu M q (byR ac 256 (fun _ => 0))) a (byO q 0)) := by
  refine Ct_of (by decide) (Nat.le_of_ble_eq_true rfl) ?_
  refine V_aload_n d_Byt_init_0 rfl (isr_ref _) ?_
  refine V_objInit d_Byt_init_1 oi_Byt oi1 oi2 (by decide) (Nat.le_of_ble_eq_true rfl) ?_
  refine V_aload_n d_Byt_init_4 rfl (isr_ref _) ?_
  refine V_sipush (v := 256) d_Byt_init_5 (by decide) ?_
  refine V_newb (N := 256) (k' := 0) (n' := 0) d_Byt_init_8 aw_byte (by decide) (by decide) (by decide) rfl rfl (fun q hq => ?_)
  obtain ⟨n_q_a, hq⟩ := mu_nn hq
  refine V_putf d_Byt_init_10 f_Byt_9 ((mu_ne _ _ (n_q_a).symm).trans (mu_self _ _ _)) (rfl) (rfl) (Nat.le_of_ble_eq_true rfl) ?_
  rw [mu_o1 _ n_q_a]
  exact V_return d_Byt_init_13 rfl ⟨rfl, q, hq, n_q_a, rfl⟩
set_option maxRecDepth 100000 in
set_option maxHeartbeats 4000000 in
theorem Fon_init {l : Launch} {D : va_G} {ac : Nat → ClassId} {M : MP} {a : Nat} : Ct l D (tyl ac) t_Fon_init 2 64 [.ref a] (mu M a (.inr (3, [.null, .null, .int 0]))) (fun r M' => r = none ∧ ∃ q p, M q = none ∧ M p = none ∧ q ≠ a ∧ p ≠ a ∧ p ≠ q ∧ M' = mu (mu (mu M q (.inl (ac 0, 32, .inl (fun _ => 0)))) p (.inl (ac 0, 32, .inl (fun _ => 0)))) a (.inr (3, [.ref q, .ref p, .int 0]))) := by
  refine Ct_of (by decide) (Nat.le_of_ble_eq_true rfl) ?_
  refine V_aload_n d_Fon_init_0 rfl (isr_ref _) ?_
  refine V_objInit d_Fon_init_1 oi_Fon oi1 oi2 (by decide) (Nat.le_of_ble_eq_true rfl) ?_
  refine V_aload_n d_Fon_init_4 rfl (isr_ref _) ?_
  refine V_bipush (v := 32) d_Fon_init_5 (by decide) ?_
  refine V_newi (N := 32) (k' := 1) (n' := 32) d_Fon_init_7 aw_int (by decide) (by decide) (by decide) rfl rfl (fun q hq => ?_)
  obtain ⟨n_q_a, hq⟩ := mu_nn hq
  refine V_putF d_Fon_init_9 f_Fon_9 rfl ((mu_ne _ _ (n_q_a).symm).trans (mu_self _ _ _)) (rfl) (rfl) (Nat.le_of_ble_eq_true rfl) ?_
  rw [mu_o1 _ n_q_a]
  refine V_aload_n d_Fon_init_12 rfl (isr_ref _) ?_
  refine V_bipush (v := 32) d_Fon_init_13 (by decide) ?_
  refine V_newi (N := 32) (k' := 0) (n' := 0) d_Fon_init_15 aw_int (by decide) (by decide) (by decide) rfl rfl (fun p hp => ?_)
  obtain ⟨n_p_a, hp⟩ := mu_nn hp
  obtain ⟨n_p_q, hp⟩ := mu_nn hp
  refine V_putF d_Fon_init_17 f_Fon_15 rfl ((mu_ne _ _ (n_p_a).symm).trans (mu_self _ _ _)) (rfl) (rfl) (Nat.le_of_ble_eq_true rfl) ?_
  rw [mu_o1 _ n_p_a]
  exact V_return d_Fon_init_20 rfl ⟨rfl, q, p, hq, hp, n_q_a, n_p_a, n_p_q, rfl⟩
def pwX (ac : Nat → ClassId) (M : MP) (r q2 q7 q8 q3 q4 q5 q9 q10 q11 : Nat) : MP := (mu (mu (mu (mu (mu (mu (mu (mu (mu (mu M r (byR ac 256 (fun _ => 0))) q2 (byO r 0)) q7 (.inl (ac 0, 32, .inl (fun _ => 0)))) q8 (.inl (ac 0, 32, .inl (fun _ => 0)))) q3 (.inr (3, [.ref q7, .ref q8, .int 0]))) q4 (.inr (8, trv 147 0 0 0 0))) q5 (.inr (8, trv 161 0 0 0 0))) q9 (.inr (4, nfr .null 1 q10 q11))) q10 (.inr (8, trv 147 0 0 0 0))) q11 (.inr (8, trv 161 0 0 0 0)))
set_option maxRecDepth 100000 in
set_option maxHeartbeats 4000000 in
theorem PgW_init {l : Launch} {D : va_G} {ac : Nat → ClassId} {M : MP} {a : Nat} : Ct l D (tyl ac) t_PgW_init 10 358 [.ref a] (mu M a (.inr (7, [.null, .null, .null, .null, .null, .int 0, .int 0, .int 0]))) (fun x M' => x = none ∧ ∃ r q2 q7 q8 q3 q4 q5 q9 q10 q11, List.Nodup [a, r, q2, q7, q8, q3, q4, q5, q9, q10, q11] ∧ (M r = none ∧ M q2 = none ∧ M q7 = none ∧ M q8 = none ∧ M q3 = none ∧ M q4 = none ∧ M q5 = none ∧ M q9 = none ∧ M q10 = none ∧ M q11 = none) ∧ M' = mu (pwX ac M r q2 q7 q8 q3 q4 q5 q9 q10 q11) a (.inr (7, [.ref q2, .ref q3, .ref q4, .ref q5, .ref q9, .int 0, .int 0, .int 0]))) := by
  refine Ct_of (by decide) (Nat.le_of_ble_eq_true rfl) ?_
  refine V_aload_n d_PgW_init_0 rfl (isr_ref _) ?_
  refine V_objInit d_PgW_init_1 oi_PgW oi1 oi2 (by decide) (Nat.le_of_ble_eq_true rfl) ?_
  refine V_aload_n d_PgW_init_4 rfl (isr_ref _) ?_
  refine V_new (k' := 9) (n' := 356) d_PgW_init_5 n_PgW_9 rfl rfl (fun q2 h2 => ?_)
  obtain ⟨n_q2_a, h2⟩ := mu_nn h2
  refine V_dup d_PgW_init_8 rfl ?_
  refine V_callIN (As := []) (rest := [.ref q2, .ref a]) (b := q2) (k' := 8) (n' := 100) d_PgW_init_9 c_PgW_11 ⟨by decide, by decide⟩ rfl rfl (Nat.le_of_ble_eq_true rfl) rfl rfl Byt_init (fun x M1 hq9 => ?_)
  obtain ⟨rfl, r, hr, n_r_q2, rfl⟩ := hq9
  obtain ⟨n_r_a, hr⟩ := mu_nn hr
  refine V_putF d_PgW_init_12 f_PgW_12 rfl ((mu_ne _ _ (n_q2_a).symm).trans ((mu_ne _ _ (n_r_a).symm).trans (mu_self _ _ _))) (rfl) (rfl) (Nat.le_of_ble_eq_true rfl) ?_
  rw [mu_o2 _ n_r_a n_q2_a]
  refine V_aload_n d_PgW_init_15 rfl (isr_ref _) ?_
  refine V_new (k' := 7) (n' := 97) d_PgW_init_16 n_PgW_18 rfl rfl (fun q3 h3 => ?_)
  obtain ⟨n_q3_a, h3⟩ := mu_nn h3
  obtain ⟨n_q3_q2, h3⟩ := mu_nn h3
  obtain ⟨n_q3_r, h3⟩ := mu_nn h3
  refine V_dup d_PgW_init_19 rfl ?_
  refine V_callIN (As := []) (rest := [.ref q3, .ref a]) (b := q3) (k' := 5) (n' := 33) d_PgW_init_20 c_PgW_20 ⟨by decide, by decide⟩ rfl rfl (Nat.le_of_ble_eq_true rfl) rfl rfl Fon_init (fun x M1 hq9 => ?_)
  obtain ⟨rfl, q7, q8, h7, h8, n_q7_q3, n_q8_q3, n_q8_q7, rfl⟩ := hq9
  obtain ⟨n_q7_a, h7⟩ := mu_nn h7
  obtain ⟨n_q7_q2, h7⟩ := mu_nn h7
  obtain ⟨n_q7_r, h7⟩ := mu_nn h7
  obtain ⟨n_q8_a, h8⟩ := mu_nn h8
  obtain ⟨n_q8_q2, h8⟩ := mu_nn h8
  obtain ⟨n_q8_r, h8⟩ := mu_nn h8
  refine V_putF d_PgW_init_23 f_PgW_21 rfl ((mu_ne _ _ (n_q3_a).symm).trans ((mu_ne _ _ (n_q8_a).symm).trans ((mu_ne _ _ (n_q7_a).symm).trans (mu_self _ _ _)))) (rfl) (rfl) (Nat.le_of_ble_eq_true rfl) ?_
  rw [mu_o3 _ n_q7_a n_q8_a n_q3_a]
  refine V_aload_n d_PgW_init_26 rfl (isr_ref _) ?_
  refine V_new (k' := 4) (n' := 28) d_PgW_init_27 n_PgW_25 rfl rfl (fun q4 h4 => ?_)
  obtain ⟨n_q4_a, h4⟩ := mu_nn h4
  obtain ⟨n_q4_q3, h4⟩ := mu_nn h4
  obtain ⟨n_q4_q8, h4⟩ := mu_nn h4
  obtain ⟨n_q4_q7, h4⟩ := mu_nn h4
  obtain ⟨n_q4_q2, h4⟩ := mu_nn h4
  obtain ⟨n_q4_r, h4⟩ := mu_nn h4
  refine V_dup d_PgW_init_30 rfl ?_
  refine V_sipush (v := 147) d_PgW_init_31 (by decide) ?_
  refine V_callI (As := [.int 147]) (rest := [.ref q4, .ref a]) (b := q4) (k' := 4) (n' := 28) d_PgW_init_34 c_PgW_27 ⟨by decide, by decide⟩ rfl rfl (Nat.le_of_ble_eq_true rfl) rfl rfl Trk_init (fun x M1 hq9 => ?_)
  obtain ⟨rfl, rfl⟩ := hq9
  refine V_putF d_PgW_init_37 f_PgW_30 rfl ((mu_ne _ _ (n_q4_a).symm).trans (mu_self _ _ _)) (rfl) (rfl) (Nat.le_of_ble_eq_true rfl) ?_
  rw [mu_o1 _ n_q4_a]
  refine V_aload_n d_PgW_init_40 rfl (isr_ref _) ?_
  refine V_new (k' := 3) (n' := 23) d_PgW_init_41 n_PgW_25 rfl rfl (fun q5 h5 => ?_)
  obtain ⟨n_q5_a, h5⟩ := mu_nn h5
  obtain ⟨n_q5_q4, h5⟩ := mu_nn h5
  obtain ⟨n_q5_q3, h5⟩ := mu_nn h5
  obtain ⟨n_q5_q8, h5⟩ := mu_nn h5
  obtain ⟨n_q5_q7, h5⟩ := mu_nn h5
  obtain ⟨n_q5_q2, h5⟩ := mu_nn h5
  obtain ⟨n_q5_r, h5⟩ := mu_nn h5
  refine V_dup d_PgW_init_44 rfl ?_
  refine V_sipush (v := 161) d_PgW_init_45 (by decide) ?_
  refine V_callI (As := [.int 161]) (rest := [.ref q5, .ref a]) (b := q5) (k' := 3) (n' := 23) d_PgW_init_48 c_PgW_27 ⟨by decide, by decide⟩ rfl rfl (Nat.le_of_ble_eq_true rfl) rfl rfl Trk_init (fun x M1 hq9 => ?_)
  obtain ⟨rfl, rfl⟩ := hq9
  refine V_putF d_PgW_init_51 f_PgW_34 rfl ((mu_ne _ _ (n_q5_a).symm).trans (mu_self _ _ _)) (rfl) (rfl) (Nat.le_of_ble_eq_true rfl) ?_
  rw [mu_o1 _ n_q5_a]
  refine V_aload_n d_PgW_init_54 rfl (isr_ref _) ?_
  refine V_new (k' := 2) (n' := 10) d_PgW_init_55 n_PgW_37 rfl rfl (fun q9 h9 => ?_)
  obtain ⟨n_q9_a, h9⟩ := mu_nn h9
  obtain ⟨n_q9_q5, h9⟩ := mu_nn h9
  obtain ⟨n_q9_q4, h9⟩ := mu_nn h9
  obtain ⟨n_q9_q3, h9⟩ := mu_nn h9
  obtain ⟨n_q9_q8, h9⟩ := mu_nn h9
  obtain ⟨n_q9_q7, h9⟩ := mu_nn h9
  obtain ⟨n_q9_q2, h9⟩ := mu_nn h9
  obtain ⟨n_q9_r, h9⟩ := mu_nn h9
  refine V_dup d_PgW_init_58 rfl ?_
  refine V_null d_PgW_init_59 ?_
  refine V_callI (As := [.null]) (rest := [.ref q9, .ref a]) (b := q9) (k' := 0) (n' := 0) d_PgW_init_60 c_PgW_39 ⟨by decide, by decide⟩ rfl rfl (Nat.le_of_ble_eq_true rfl) rfl rfl Fra_init0 (fun x M1 hq9 => ?_)
  obtain ⟨rfl, q10, q11, h10, h11, m_9_10, m_9_11, m_10_11, rfl⟩ := hq9
  obtain ⟨n_q10_a, h10⟩ := mu_nn h10
  obtain ⟨n_q10_q5, h10⟩ := mu_nn h10
  obtain ⟨n_q10_q4, h10⟩ := mu_nn h10
  obtain ⟨n_q10_q3, h10⟩ := mu_nn h10
  obtain ⟨n_q10_q8, h10⟩ := mu_nn h10
  obtain ⟨n_q10_q7, h10⟩ := mu_nn h10
  obtain ⟨n_q10_q2, h10⟩ := mu_nn h10
  obtain ⟨n_q10_r, h10⟩ := mu_nn h10
  obtain ⟨n_q11_a, h11⟩ := mu_nn h11
  obtain ⟨n_q11_q5, h11⟩ := mu_nn h11
  obtain ⟨n_q11_q4, h11⟩ := mu_nn h11
  obtain ⟨n_q11_q3, h11⟩ := mu_nn h11
  obtain ⟨n_q11_q8, h11⟩ := mu_nn h11
  obtain ⟨n_q11_q7, h11⟩ := mu_nn h11
  obtain ⟨n_q11_q2, h11⟩ := mu_nn h11
  obtain ⟨n_q11_r, h11⟩ := mu_nn h11
  refine V_putF d_PgW_init_63 f_PgW_42 rfl ((mu_ne _ _ (n_q11_a).symm).trans ((mu_ne _ _ (n_q10_a).symm).trans ((mu_ne _ _ (n_q9_a).symm).trans (mu_self _ _ _)))) (rfl) (rfl) (Nat.le_of_ble_eq_true rfl) ?_
  rw [mu_o3 _ n_q9_a n_q10_a n_q11_a]
  exact V_return d_PgW_init_66 rfl ⟨rfl, r, q2, q7, q8, q3, q4, q5, q9, q10, q11, List.nodup_cons.mpr ⟨fun z => by simp only [List.mem_cons, List.not_mem_nil, or_false] at z; exact (fun z => z.elim ((n_r_a).symm) (fun z => z.elim ((n_q2_a).symm) (fun z => z.elim ((n_q7_a).symm) (fun z => z.elim ((n_q8_a).symm) (fun z => z.elim ((n_q3_a).symm) (fun z => z.elim ((n_q4_a).symm) (fun z => z.elim ((n_q5_a).symm) (fun z => z.elim ((n_q9_a).symm) (fun z => z.elim ((n_q10_a).symm) ((n_q11_a).symm)))))))))) z, List.nodup_cons.mpr ⟨fun z => by simp only [List.mem_cons, List.not_mem_nil, or_false] at z; exact (fun z => z.elim (n_r_q2) (fun z => z.elim ((n_q7_r).symm) (fun z => z.elim ((n_q8_r).symm) (fun z => z.elim ((n_q3_r).symm) (fun z => z.elim ((n_q4_r).symm) (fun z => z.elim ((n_q5_r).symm) (fun z => z.elim ((n_q9_r).symm) (fun z => z.elim ((n_q10_r).symm) ((n_q11_r).symm))))))))) z, List.nodup_cons.mpr ⟨fun z => by simp only [List.mem_cons, List.not_mem_nil, or_false] at z; exact (fun z => z.elim ((n_q7_q2).symm) (fun z => z.elim ((n_q8_q2).symm) (fun z => z.elim ((n_q3_q2).symm) (fun z => z.elim ((n_q4_q2).symm) (fun z => z.elim ((n_q5_q2).symm) (fun z => z.elim ((n_q9_q2).symm) (fun z => z.elim ((n_q10_q2).symm) ((n_q11_q2).symm)))))))) z, List.nodup_cons.mpr ⟨fun z => by simp only [List.mem_cons, List.not_mem_nil, or_false] at z; exact (fun z => z.elim ((n_q8_q7).symm) (fun z => z.elim (n_q7_q3) (fun z => z.elim ((n_q4_q7).symm) (fun z => z.elim ((n_q5_q7).symm) (fun z => z.elim ((n_q9_q7).symm) (fun z => z.elim ((n_q10_q7).symm) ((n_q11_q7).symm))))))) z, List.nodup_cons.mpr ⟨fun z => by simp only [List.mem_cons, List.not_mem_nil, or_false] at z; exact (fun z => z.elim (n_q8_q3) (fun z => z.elim ((n_q4_q8).symm) (fun z => z.elim ((n_q5_q8).symm) (fun z => z.elim ((n_q9_q8).symm) (fun z => z.elim ((n_q10_q8).symm) ((n_q11_q8).symm)))))) z, List.nodup_cons.mpr ⟨fun z => by simp only [List.mem_cons, List.not_mem_nil, or_false] at z; exact (fun z => z.elim ((n_q4_q3).symm) (fun z => z.elim ((n_q5_q3).symm) (fun z => z.elim ((n_q9_q3).symm) (fun z => z.elim ((n_q10_q3).symm) ((n_q11_q3).symm))))) z, List.nodup_cons.mpr ⟨fun z => by simp only [List.mem_cons, List.not_mem_nil, or_false] at z; exact (fun z => z.elim ((n_q5_q4).symm) (fun z => z.elim ((n_q9_q4).symm) (fun z => z.elim ((n_q10_q4).symm) ((n_q11_q4).symm)))) z, List.nodup_cons.mpr ⟨fun z => by simp only [List.mem_cons, List.not_mem_nil, or_false] at z; exact (fun z => z.elim ((n_q9_q5).symm) (fun z => z.elim ((n_q10_q5).symm) ((n_q11_q5).symm))) z, List.nodup_cons.mpr ⟨fun z => by simp only [List.mem_cons, List.not_mem_nil, or_false] at z; exact (fun z => z.elim (m_9_10) (m_9_11)) z, List.nodup_cons.mpr ⟨fun z => by simp only [List.mem_cons, List.not_mem_nil, or_false] at z; exact m_10_11 z, List.nodup_cons.mpr ⟨fun z => by simp only [List.mem_cons, List.not_mem_nil, or_false] at z, List.nodup_nil⟩⟩⟩⟩⟩⟩⟩⟩⟩⟩⟩, ⟨hr, h2, h7, h8, h3, h4, h5, h9, h10, h11⟩, rfl⟩
def s00 : PS := (fun k => if k = 7 then -1 else 0, fun _ => none, fun _ _ => 0, fun _ => (0, 0, 0, false), fun _ => zFR, 1, (0, 0, fun _ => 0))
theorem s00_ok : FOK (xF s00) := ⟨fun _ => rfl, Nat.zero_le _, Nat.zero_le _⟩
theorem rg8_n : (fun _ => none) = rg8 (fun _ => none) := by funext k; unfold rg8; split <;> rfl
def ad12 (K : List Nat) : Nat → Nat := fun p => K.getD p 0
theorem ad12_ok {K : List Nat} (h : K.Nodup) {p q : Nat} (hp : p < K.length) (hq : q < K.length) (e : ad12 K p = ad12 K q) : p = q := by
  unfold ad12 at e
  rw [List.getD_eq_getElem?_getD, List.getD_eq_getElem?_getD, List.getElem?_eq_getElem hp, List.getElem?_eq_getElem hq, Option.getD_some, Option.getD_some] at e
  have h1 := List.pairwise_iff_getElem.mp h
  rcases Nat.lt_trichotomy p q with z | z | z
  · exact absurd e (h1 p q hp hq z)
  · exact z
  · exact absurd e.symm (h1 q p hq hp z)
set_option maxRecDepth 100000 in
set_option maxHeartbeats 4000000 in
theorem PW_made {ac : Nat → ClassId} {M Z : MP} {a q1 q2 q3 q4 q5 q6 q7 q8 q9 q10 q11 r : Nat} (hn : List.Nodup [a, q1, q2, q3, q4, q5, q6, q7, q8, q9, q10, q11, r]) (m_a : M a = none) (m_q1 : M q1 = none) (m_q2 : M q2 = none) (m_q3 : M q3 = none) (m_q4 : M q4 = none) (m_q5 : M q5 = none) (m_q6 : M q6 = none) (m_q7 : M q7 = none) (m_q8 : M q8 = none) (m_q9 : M q9 = none) (m_q10 : M q10 = none) (m_q11 : M q11 = none) (m_r : M r = none) (hZ : ∀ x e, Z x = some e → M x = some e) : PW ac (ad12 [a, q1, q2, q3, q4, q5, q6, q7, q8, q9, q10, q11]) s00 Z (mu (mu (pwX ac (mu M q6 (.inl (ac 4, 8, .inr (.inr (.inr (.inr (fun _ => none))))))) r q2 q7 q8 q3 q4 q5 q9 q10 q11) q1 (.inr (7, [.ref q2, .ref q3, .ref q4, .ref q5, .ref q9, .int 0, .int 0, .int 0]))) a (.inr (0, [.ref q6, .ref q1, .ref q2, .ref q3, .null, .int 0, .int 0, .int (-1), .int 0, .int 0, .int 0, .int 0]))) := by
  have hp := List.pairwise_iff_getElem.mp hn
  have x_0_1 : a ≠ q1 := hp 0 1 (Nat.le_of_ble_eq_true rfl) (Nat.le_of_ble_eq_true rfl) (Nat.le_of_ble_eq_true rfl)
  have x_0_2 : a ≠ q2 := hp 0 2 (Nat.le_of_ble_eq_true rfl) (Nat.le_of_ble_eq_true rfl) (Nat.le_of_ble_eq_true rfl)
  have x_0_3 : a ≠ q3 := hp 0 3 (Nat.le_of_ble_eq_true rfl) (Nat.le_of_ble_eq_true rfl) (Nat.le_of_ble_eq_true rfl)
  have x_0_4 : a ≠ q4 := hp 0 4 (Nat.le_of_ble_eq_true rfl) (Nat.le_of_ble_eq_true rfl) (Nat.le_of_ble_eq_true rfl)
  have x_0_5 : a ≠ q5 := hp 0 5 (Nat.le_of_ble_eq_true rfl) (Nat.le_of_ble_eq_true rfl) (Nat.le_of_ble_eq_true rfl)
  have x_0_6 : a ≠ q6 := hp 0 6 (Nat.le_of_ble_eq_true rfl) (Nat.le_of_ble_eq_true rfl) (Nat.le_of_ble_eq_true rfl)
  have x_0_7 : a ≠ q7 := hp 0 7 (Nat.le_of_ble_eq_true rfl) (Nat.le_of_ble_eq_true rfl) (Nat.le_of_ble_eq_true rfl)
  have x_0_8 : a ≠ q8 := hp 0 8 (Nat.le_of_ble_eq_true rfl) (Nat.le_of_ble_eq_true rfl) (Nat.le_of_ble_eq_true rfl)
  have x_0_9 : a ≠ q9 := hp 0 9 (Nat.le_of_ble_eq_true rfl) (Nat.le_of_ble_eq_true rfl) (Nat.le_of_ble_eq_true rfl)
  have x_0_10 : a ≠ q10 := hp 0 10 (Nat.le_of_ble_eq_true rfl) (Nat.le_of_ble_eq_true rfl) (Nat.le_of_ble_eq_true rfl)
  have x_0_11 : a ≠ q11 := hp 0 11 (Nat.le_of_ble_eq_true rfl) (Nat.le_of_ble_eq_true rfl) (Nat.le_of_ble_eq_true rfl)
  have x_0_12 : a ≠ r := hp 0 12 (Nat.le_of_ble_eq_true rfl) (Nat.le_of_ble_eq_true rfl) (Nat.le_of_ble_eq_true rfl)
  have x_1_2 : q1 ≠ q2 := hp 1 2 (Nat.le_of_ble_eq_true rfl) (Nat.le_of_ble_eq_true rfl) (Nat.le_of_ble_eq_true rfl)
  have x_1_3 : q1 ≠ q3 := hp 1 3 (Nat.le_of_ble_eq_true rfl) (Nat.le_of_ble_eq_true rfl) (Nat.le_of_ble_eq_true rfl)
  have x_1_4 : q1 ≠ q4 := hp 1 4 (Nat.le_of_ble_eq_true rfl) (Nat.le_of_ble_eq_true rfl) (Nat.le_of_ble_eq_true rfl)
  have x_1_5 : q1 ≠ q5 := hp 1 5 (Nat.le_of_ble_eq_true rfl) (Nat.le_of_ble_eq_true rfl) (Nat.le_of_ble_eq_true rfl)
  have x_1_6 : q1 ≠ q6 := hp 1 6 (Nat.le_of_ble_eq_true rfl) (Nat.le_of_ble_eq_true rfl) (Nat.le_of_ble_eq_true rfl)
  have x_1_7 : q1 ≠ q7 := hp 1 7 (Nat.le_of_ble_eq_true rfl) (Nat.le_of_ble_eq_true rfl) (Nat.le_of_ble_eq_true rfl)
  have x_1_8 : q1 ≠ q8 := hp 1 8 (Nat.le_of_ble_eq_true rfl) (Nat.le_of_ble_eq_true rfl) (Nat.le_of_ble_eq_true rfl)
  have x_1_9 : q1 ≠ q9 := hp 1 9 (Nat.le_of_ble_eq_true rfl) (Nat.le_of_ble_eq_true rfl) (Nat.le_of_ble_eq_true rfl)
  have x_1_10 : q1 ≠ q10 := hp 1 10 (Nat.le_of_ble_eq_true rfl) (Nat.le_of_ble_eq_true rfl) (Nat.le_of_ble_eq_true rfl)
  have x_1_11 : q1 ≠ q11 := hp 1 11 (Nat.le_of_ble_eq_true rfl) (Nat.le_of_ble_eq_true rfl) (Nat.le_of_ble_eq_true rfl)
  have x_1_12 : q1 ≠ r := hp 1 12 (Nat.le_of_ble_eq_true rfl) (Nat.le_of_ble_eq_true rfl) (Nat.le_of_ble_eq_true rfl)
  have x_2_3 : q2 ≠ q3 := hp 2 3 (Nat.le_of_ble_eq_true rfl) (Nat.le_of_ble_eq_true rfl) (Nat.le_of_ble_eq_true rfl)
  have x_2_4 : q2 ≠ q4 := hp 2 4 (Nat.le_of_ble_eq_true rfl) (Nat.le_of_ble_eq_true rfl) (Nat.le_of_ble_eq_true rfl)
  have x_2_5 : q2 ≠ q5 := hp 2 5 (Nat.le_of_ble_eq_true rfl) (Nat.le_of_ble_eq_true rfl) (Nat.le_of_ble_eq_true rfl)
  have x_2_6 : q2 ≠ q6 := hp 2 6 (Nat.le_of_ble_eq_true rfl) (Nat.le_of_ble_eq_true rfl) (Nat.le_of_ble_eq_true rfl)
  have x_2_7 : q2 ≠ q7 := hp 2 7 (Nat.le_of_ble_eq_true rfl) (Nat.le_of_ble_eq_true rfl) (Nat.le_of_ble_eq_true rfl)
  have x_2_8 : q2 ≠ q8 := hp 2 8 (Nat.le_of_ble_eq_true rfl) (Nat.le_of_ble_eq_true rfl) (Nat.le_of_ble_eq_true rfl)
  have x_2_9 : q2 ≠ q9 := hp 2 9 (Nat.le_of_ble_eq_true rfl) (Nat.le_of_ble_eq_true rfl) (Nat.le_of_ble_eq_true rfl)
  have x_2_10 : q2 ≠ q10 := hp 2 10 (Nat.le_of_ble_eq_true rfl) (Nat.le_of_ble_eq_true rfl) (Nat.le_of_ble_eq_true rfl)
  have x_2_11 : q2 ≠ q11 := hp 2 11 (Nat.le_of_ble_eq_true rfl) (Nat.le_of_ble_eq_true rfl) (Nat.le_of_ble_eq_true rfl)
  have x_2_12 : q2 ≠ r := hp 2 12 (Nat.le_of_ble_eq_true rfl) (Nat.le_of_ble_eq_true rfl) (Nat.le_of_ble_eq_true rfl)
  have x_3_4 : q3 ≠ q4 := hp 3 4 (Nat.le_of_ble_eq_true rfl) (Nat.le_of_ble_eq_true rfl) (Nat.le_of_ble_eq_true rfl)
  have x_3_5 : q3 ≠ q5 := hp 3 5 (Nat.le_of_ble_eq_true rfl) (Nat.le_of_ble_eq_true rfl) (Nat.le_of_ble_eq_true rfl)
  have x_3_6 : q3 ≠ q6 := hp 3 6 (Nat.le_of_ble_eq_true rfl) (Nat.le_of_ble_eq_true rfl) (Nat.le_of_ble_eq_true rfl)
  have x_3_7 : q3 ≠ q7 := hp 3 7 (Nat.le_of_ble_eq_true rfl) (Nat.le_of_ble_eq_true rfl) (Nat.le_of_ble_eq_true rfl)
  have x_3_8 : q3 ≠ q8 := hp 3 8 (Nat.le_of_ble_eq_true rfl) (Nat.le_of_ble_eq_true rfl) (Nat.le_of_ble_eq_true rfl)
  have x_3_9 : q3 ≠ q9 := hp 3 9 (Nat.le_of_ble_eq_true rfl) (Nat.le_of_ble_eq_true rfl) (Nat.le_of_ble_eq_true rfl)
  have x_3_10 : q3 ≠ q10 := hp 3 10 (Nat.le_of_ble_eq_true rfl) (Nat.le_of_ble_eq_true rfl) (Nat.le_of_ble_eq_true rfl)
  have x_3_11 : q3 ≠ q11 := hp 3 11 (Nat.le_of_ble_eq_true rfl) (Nat.le_of_ble_eq_true rfl) (Nat.le_of_ble_eq_true rfl)
  have x_3_12 : q3 ≠ r := hp 3 12 (Nat.le_of_ble_eq_true rfl) (Nat.le_of_ble_eq_true rfl) (Nat.le_of_ble_eq_true rfl)
  have x_4_5 : q4 ≠ q5 := hp 4 5 (Nat.le_of_ble_eq_true rfl) (Nat.le_of_ble_eq_true rfl) (Nat.le_of_ble_eq_true rfl)
  have x_4_6 : q4 ≠ q6 := hp 4 6 (Nat.le_of_ble_eq_true rfl) (Nat.le_of_ble_eq_true rfl) (Nat.le_of_ble_eq_true rfl)
  have x_4_7 : q4 ≠ q7 := hp 4 7 (Nat.le_of_ble_eq_true rfl) (Nat.le_of_ble_eq_true rfl) (Nat.le_of_ble_eq_true rfl)
  have x_4_8 : q4 ≠ q8 := hp 4 8 (Nat.le_of_ble_eq_true rfl) (Nat.le_of_ble_eq_true rfl) (Nat.le_of_ble_eq_true rfl)
  have x_4_9 : q4 ≠ q9 := hp 4 9 (Nat.le_of_ble_eq_true rfl) (Nat.le_of_ble_eq_true rfl) (Nat.le_of_ble_eq_true rfl)
  have x_4_10 : q4 ≠ q10 := hp 4 10 (Nat.le_of_ble_eq_true rfl) (Nat.le_of_ble_eq_true rfl) (Nat.le_of_ble_eq_true rfl)
  have x_4_11 : q4 ≠ q11 := hp 4 11 (Nat.le_of_ble_eq_true rfl) (Nat.le_of_ble_eq_true rfl) (Nat.le_of_ble_eq_true rfl)
  have x_4_12 : q4 ≠ r := hp 4 12 (Nat.le_of_ble_eq_true rfl) (Nat.le_of_ble_eq_true rfl) (Nat.le_of_ble_eq_true rfl)
  have x_5_6 : q5 ≠ q6 := hp 5 6 (Nat.le_of_ble_eq_true rfl) (Nat.le_of_ble_eq_true rfl) (Nat.le_of_ble_eq_true rfl)
  have x_5_7 : q5 ≠ q7 := hp 5 7 (Nat.le_of_ble_eq_true rfl) (Nat.le_of_ble_eq_true rfl) (Nat.le_of_ble_eq_true rfl)
  have x_5_8 : q5 ≠ q8 := hp 5 8 (Nat.le_of_ble_eq_true rfl) (Nat.le_of_ble_eq_true rfl) (Nat.le_of_ble_eq_true rfl)
  have x_5_9 : q5 ≠ q9 := hp 5 9 (Nat.le_of_ble_eq_true rfl) (Nat.le_of_ble_eq_true rfl) (Nat.le_of_ble_eq_true rfl)
  have x_5_10 : q5 ≠ q10 := hp 5 10 (Nat.le_of_ble_eq_true rfl) (Nat.le_of_ble_eq_true rfl) (Nat.le_of_ble_eq_true rfl)
  have x_5_11 : q5 ≠ q11 := hp 5 11 (Nat.le_of_ble_eq_true rfl) (Nat.le_of_ble_eq_true rfl) (Nat.le_of_ble_eq_true rfl)
  have x_5_12 : q5 ≠ r := hp 5 12 (Nat.le_of_ble_eq_true rfl) (Nat.le_of_ble_eq_true rfl) (Nat.le_of_ble_eq_true rfl)
  have x_6_7 : q6 ≠ q7 := hp 6 7 (Nat.le_of_ble_eq_true rfl) (Nat.le_of_ble_eq_true rfl) (Nat.le_of_ble_eq_true rfl)
  have x_6_8 : q6 ≠ q8 := hp 6 8 (Nat.le_of_ble_eq_true rfl) (Nat.le_of_ble_eq_true rfl) (Nat.le_of_ble_eq_true rfl)
  have x_6_9 : q6 ≠ q9 := hp 6 9 (Nat.le_of_ble_eq_true rfl) (Nat.le_of_ble_eq_true rfl) (Nat.le_of_ble_eq_true rfl)
  have x_6_10 : q6 ≠ q10 := hp 6 10 (Nat.le_of_ble_eq_true rfl) (Nat.le_of_ble_eq_true rfl) (Nat.le_of_ble_eq_true rfl)
  have x_6_11 : q6 ≠ q11 := hp 6 11 (Nat.le_of_ble_eq_true rfl) (Nat.le_of_ble_eq_true rfl) (Nat.le_of_ble_eq_true rfl)
  have x_6_12 : q6 ≠ r := hp 6 12 (Nat.le_of_ble_eq_true rfl) (Nat.le_of_ble_eq_true rfl) (Nat.le_of_ble_eq_true rfl)
  have x_7_8 : q7 ≠ q8 := hp 7 8 (Nat.le_of_ble_eq_true rfl) (Nat.le_of_ble_eq_true rfl) (Nat.le_of_ble_eq_true rfl)
  have x_7_9 : q7 ≠ q9 := hp 7 9 (Nat.le_of_ble_eq_true rfl) (Nat.le_of_ble_eq_true rfl) (Nat.le_of_ble_eq_true rfl)
  have x_7_10 : q7 ≠ q10 := hp 7 10 (Nat.le_of_ble_eq_true rfl) (Nat.le_of_ble_eq_true rfl) (Nat.le_of_ble_eq_true rfl)
  have x_7_11 : q7 ≠ q11 := hp 7 11 (Nat.le_of_ble_eq_true rfl) (Nat.le_of_ble_eq_true rfl) (Nat.le_of_ble_eq_true rfl)
  have x_7_12 : q7 ≠ r := hp 7 12 (Nat.le_of_ble_eq_true rfl) (Nat.le_of_ble_eq_true rfl) (Nat.le_of_ble_eq_true rfl)
  have x_8_9 : q8 ≠ q9 := hp 8 9 (Nat.le_of_ble_eq_true rfl) (Nat.le_of_ble_eq_true rfl) (Nat.le_of_ble_eq_true rfl)
  have x_8_10 : q8 ≠ q10 := hp 8 10 (Nat.le_of_ble_eq_true rfl) (Nat.le_of_ble_eq_true rfl) (Nat.le_of_ble_eq_true rfl)
  have x_8_11 : q8 ≠ q11 := hp 8 11 (Nat.le_of_ble_eq_true rfl) (Nat.le_of_ble_eq_true rfl) (Nat.le_of_ble_eq_true rfl)
  have x_8_12 : q8 ≠ r := hp 8 12 (Nat.le_of_ble_eq_true rfl) (Nat.le_of_ble_eq_true rfl) (Nat.le_of_ble_eq_true rfl)
  have x_9_10 : q9 ≠ q10 := hp 9 10 (Nat.le_of_ble_eq_true rfl) (Nat.le_of_ble_eq_true rfl) (Nat.le_of_ble_eq_true rfl)
  have x_9_11 : q9 ≠ q11 := hp 9 11 (Nat.le_of_ble_eq_true rfl) (Nat.le_of_ble_eq_true rfl) (Nat.le_of_ble_eq_true rfl)
  have x_9_12 : q9 ≠ r := hp 9 12 (Nat.le_of_ble_eq_true rfl) (Nat.le_of_ble_eq_true rfl) (Nat.le_of_ble_eq_true rfl)
  have x_10_11 : q10 ≠ q11 := hp 10 11 (Nat.le_of_ble_eq_true rfl) (Nat.le_of_ble_eq_true rfl) (Nat.le_of_ble_eq_true rfl)
  have x_10_12 : q10 ≠ r := hp 10 12 (Nat.le_of_ble_eq_true rfl) (Nat.le_of_ble_eq_true rfl) (Nat.le_of_ble_eq_true rfl)
  have x_11_12 : q11 ≠ r := hp 11 12 (Nat.le_of_ble_eq_true rfl) (Nat.le_of_ble_eq_true rfl) (Nat.le_of_ble_eq_true rfl)
  have hok : pOK (List.range 12) (ad12 [a, q1, q2, q3, q4, q5, q6, q7, q8, q9, q10, q11]) (mu M r (byR ac 256 (fun _ => 0))) := by
    refine ⟨fun p hp9 q hq9 e => ?_, fun p hp9 => ?_⟩
    · exact ad12_ok (K := [a, q1, q2, q3, q4, q5, q6, q7, q8, q9, q10, q11]) (List.Nodup.sublist (List.sublist_append_left [a, q1, q2, q3, q4, q5, q6, q7, q8, q9, q10, q11] [r]) hn) (List.mem_range.mp hp9) (List.mem_range.mp hq9) e
    · have hp8 := List.mem_range.mp hp9
      match p, hp8 with
      | 0, _ => exact (mu_ne _ _ x_0_12).trans m_a
      | 1, _ => exact (mu_ne _ _ x_1_12).trans m_q1
      | 2, _ => exact (mu_ne _ _ x_2_12).trans m_q2
      | 3, _ => exact (mu_ne _ _ x_3_12).trans m_q3
      | 4, _ => exact (mu_ne _ _ x_4_12).trans m_q4
      | 5, _ => exact (mu_ne _ _ x_5_12).trans m_q5
      | 6, _ => exact (mu_ne _ _ x_6_12).trans m_q6
      | 7, _ => exact (mu_ne _ _ x_7_12).trans m_q7
      | 8, _ => exact (mu_ne _ _ x_8_12).trans m_q8
      | 9, _ => exact (mu_ne _ _ x_9_12).trans m_q9
      | 10, _ => exact (mu_ne _ _ x_10_12).trans m_q10
      | 11, _ => exact (mu_ne _ _ x_11_12).trans m_q11
      | p + 12, h9 => exact absurd (show p + 12 < 12 from h9) (by omega)
  refine ⟨r, mu M r (byR ac 256 (fun _ => 0)), hok, mu_self _ _ _, fun x e hx => ?_, s00_ok, ?_⟩
  · have hxr : x ≠ r := fun z => by rw [z] at hx; have := hZ r e hx; rw [m_r] at this; cases this
    exact ⟨hxr, (mu_ne _ _ hxr).trans (hZ x e hx)⟩
  · funext x
    by_cases z0 : x = a
    · rw [z0]; exact (mu_self _ _ _).trans (pM_p (C := pC ac (ad12 [a, q1, q2, q3, q4, q5, q6, q7, q8, q9, q10, q11]) r s00) hok (p := 0) (List.mem_range.mpr (by decide))).symm
    by_cases z1 : x = q1
    · rw [z1]; exact ((mu_ne _ _ (x_0_1).symm).trans (mu_self _ _ _)).trans (pM_p (C := pC ac (ad12 [a, q1, q2, q3, q4, q5, q6, q7, q8, q9, q10, q11]) r s00) hok (p := 1) (List.mem_range.mpr (by decide))).symm
    by_cases z2 : x = q2
    · rw [z2]; exact ((mu_ne _ _ (x_0_2).symm).trans ((mu_ne _ _ (x_1_2).symm).trans ((mu_ne _ _ x_2_11).trans ((mu_ne _ _ x_2_10).trans ((mu_ne _ _ x_2_9).trans ((mu_ne _ _ x_2_5).trans ((mu_ne _ _ x_2_4).trans ((mu_ne _ _ x_2_3).trans ((mu_ne _ _ x_2_8).trans ((mu_ne _ _ x_2_7).trans (mu_self _ _ _))))))))))).trans (pM_p (C := pC ac (ad12 [a, q1, q2, q3, q4, q5, q6, q7, q8, q9, q10, q11]) r s00) hok (p := 2) (List.mem_range.mpr (by decide))).symm
    by_cases z3 : x = q3
    · rw [z3]; exact ((mu_ne _ _ (x_0_3).symm).trans ((mu_ne _ _ (x_1_3).symm).trans ((mu_ne _ _ x_3_11).trans ((mu_ne _ _ x_3_10).trans ((mu_ne _ _ x_3_9).trans ((mu_ne _ _ x_3_5).trans ((mu_ne _ _ x_3_4).trans (mu_self _ _ _)))))))).trans (pM_p (C := pC ac (ad12 [a, q1, q2, q3, q4, q5, q6, q7, q8, q9, q10, q11]) r s00) hok (p := 3) (List.mem_range.mpr (by decide))).symm
    by_cases z4 : x = q4
    · rw [z4]; exact ((mu_ne _ _ (x_0_4).symm).trans ((mu_ne _ _ (x_1_4).symm).trans ((mu_ne _ _ x_4_11).trans ((mu_ne _ _ x_4_10).trans ((mu_ne _ _ x_4_9).trans ((mu_ne _ _ x_4_5).trans (mu_self _ _ _))))))).trans (pM_p (C := pC ac (ad12 [a, q1, q2, q3, q4, q5, q6, q7, q8, q9, q10, q11]) r s00) hok (p := 4) (List.mem_range.mpr (by decide))).symm
    by_cases z5 : x = q5
    · rw [z5]; exact ((mu_ne _ _ (x_0_5).symm).trans ((mu_ne _ _ (x_1_5).symm).trans ((mu_ne _ _ x_5_11).trans ((mu_ne _ _ x_5_10).trans ((mu_ne _ _ x_5_9).trans (mu_self _ _ _)))))).trans (pM_p (C := pC ac (ad12 [a, q1, q2, q3, q4, q5, q6, q7, q8, q9, q10, q11]) r s00) hok (p := 5) (List.mem_range.mpr (by decide))).symm
    by_cases z6 : x = q6
    · rw [z6]; exact ((mu_ne _ _ (x_0_6).symm).trans ((mu_ne _ _ (x_1_6).symm).trans ((mu_ne _ _ x_6_11).trans ((mu_ne _ _ x_6_10).trans ((mu_ne _ _ x_6_9).trans ((mu_ne _ _ (x_5_6).symm).trans ((mu_ne _ _ (x_4_6).symm).trans ((mu_ne _ _ (x_3_6).symm).trans ((mu_ne _ _ x_6_8).trans ((mu_ne _ _ x_6_7).trans ((mu_ne _ _ (x_2_6).symm).trans ((mu_ne _ _ x_6_12).trans (mu_self _ _ _))))))))))))).trans ((congrArg (fun f => some (Sum.inl (ac 4, 8, Sum.inr (Sum.inr (Sum.inr (Sum.inr f)))) : va_E)) rg8_n).trans (pM_p (C := pC ac (ad12 [a, q1, q2, q3, q4, q5, q6, q7, q8, q9, q10, q11]) r s00) hok (p := 6) (List.mem_range.mpr (by decide))).symm)
    by_cases z7 : x = q7
    · rw [z7]; exact ((mu_ne _ _ (x_0_7).symm).trans ((mu_ne _ _ (x_1_7).symm).trans ((mu_ne _ _ x_7_11).trans ((mu_ne _ _ x_7_10).trans ((mu_ne _ _ x_7_9).trans ((mu_ne _ _ (x_5_7).symm).trans ((mu_ne _ _ (x_4_7).symm).trans ((mu_ne _ _ (x_3_7).symm).trans ((mu_ne _ _ x_7_8).trans (mu_self _ _ _)))))))))).trans (pM_p (C := pC ac (ad12 [a, q1, q2, q3, q4, q5, q6, q7, q8, q9, q10, q11]) r s00) hok (p := 7) (List.mem_range.mpr (by decide))).symm
    by_cases z8 : x = q8
    · rw [z8]; exact ((mu_ne _ _ (x_0_8).symm).trans ((mu_ne _ _ (x_1_8).symm).trans ((mu_ne _ _ x_8_11).trans ((mu_ne _ _ x_8_10).trans ((mu_ne _ _ x_8_9).trans ((mu_ne _ _ (x_5_8).symm).trans ((mu_ne _ _ (x_4_8).symm).trans ((mu_ne _ _ (x_3_8).symm).trans (mu_self _ _ _))))))))).trans (pM_p (C := pC ac (ad12 [a, q1, q2, q3, q4, q5, q6, q7, q8, q9, q10, q11]) r s00) hok (p := 8) (List.mem_range.mpr (by decide))).symm
    by_cases z9 : x = q9
    · rw [z9]; exact ((mu_ne _ _ (x_0_9).symm).trans ((mu_ne _ _ (x_1_9).symm).trans ((mu_ne _ _ x_9_11).trans ((mu_ne _ _ x_9_10).trans (mu_self _ _ _))))).trans (pM_p (C := pC ac (ad12 [a, q1, q2, q3, q4, q5, q6, q7, q8, q9, q10, q11]) r s00) hok (p := 9) (List.mem_range.mpr (by decide))).symm
    by_cases z10 : x = q10
    · rw [z10]; exact ((mu_ne _ _ (x_0_10).symm).trans ((mu_ne _ _ (x_1_10).symm).trans ((mu_ne _ _ x_10_11).trans (mu_self _ _ _)))).trans (pM_p (C := pC ac (ad12 [a, q1, q2, q3, q4, q5, q6, q7, q8, q9, q10, q11]) r s00) hok (p := 10) (List.mem_range.mpr (by decide))).symm
    by_cases z11 : x = q11
    · rw [z11]; exact ((mu_ne _ _ (x_0_11).symm).trans ((mu_ne _ _ (x_1_11).symm).trans (mu_self _ _ _))).trans (pM_p (C := pC ac (ad12 [a, q1, q2, q3, q4, q5, q6, q7, q8, q9, q10, q11]) r s00) hok (p := 11) (List.mem_range.mpr (by decide))).symm
    by_cases zr : x = r
    · rw [zr]; exact ((mu_ne _ _ (x_0_12).symm).trans ((mu_ne _ _ (x_1_12).symm).trans ((mu_ne _ _ (x_11_12).symm).trans ((mu_ne _ _ (x_10_12).symm).trans ((mu_ne _ _ (x_9_12).symm).trans ((mu_ne _ _ (x_5_12).symm).trans ((mu_ne _ _ (x_4_12).symm).trans ((mu_ne _ _ (x_3_12).symm).trans ((mu_ne _ _ (x_8_12).symm).trans ((mu_ne _ _ (x_7_12).symm).trans ((mu_ne _ _ (x_2_12).symm).trans (mu_self _ _ _)))))))))))).trans (pM_n (C := pC ac (ad12 [a, q1, q2, q3, q4, q5, q6, q7, q8, q9, q10, q11]) r s00) hok (mu_self _ _ _)).symm
    refine Eq.trans ((mu_ne _ _ z0).trans ((mu_ne _ _ z1).trans ((mu_ne _ _ z11).trans ((mu_ne _ _ z10).trans ((mu_ne _ _ z9).trans ((mu_ne _ _ z5).trans ((mu_ne _ _ z4).trans ((mu_ne _ _ z3).trans ((mu_ne _ _ z8).trans ((mu_ne _ _ z7).trans ((mu_ne _ _ z2).trans ((mu_ne _ _ zr).trans ((mu_ne _ _ z6).trans (rfl)))))))))))))) (Eq.trans ?_ (pM_out (fun p hp9 => ?_)).symm)
    · exact (mu_ne _ _ zr).symm
    · have hp8 := List.mem_range.mp hp9
      match p, hp8 with
      | 0, _ => exact fun z => z0 z.symm
      | 1, _ => exact fun z => z1 z.symm
      | 2, _ => exact fun z => z2 z.symm
      | 3, _ => exact fun z => z3 z.symm
      | 4, _ => exact fun z => z4 z.symm
      | 5, _ => exact fun z => z5 z.symm
      | 6, _ => exact fun z => z6 z.symm
      | 7, _ => exact fun z => z7 z.symm
      | 8, _ => exact fun z => z8 z.symm
      | 9, _ => exact fun z => z9 z.symm
      | 10, _ => exact fun z => z10 z.symm
      | 11, _ => exact fun z => z11 z.symm
      | p + 12, h9 => exact absurd (show p + 12 < 12 from h9) (by omega)
theorem mu_off {M M' : MP} {a : Nat} {e : va_E} (h : ∀ x, x ≠ a → M x = M' x) : mu M a e = mu M' a e := by
  funext x
  by_cases z : x = a
  · rw [z, mu_self, mu_self]
  · rw [mu_ne _ _ z, mu_ne _ _ z, h x z]
theorem mu_cong {M M' : MP} {a b : Nat} {e : va_E} (h : ∀ x, x ≠ a → M x = M' x) {x : Nat} (hx : x ≠ a) : mu M b e x = mu M' b e x := by
  by_cases z : x = b
  · rw [z, mu_self, mu_self]
  · rw [mu_ne _ _ z, mu_ne _ _ z, h x hx]
theorem pwX_off {ac : Nat → ClassId} {M : MP} {a r q2 q7 q8 q3 q4 q5 q9 q10 q11 x : Nat} (hx : x ≠ a) (e : va_E) : pwX ac (mu M a e) r q2 q7 q8 q3 q4 q5 q9 q10 q11 x = pwX ac M r q2 q7 q8 q3 q4 q5 q9 q10 q11 x := by
  unfold pwX
  refine mu_cong (a := a) (fun x hx => mu_cong (a := a) (fun x hx => mu_cong (a := a) (fun x hx => mu_cong (a := a) (fun x hx => mu_cong (a := a) (fun x hx => mu_cong (a := a) (fun x hx => mu_cong (a := a) (fun x hx => mu_cong (a := a) (fun x hx => mu_cong (a := a) (fun x hx => mu_cong (a := a) (fun x hx => mu_ne _ _ hx) hx) hx) hx) hx) hx) hx) hx) hx) hx) hx
set_option maxRecDepth 100000 in
set_option maxHeartbeats 4000000 in
theorem PF_init {l : Launch} {D : va_G} {ac : Nat → ClassId} {M : MP} {a : Nat} {Z : MP} (ha : M a = none) (hZ : ∀ x e, Z x = some e → M x = some e) : Ct l D (tyl ac) t_PF_init 12 374 [.ref a] (mu M a (.inr (0, [.null, .null, .null, .null, .null, .int 0, .int 0, .int 0, .int 0, .int 0, .int 0, .int 0]))) (fun x M' => x = none ∧ ∃ adr : Nat → Nat, adr 0 = a ∧ PW ac adr s00 Z M') := by
  refine Ct_of (by decide) (Nat.le_of_ble_eq_true rfl) ?_
  refine V_aload_n d_PF_init_0 rfl (isr_ref _) ?_
  refine V_objInit d_PF_init_1 oi_PF oi1 oi2 (by decide) (Nat.le_of_ble_eq_true rfl) ?_
  refine V_aload_n d_PF_init_4 rfl (isr_ref _) ?_
  refine V_bipush (v := 8) d_PF_init_5 (by decide) ?_
  refine V_newq (N := 8) (k' := 11) (n' := 366) d_PF_init_7 a_PF_9 aw_Box (by decide) (by decide) (by decide) rfl rfl (fun q6 h6 => ?_)
  obtain ⟨n_q6_a, h6⟩ := mu_nn h6
  refine V_putF d_PF_init_10 f_PF_11 rfl ((mu_ne _ _ (n_q6_a).symm).trans (mu_self _ _ _)) (rfl) (rfl) (Nat.le_of_ble_eq_true rfl) ?_
  rw [mu_o1 _ n_q6_a]
  refine V_aload_n d_PF_init_13 rfl (isr_ref _) ?_
  refine V_new (k' := 10) (n' := 358) d_PF_init_14 n_PF_15 rfl rfl (fun q1 h1 => ?_)
  obtain ⟨n_q1_a, h1⟩ := mu_nn h1
  obtain ⟨n_q1_q6, h1⟩ := mu_nn h1
  refine V_dup d_PF_init_17 rfl ?_
  refine V_callIN (As := []) (rest := [.ref q1, .ref a]) (b := q1) (k' := 0) (n' := 0) d_PF_init_18 c_PF_17 ⟨by decide, by decide⟩ rfl rfl (Nat.le_of_ble_eq_true rfl) rfl rfl PgW_init (fun x M1 hq9 => ?_)
  obtain ⟨rfl, r, q2, q7, q8, q3, q4, q5, q9, q10, q11, hn, ⟨hr, h2, h7, h8, h3, h4, h5, h9, h10, h11⟩, rfl⟩ := hq9
  obtain ⟨n_r_a, hr⟩ := mu_nn hr
  obtain ⟨n_r_q6, hr⟩ := mu_nn hr
  obtain ⟨n_q2_a, h2⟩ := mu_nn h2
  obtain ⟨n_q2_q6, h2⟩ := mu_nn h2
  obtain ⟨n_q7_a, h7⟩ := mu_nn h7
  obtain ⟨n_q7_q6, h7⟩ := mu_nn h7
  obtain ⟨n_q8_a, h8⟩ := mu_nn h8
  obtain ⟨n_q8_q6, h8⟩ := mu_nn h8
  obtain ⟨n_q3_a, h3⟩ := mu_nn h3
  obtain ⟨n_q3_q6, h3⟩ := mu_nn h3
  obtain ⟨n_q4_a, h4⟩ := mu_nn h4
  obtain ⟨n_q4_q6, h4⟩ := mu_nn h4
  obtain ⟨n_q5_a, h5⟩ := mu_nn h5
  obtain ⟨n_q5_q6, h5⟩ := mu_nn h5
  obtain ⟨n_q9_a, h9⟩ := mu_nn h9
  obtain ⟨n_q9_q6, h9⟩ := mu_nn h9
  obtain ⟨n_q10_a, h10⟩ := mu_nn h10
  obtain ⟨n_q10_q6, h10⟩ := mu_nn h10
  obtain ⟨n_q11_a, h11⟩ := mu_nn h11
  obtain ⟨n_q11_q6, h11⟩ := mu_nn h11
  have hp := List.pairwise_iff_getElem.mp hn
  have x_0_1 : q1 ≠ r := hp 0 1 (Nat.le_of_ble_eq_true rfl) (Nat.le_of_ble_eq_true rfl) (Nat.le_of_ble_eq_true rfl)
  have x_0_2 : q1 ≠ q2 := hp 0 2 (Nat.le_of_ble_eq_true rfl) (Nat.le_of_ble_eq_true rfl) (Nat.le_of_ble_eq_true rfl)
  have x_0_3 : q1 ≠ q7 := hp 0 3 (Nat.le_of_ble_eq_true rfl) (Nat.le_of_ble_eq_true rfl) (Nat.le_of_ble_eq_true rfl)
  have x_0_4 : q1 ≠ q8 := hp 0 4 (Nat.le_of_ble_eq_true rfl) (Nat.le_of_ble_eq_true rfl) (Nat.le_of_ble_eq_true rfl)
  have x_0_5 : q1 ≠ q3 := hp 0 5 (Nat.le_of_ble_eq_true rfl) (Nat.le_of_ble_eq_true rfl) (Nat.le_of_ble_eq_true rfl)
  have x_0_6 : q1 ≠ q4 := hp 0 6 (Nat.le_of_ble_eq_true rfl) (Nat.le_of_ble_eq_true rfl) (Nat.le_of_ble_eq_true rfl)
  have x_0_7 : q1 ≠ q5 := hp 0 7 (Nat.le_of_ble_eq_true rfl) (Nat.le_of_ble_eq_true rfl) (Nat.le_of_ble_eq_true rfl)
  have x_0_8 : q1 ≠ q9 := hp 0 8 (Nat.le_of_ble_eq_true rfl) (Nat.le_of_ble_eq_true rfl) (Nat.le_of_ble_eq_true rfl)
  have x_0_9 : q1 ≠ q10 := hp 0 9 (Nat.le_of_ble_eq_true rfl) (Nat.le_of_ble_eq_true rfl) (Nat.le_of_ble_eq_true rfl)
  have x_0_10 : q1 ≠ q11 := hp 0 10 (Nat.le_of_ble_eq_true rfl) (Nat.le_of_ble_eq_true rfl) (Nat.le_of_ble_eq_true rfl)
  have x_1_2 : r ≠ q2 := hp 1 2 (Nat.le_of_ble_eq_true rfl) (Nat.le_of_ble_eq_true rfl) (Nat.le_of_ble_eq_true rfl)
  have x_1_3 : r ≠ q7 := hp 1 3 (Nat.le_of_ble_eq_true rfl) (Nat.le_of_ble_eq_true rfl) (Nat.le_of_ble_eq_true rfl)
  have x_1_4 : r ≠ q8 := hp 1 4 (Nat.le_of_ble_eq_true rfl) (Nat.le_of_ble_eq_true rfl) (Nat.le_of_ble_eq_true rfl)
  have x_1_5 : r ≠ q3 := hp 1 5 (Nat.le_of_ble_eq_true rfl) (Nat.le_of_ble_eq_true rfl) (Nat.le_of_ble_eq_true rfl)
  have x_1_6 : r ≠ q4 := hp 1 6 (Nat.le_of_ble_eq_true rfl) (Nat.le_of_ble_eq_true rfl) (Nat.le_of_ble_eq_true rfl)
  have x_1_7 : r ≠ q5 := hp 1 7 (Nat.le_of_ble_eq_true rfl) (Nat.le_of_ble_eq_true rfl) (Nat.le_of_ble_eq_true rfl)
  have x_1_8 : r ≠ q9 := hp 1 8 (Nat.le_of_ble_eq_true rfl) (Nat.le_of_ble_eq_true rfl) (Nat.le_of_ble_eq_true rfl)
  have x_1_9 : r ≠ q10 := hp 1 9 (Nat.le_of_ble_eq_true rfl) (Nat.le_of_ble_eq_true rfl) (Nat.le_of_ble_eq_true rfl)
  have x_1_10 : r ≠ q11 := hp 1 10 (Nat.le_of_ble_eq_true rfl) (Nat.le_of_ble_eq_true rfl) (Nat.le_of_ble_eq_true rfl)
  have x_2_3 : q2 ≠ q7 := hp 2 3 (Nat.le_of_ble_eq_true rfl) (Nat.le_of_ble_eq_true rfl) (Nat.le_of_ble_eq_true rfl)
  have x_2_4 : q2 ≠ q8 := hp 2 4 (Nat.le_of_ble_eq_true rfl) (Nat.le_of_ble_eq_true rfl) (Nat.le_of_ble_eq_true rfl)
  have x_2_5 : q2 ≠ q3 := hp 2 5 (Nat.le_of_ble_eq_true rfl) (Nat.le_of_ble_eq_true rfl) (Nat.le_of_ble_eq_true rfl)
  have x_2_6 : q2 ≠ q4 := hp 2 6 (Nat.le_of_ble_eq_true rfl) (Nat.le_of_ble_eq_true rfl) (Nat.le_of_ble_eq_true rfl)
  have x_2_7 : q2 ≠ q5 := hp 2 7 (Nat.le_of_ble_eq_true rfl) (Nat.le_of_ble_eq_true rfl) (Nat.le_of_ble_eq_true rfl)
  have x_2_8 : q2 ≠ q9 := hp 2 8 (Nat.le_of_ble_eq_true rfl) (Nat.le_of_ble_eq_true rfl) (Nat.le_of_ble_eq_true rfl)
  have x_2_9 : q2 ≠ q10 := hp 2 9 (Nat.le_of_ble_eq_true rfl) (Nat.le_of_ble_eq_true rfl) (Nat.le_of_ble_eq_true rfl)
  have x_2_10 : q2 ≠ q11 := hp 2 10 (Nat.le_of_ble_eq_true rfl) (Nat.le_of_ble_eq_true rfl) (Nat.le_of_ble_eq_true rfl)
  have x_3_4 : q7 ≠ q8 := hp 3 4 (Nat.le_of_ble_eq_true rfl) (Nat.le_of_ble_eq_true rfl) (Nat.le_of_ble_eq_true rfl)
  have x_3_5 : q7 ≠ q3 := hp 3 5 (Nat.le_of_ble_eq_true rfl) (Nat.le_of_ble_eq_true rfl) (Nat.le_of_ble_eq_true rfl)
  have x_3_6 : q7 ≠ q4 := hp 3 6 (Nat.le_of_ble_eq_true rfl) (Nat.le_of_ble_eq_true rfl) (Nat.le_of_ble_eq_true rfl)
  have x_3_7 : q7 ≠ q5 := hp 3 7 (Nat.le_of_ble_eq_true rfl) (Nat.le_of_ble_eq_true rfl) (Nat.le_of_ble_eq_true rfl)
  have x_3_8 : q7 ≠ q9 := hp 3 8 (Nat.le_of_ble_eq_true rfl) (Nat.le_of_ble_eq_true rfl) (Nat.le_of_ble_eq_true rfl)
  have x_3_9 : q7 ≠ q10 := hp 3 9 (Nat.le_of_ble_eq_true rfl) (Nat.le_of_ble_eq_true rfl) (Nat.le_of_ble_eq_true rfl)
  have x_3_10 : q7 ≠ q11 := hp 3 10 (Nat.le_of_ble_eq_true rfl) (Nat.le_of_ble_eq_true rfl) (Nat.le_of_ble_eq_true rfl)
  have x_4_5 : q8 ≠ q3 := hp 4 5 (Nat.le_of_ble_eq_true rfl) (Nat.le_of_ble_eq_true rfl) (Nat.le_of_ble_eq_true rfl)
  have x_4_6 : q8 ≠ q4 := hp 4 6 (Nat.le_of_ble_eq_true rfl) (Nat.le_of_ble_eq_true rfl) (Nat.le_of_ble_eq_true rfl)
  have x_4_7 : q8 ≠ q5 := hp 4 7 (Nat.le_of_ble_eq_true rfl) (Nat.le_of_ble_eq_true rfl) (Nat.le_of_ble_eq_true rfl)
  have x_4_8 : q8 ≠ q9 := hp 4 8 (Nat.le_of_ble_eq_true rfl) (Nat.le_of_ble_eq_true rfl) (Nat.le_of_ble_eq_true rfl)
  have x_4_9 : q8 ≠ q10 := hp 4 9 (Nat.le_of_ble_eq_true rfl) (Nat.le_of_ble_eq_true rfl) (Nat.le_of_ble_eq_true rfl)
  have x_4_10 : q8 ≠ q11 := hp 4 10 (Nat.le_of_ble_eq_true rfl) (Nat.le_of_ble_eq_true rfl) (Nat.le_of_ble_eq_true rfl)
  have x_5_6 : q3 ≠ q4 := hp 5 6 (Nat.le_of_ble_eq_true rfl) (Nat.le_of_ble_eq_true rfl) (Nat.le_of_ble_eq_true rfl)
  have x_5_7 : q3 ≠ q5 := hp 5 7 (Nat.le_of_ble_eq_true rfl) (Nat.le_of_ble_eq_true rfl) (Nat.le_of_ble_eq_true rfl)
  have x_5_8 : q3 ≠ q9 := hp 5 8 (Nat.le_of_ble_eq_true rfl) (Nat.le_of_ble_eq_true rfl) (Nat.le_of_ble_eq_true rfl)
  have x_5_9 : q3 ≠ q10 := hp 5 9 (Nat.le_of_ble_eq_true rfl) (Nat.le_of_ble_eq_true rfl) (Nat.le_of_ble_eq_true rfl)
  have x_5_10 : q3 ≠ q11 := hp 5 10 (Nat.le_of_ble_eq_true rfl) (Nat.le_of_ble_eq_true rfl) (Nat.le_of_ble_eq_true rfl)
  have x_6_7 : q4 ≠ q5 := hp 6 7 (Nat.le_of_ble_eq_true rfl) (Nat.le_of_ble_eq_true rfl) (Nat.le_of_ble_eq_true rfl)
  have x_6_8 : q4 ≠ q9 := hp 6 8 (Nat.le_of_ble_eq_true rfl) (Nat.le_of_ble_eq_true rfl) (Nat.le_of_ble_eq_true rfl)
  have x_6_9 : q4 ≠ q10 := hp 6 9 (Nat.le_of_ble_eq_true rfl) (Nat.le_of_ble_eq_true rfl) (Nat.le_of_ble_eq_true rfl)
  have x_6_10 : q4 ≠ q11 := hp 6 10 (Nat.le_of_ble_eq_true rfl) (Nat.le_of_ble_eq_true rfl) (Nat.le_of_ble_eq_true rfl)
  have x_7_8 : q5 ≠ q9 := hp 7 8 (Nat.le_of_ble_eq_true rfl) (Nat.le_of_ble_eq_true rfl) (Nat.le_of_ble_eq_true rfl)
  have x_7_9 : q5 ≠ q10 := hp 7 9 (Nat.le_of_ble_eq_true rfl) (Nat.le_of_ble_eq_true rfl) (Nat.le_of_ble_eq_true rfl)
  have x_7_10 : q5 ≠ q11 := hp 7 10 (Nat.le_of_ble_eq_true rfl) (Nat.le_of_ble_eq_true rfl) (Nat.le_of_ble_eq_true rfl)
  have x_8_9 : q9 ≠ q10 := hp 8 9 (Nat.le_of_ble_eq_true rfl) (Nat.le_of_ble_eq_true rfl) (Nat.le_of_ble_eq_true rfl)
  have x_8_10 : q9 ≠ q11 := hp 8 10 (Nat.le_of_ble_eq_true rfl) (Nat.le_of_ble_eq_true rfl) (Nat.le_of_ble_eq_true rfl)
  have x_9_10 : q10 ≠ q11 := hp 9 10 (Nat.le_of_ble_eq_true rfl) (Nat.le_of_ble_eq_true rfl) (Nat.le_of_ble_eq_true rfl)
  refine V_putF d_PF_init_21 f_PF_18 rfl ((mu_ne _ _ (n_q1_a).symm).trans ((mu_ne _ _ (n_q11_a).symm).trans ((mu_ne _ _ (n_q10_a).symm).trans ((mu_ne _ _ (n_q9_a).symm).trans ((mu_ne _ _ (n_q5_a).symm).trans ((mu_ne _ _ (n_q4_a).symm).trans ((mu_ne _ _ (n_q3_a).symm).trans ((mu_ne _ _ (n_q8_a).symm).trans ((mu_ne _ _ (n_q7_a).symm).trans ((mu_ne _ _ (n_q2_a).symm).trans ((mu_ne _ _ (n_r_a).symm).trans (mu_self _ _ _)))))))))))) (rfl) (rfl) (Nat.le_of_ble_eq_true rfl) ?_
  rw [show ∀ e0 e1 e2 : va_E, mu (mu (pwX ac (mu (mu M q6 (.inl (ac 4, 8, .inr (.inr (.inr (.inr (fun _ => none))))))) a e0) r q2 q7 q8 q3 q4 q5 q9 q10 q11) q1 e1) a e2 = mu (mu (pwX ac (mu M q6 (.inl (ac 4, 8, .inr (.inr (.inr (.inr (fun _ => none))))))) r q2 q7 q8 q3 q4 q5 q9 q10 q11) q1 e1) a e2 from fun e0 e1 e2 => mu_off (fun x hx => mu_cong (fun x hx => pwX_off hx e0) hx)]
  refine V_aload_n d_PF_init_24 rfl (isr_ref _) ?_
  refine V_aload_n d_PF_init_25 rfl (isr_ref _) ?_
  refine V_getf d_PF_init_26 f_PF_18 (mu_self _ _ _) rfl ?_
  refine V_getfN d_PF_init_29 f_PF_22 ((mu_ne _ _ n_q1_a).trans (mu_self _ _ _)) rfl ?_
  refine V_putF d_PF_init_32 f_PF_26 rfl (mu_self _ _ _) (rfl) (rfl) (Nat.le_of_ble_eq_true rfl) ?_
  rw [mu_mu]
  refine V_aload_n d_PF_init_35 rfl (isr_ref _) ?_
  refine V_aload_n d_PF_init_36 rfl (isr_ref _) ?_
  refine V_getf d_PF_init_37 f_PF_18 (mu_self _ _ _) rfl ?_
  refine V_getfN d_PF_init_40 f_PF_27 ((mu_ne _ _ n_q1_a).trans (mu_self _ _ _)) rfl ?_
  refine V_putF d_PF_init_43 f_PF_31 rfl (mu_self _ _ _) (rfl) (rfl) (Nat.le_of_ble_eq_true rfl) ?_
  rw [mu_mu]
  refine V_aload_n d_PF_init_46 rfl (isr_ref _) ?_
  refine V_iconst (v := (-1)) d_PF_init_47 (by decide) ?_
  refine V_putf d_PF_init_48 f_PF_32 (mu_self _ _ _) (rfl) (rfl) (Nat.le_of_ble_eq_true rfl) ?_
  rw [mu_mu]
  exact V_return d_PF_init_51 rfl ⟨rfl, ad12 [a, q1, q2, q3, q4, q5, q6, q7, q8, q9, q10, q11], rfl, PW_made (List.nodup_cons.mpr ⟨fun z => by simp only [List.mem_cons, List.not_mem_nil, or_false] at z; exact (fun z => z.elim ((n_q1_a).symm) (fun z => z.elim ((n_q2_a).symm) (fun z => z.elim ((n_q3_a).symm) (fun z => z.elim ((n_q4_a).symm) (fun z => z.elim ((n_q5_a).symm) (fun z => z.elim ((n_q6_a).symm) (fun z => z.elim ((n_q7_a).symm) (fun z => z.elim ((n_q8_a).symm) (fun z => z.elim ((n_q9_a).symm) (fun z => z.elim ((n_q10_a).symm) (fun z => z.elim ((n_q11_a).symm) ((n_r_a).symm)))))))))))) z, List.nodup_cons.mpr ⟨fun z => by simp only [List.mem_cons, List.not_mem_nil, or_false] at z; exact (fun z => z.elim (x_0_2) (fun z => z.elim (x_0_5) (fun z => z.elim (x_0_6) (fun z => z.elim (x_0_7) (fun z => z.elim (n_q1_q6) (fun z => z.elim (x_0_3) (fun z => z.elim (x_0_4) (fun z => z.elim (x_0_8) (fun z => z.elim (x_0_9) (fun z => z.elim (x_0_10) (x_0_1))))))))))) z, List.nodup_cons.mpr ⟨fun z => by simp only [List.mem_cons, List.not_mem_nil, or_false] at z; exact (fun z => z.elim (x_2_5) (fun z => z.elim (x_2_6) (fun z => z.elim (x_2_7) (fun z => z.elim (n_q2_q6) (fun z => z.elim (x_2_3) (fun z => z.elim (x_2_4) (fun z => z.elim (x_2_8) (fun z => z.elim (x_2_9) (fun z => z.elim (x_2_10) ((x_1_2).symm)))))))))) z, List.nodup_cons.mpr ⟨fun z => by simp only [List.mem_cons, List.not_mem_nil, or_false] at z; exact (fun z => z.elim (x_5_6) (fun z => z.elim (x_5_7) (fun z => z.elim (n_q3_q6) (fun z => z.elim ((x_3_5).symm) (fun z => z.elim ((x_4_5).symm) (fun z => z.elim (x_5_8) (fun z => z.elim (x_5_9) (fun z => z.elim (x_5_10) ((x_1_5).symm))))))))) z, List.nodup_cons.mpr ⟨fun z => by simp only [List.mem_cons, List.not_mem_nil, or_false] at z; exact (fun z => z.elim (x_6_7) (fun z => z.elim (n_q4_q6) (fun z => z.elim ((x_3_6).symm) (fun z => z.elim ((x_4_6).symm) (fun z => z.elim (x_6_8) (fun z => z.elim (x_6_9) (fun z => z.elim (x_6_10) ((x_1_6).symm)))))))) z, List.nodup_cons.mpr ⟨fun z => by simp only [List.mem_cons, List.not_mem_nil, or_false] at z; exact (fun z => z.elim (n_q5_q6) (fun z => z.elim ((x_3_7).symm) (fun z => z.elim ((x_4_7).symm) (fun z => z.elim (x_7_8) (fun z => z.elim (x_7_9) (fun z => z.elim (x_7_10) ((x_1_7).symm))))))) z, List.nodup_cons.mpr ⟨fun z => by simp only [List.mem_cons, List.not_mem_nil, or_false] at z; exact (fun z => z.elim ((n_q7_q6).symm) (fun z => z.elim ((n_q8_q6).symm) (fun z => z.elim ((n_q9_q6).symm) (fun z => z.elim ((n_q10_q6).symm) (fun z => z.elim ((n_q11_q6).symm) ((n_r_q6).symm)))))) z, List.nodup_cons.mpr ⟨fun z => by simp only [List.mem_cons, List.not_mem_nil, or_false] at z; exact (fun z => z.elim (x_3_4) (fun z => z.elim (x_3_8) (fun z => z.elim (x_3_9) (fun z => z.elim (x_3_10) ((x_1_3).symm))))) z, List.nodup_cons.mpr ⟨fun z => by simp only [List.mem_cons, List.not_mem_nil, or_false] at z; exact (fun z => z.elim (x_4_8) (fun z => z.elim (x_4_9) (fun z => z.elim (x_4_10) ((x_1_4).symm)))) z, List.nodup_cons.mpr ⟨fun z => by simp only [List.mem_cons, List.not_mem_nil, or_false] at z; exact (fun z => z.elim (x_8_9) (fun z => z.elim (x_8_10) ((x_1_8).symm))) z, List.nodup_cons.mpr ⟨fun z => by simp only [List.mem_cons, List.not_mem_nil, or_false] at z; exact (fun z => z.elim (x_9_10) ((x_1_9).symm)) z, List.nodup_cons.mpr ⟨fun z => by simp only [List.mem_cons, List.not_mem_nil, or_false] at z; exact (x_1_10).symm z, List.nodup_cons.mpr ⟨fun z => by simp only [List.mem_cons, List.not_mem_nil, or_false] at z, List.nodup_nil⟩⟩⟩⟩⟩⟩⟩⟩⟩⟩⟩⟩⟩) ha h1 h2 h3 h4 h5 h6 h7 h8 h9 h10 h11 hr hZ⟩
