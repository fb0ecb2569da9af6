/-! Frame.inside: one frame more -/
abbrev zFR : FR := (fun _ => 0, none, (0, 0, 0, false), (0, 0, 0, false))
abbrev uN (s : PS) (n : Nat) : PS := (s.1, s.2.1, s.2.2.1, xT s, va_up (xG s) n zFR, n + 1, xF s)
theorem pM_congr {T : List Nat} {adr : Nat → Nat} {C C' : Nat → va_E} {N : MP} (h : ∀ p ∈ T, C p = C' p) : pM T adr C N = pM T adr C' N := by
  funext a
  unfold pM
  cases hf : T.find? (fun p => adr p == a) with
  | none => rfl
  | some p => simp only; rw [h p (List.mem_of_find?_eq_some hf)]
theorem frO_adr {adr adr' : Nat → Nat} {n j : Nat} (h : ∀ p, p < 12 + 3 * n → adr' p = adr p) (hj : j ≤ n) : frO adr' j = frO adr j := by
  cases j with
  | zero => rfl
  | succ j => show Value.ref (adr' (9 + 3 * j)) = .ref (adr (9 + 3 * j)); rw [h _ (by omega)]
theorem pC_more {ac : Nat → ClassId} {adr adr' : Nat → Nat} {ra n p : Nat} {s : PS} (hn : xN s = n + 1) (h : ∀ p, p < 12 + 3 * n → adr' p = adr p) (hp : p < 12 + 3 * n) (hp9 : p ≠ 9 + 3 * n) : pC ac adr ra s p = pC ac adr' ra (uN s (n + 1)) p := by
  match p, hp, hp9 with
  | 0, _, _ => show Sum.inr (0, pfv adr s) = Sum.inr (0, pfv adr' (uN s (n + 1))); unfold pfv; rw [h 6 (by omega), h 1 (by omega), h 2 (by omega), h 3 (by omega)]
  | 1, _, _ => show Sum.inr (7, pwv adr s) = Sum.inr (7, pwv adr' (uN s (n + 1))); unfold pwv; rw [h 2 (by omega), h 3 (by omega), h 4 (by omega), h 5 (by omega), h 9 (by omega)]
  | 2, _, _ => rfl
  | 3, _, _ => show (Sum.inr (3, [.ref (adr 7), .ref (adr 8), .int (s.1 30)]) : va_E) = .inr (3, [.ref (adr' 7), .ref (adr' 8), .int (s.1 30)]); rw [h 7 (by omega), h 8 (by omega)]
  | 4, _, _ => rfl
  | 5, _, _ => rfl
  | 6, _, _ => rfl
  | 7, _, _ => rfl
  | 8, _, _ => rfl
  | p + 9, hp, hp9 =>
    have hj : p / 3 ≠ n + 1 := by omega
    show (if p % 3 = 0 then frE adr (xN s) (p / 3) (xG s (p / 3)) else if p % 3 = 1 then tre 147 (xG s (p / 3)).2.2.1 else tre 161 (xG s (p / 3)).2.2.2) = (if p % 3 = 0 then frE adr' (n + 1 + 1) (p / 3) (va_up (xG s) (n + 1) zFR (p / 3)) else if p % 3 = 1 then tre 147 (va_up (xG s) (n + 1) zFR (p / 3)).2.2.1 else tre 161 (va_up (xG s) (n + 1) zFR (p / 3)).2.2.2)
    rw [va_up_ne _ _ hj]
    by_cases h3 : p % 3 = 0
    · rw [if_pos h3, if_pos h3]
      unfold frE
      rw [frO_adr h (by omega), h _ (by omega), h _ (by omega)]
      unfold frN
      rw [hn, if_pos (by omega), if_pos (by omega), h _ (by omega)]
    · rw [if_neg h3, if_neg h3]
theorem PW_frame {ac : Nat → ClassId} {adr : Nat → Nat} {s : PS} {Z M : MP} (hW : PW ac adr s Z M) {n q0 q1 q2 : Nat} (hn : xN s = n + 1) (m0 : M q0 = none) (m1 : M q1 = none) (m2 : M q2 = none) (n01 : q0 ≠ q1) (n02 : q0 ≠ q2) (n12 : q1 ≠ q2) : ∃ adr' : Nat → Nat, (∀ p, p < 12 + 3 * n → adr' p = adr p) ∧ adr' (12 + 3 * n) = q0 ∧ PW ac adr' (uN s (n + 1)) Z (mu (mu (mu (mu M q0 (.inr (4, nfr (.ref (adr (9 + 3 * n))) (nI (n + 1) + 1) q1 q2))) q1 (.inr (8, trv 147 0 0 0 0))) q2 (.inr (8, trv 161 0 0 0 0))) (adr (9 + 3 * n)) (.inr (4, (frv (frF n (xG s n).1) (frO adr n) (adr (10 + 3 * n)) (adr (11 + 3 * n)) (frN adr (xN s) n) (va_rf (xG s n).2.1)).set 4 (.ref q0)))) := by
  obtain ⟨ra, N, h0, hR, hZ, hk, rfl⟩ := hW
  have hK : 9 + 3 * xN s = 12 + 3 * n := by omega
  have hK2 : List.range (9 + 3 * xN (uN s (n + 1))) = List.range (12 + 3 * n) ++ [12 + 3 * n] ++ [13 + 3 * n] ++ [14 + 3 * n] := by
    show List.range (9 + 3 * (n + 1 + 1)) = _
    rw [show 9 + 3 * (n + 1 + 1) = 12 + 3 * n + 1 + 1 + 1 by omega, List.range_succ, List.range_succ, List.range_succ, show 12 + 3 * n + 1 = 13 + 3 * n by omega, show 12 + 3 * n + 2 = 14 + 3 * n by omega]
  rw [hK] at h0 m0 m1 m2 ⊢
  obtain ⟨e1, o1⟩ := pM_push h0 (p := 12 + 3 * n) (by simp) m0 (.inr (4, nfr (.ref (adr (9 + 3 * n))) (nI (n + 1) + 1) q1 q2))
  have m1' := m1
  rw [← mu_ne (pM (List.range (12 + 3 * n)) adr (pC ac adr ra s) N) (.inr (4, nfr (.ref (adr (9 + 3 * n))) (nI (n + 1) + 1) q1 q2)) n01.symm, e1] at m1'
  obtain ⟨e2, o2⟩ := pM_push o1 (p := 13 + 3 * n) (by simp <;> omega) m1' (.inr (8, trv 147 0 0 0 0))
  have m2' := m2
  rw [← mu_ne (pM (List.range (12 + 3 * n)) adr (pC ac adr ra s) N) (.inr (4, nfr (.ref (adr (9 + 3 * n))) (nI (n + 1) + 1) q1 q2)) n02.symm, e1] at m2'
  have m2'' := (mu_ne _ (.inr (8, trv 147 0 0 0 0)) n12.symm).trans m2'
  rw [e2] at m2''
  obtain ⟨e3, o3⟩ := pM_push o2 (p := 14 + 3 * n) (by simp <;> omega) m2'' (.inr (8, trv 161 0 0 0 0))
  rw [e1, e2, e3]
  have hadr : ∀ p, p < 12 + 3 * n → va_up (va_up (va_up adr (12 + 3 * n) q0) (13 + 3 * n) q1) (14 + 3 * n) q2 p = adr p := fun p hp => by rw [va_up_ne _ _ (by omega), va_up_ne _ _ (by omega), va_up_ne _ _ (by omega)]
  have ha0 : va_up (va_up (va_up adr (12 + 3 * n) q0) (13 + 3 * n) q1) (14 + 3 * n) q2 (12 + 3 * n) = q0 := by rw [va_up_ne _ _ (by omega), va_up_ne _ _ (by omega), va_up_self]
  have ha1 : va_up (va_up (va_up adr (12 + 3 * n) q0) (13 + 3 * n) q1) (14 + 3 * n) q2 (13 + 3 * n) = q1 := by rw [va_up_ne _ _ (by omega), va_up_self]
  have ha2 : va_up (va_up (va_up adr (12 + 3 * n) q0) (13 + 3 * n) q1) (14 + 3 * n) q2 (14 + 3 * n) = q2 := by rw [va_up_self]
  have hset := pM_set o3 (C := va_up (va_up (va_up (pC ac adr ra s) (12 + 3 * n) (.inr (4, nfr (.ref (adr (9 + 3 * n))) (nI (n + 1) + 1) q1 q2))) (13 + 3 * n) (.inr (8, trv 147 0 0 0 0))) (14 + 3 * n) (.inr (8, trv 161 0 0 0 0))) (p := 9 + 3 * n) (by simp) (.inr (4, (frv (frF n (xG s n).1) (frO adr n) (adr (10 + 3 * n)) (adr (11 + 3 * n)) (frN adr (xN s) n) (va_rf (xG s n).2.1)).set 4 (.ref q0)))
  rw [hadr _ (by omega)] at hset
  rw [hset]
  revert hadr ha0 ha1 ha2 o3
  generalize va_up (va_up (va_up adr (12 + 3 * n) q0) (13 + 3 * n) q1) (14 + 3 * n) q2 = adr'
  intro o3 hadr ha0 ha1 ha2
  refine ⟨adr', hadr, ha0, ra, N, by rw [hK2]; exact o3, hR, hZ, hk, ?_⟩
  rw [hK2]
  refine pM_congr (fun p hp => ?_)
  have hpl : p < 15 + 3 * n := by
    simp at hp
    omega
  by_cases c1 : p = 9 + 3 * n
  · subst c1
    rw [va_up_self, pC_g]
    show _ = frE adr' (n + 1 + 1) n (va_up (xG s) (n + 1) zFR n)
    rw [va_up_ne _ _ (by omega)]
    unfold frE
    rw [frO_adr hadr (Nat.le_refl _), hadr _ (by omega), hadr _ (by omega)]
    unfold frN
    rw [if_pos (show n + 1 < n + 1 + 1 by omega), show 9 + 3 * (n + 1) = 12 + 3 * n by omega, ha0]
    rfl
  · rw [va_up_ne _ _ c1]
    by_cases c2 : p = 14 + 3 * n
    · subst c2
      rw [va_up_self, show 14 + 3 * n = 11 + 3 * (n + 1) by omega, pC_gd]
      show _ = tre 161 (va_up (xG s) (n + 1) zFR (n + 1)).2.2.2
      rw [va_up_self]
      rfl
    · rw [va_up_ne _ _ c2]
      by_cases c3 : p = 13 + 3 * n
      · subst c3
        rw [va_up_self, show 13 + 3 * n = 10 + 3 * (n + 1) by omega, pC_ga]
        show _ = tre 147 (va_up (xG s) (n + 1) zFR (n + 1)).2.2.1
        rw [va_up_self]
        rfl
      · rw [va_up_ne _ _ c3]
        by_cases c4 : p = 12 + 3 * n
        · subst c4
          rw [va_up_self, show 12 + 3 * n = 9 + 3 * (n + 1) by omega, pC_g]
          show _ = frE adr' (n + 1 + 1) (n + 1) (va_up (xG s) (n + 1) zFR (n + 1))
          rw [va_up_self]
          unfold frE frN
          rw [if_neg (by omega), show 10 + 3 * (n + 1) = 13 + 3 * n by omega, show 11 + 3 * (n + 1) = 14 + 3 * n by omega, ha1, ha2]
          show _ = Sum.inr (4, frv (frF (n + 1) (fun _ => 0)) (.ref (adr' (9 + 3 * n))) q1 q2 .null .null)
          rw [hadr _ (by omega)]
          show (Sum.inr (4, nfr (.ref (adr (9 + 3 * n))) (nI (n + 1) + 1) q1 q2) : va_E) = .inr (4, nfr (.ref (adr (9 + 3 * n))) (nI (n + 1 + 1)) q1 q2)
          rw [nI_1]
        · rw [va_up_ne _ _ c4]
          exact pC_more hn hadr (by omega) c1
def inS (s : PS) (i : Nat) : PS := if i + 1 < xN s then s else uN s (i + 1)
theorem inS_F (s : PS) (i : Nat) : xF (inS s i) = xF s := by unfold inS; split <;> rfl
theorem inS_N {s : PS} {i : Nat} (hi : i < xN s) : xN s ≤ xN (inS s i) ∧ i + 1 < xN (inS s i) := by
  unfold inS
  split
  · next h => exact ⟨Nat.le_refl _, h⟩
  · exact ⟨show xN s ≤ i + 1 + 1 by omega, show i + 1 < i + 1 + 1 by omega⟩
set_option maxRecDepth 100000 in
set_option maxHeartbeats 4000000 in
theorem Fra_inside {l : Launch} {D : va_G} {ac : Nat → ClassId} {adr : Nat → Nat} {s : PS} {Z M : MP} (hW : PW ac adr s Z M) {i : Nat} (hi : i < xN s) : Ct l D (tyl ac) t_Fra_inside (3 * (xN (inS s i) - xN s)) (23 * (xN (inS s i) - xN s)) [.ref (adr (9 + 3 * i))] M (fun r M' => ∃ adr' : Nat → Nat, (∀ p, p < 9 + 3 * xN s → adr' p = adr p) ∧ r = some (.ref (adr' (9 + 3 * (i + 1)))) ∧ PW ac adr' (inS s i) Z M') := by
  refine Ct_of (by decide) (Nat.le_of_ble_eq_true rfl) ?_
  by_cases hin : i + 1 < xN s
  · have hg := PW_fr hW hi
    rw [frN, if_pos hin] at hg
    refine V_aload_n d_Fra_inside_0 rfl (isr_ref _) ?_
    refine V_getf d_Fra_inside_1 f_Fra_31 (hg) rfl ?_
    refine V_ifnonnull 19 (isr_ref _) d_Fra_inside_4 (by decide) (fun a4 h4 => ?_) (fun h4 => ?_)
    · refine V_aload_n d_Fra_inside_19 rfl (isr_ref _) ?_
      refine V_getf d_Fra_inside_20 f_Fra_31 (hg) rfl ?_
      exact V_areturn d_Fra_inside_23 rfl (Or.inl ⟨_, rfl⟩) (isr_ref _) ⟨adr, fun _ _ => rfl, rfl, by rw [inS, if_pos hin]; exact hW⟩
    · cases h4
  · have hn : xN s = i + 1 := by omega
    have hg := PW_fr hW hi
    have hg2 := hg
    rw [frN, if_neg hin] at hg2
    have e3 : 3 * (xN (inS s i) - xN s) = 3 := by rw [inS, if_neg hin]; show 3 * (i + 1 + 1 - xN s) = 3; omega
    have e23 : 23 * (xN (inS s i) - xN s) = 23 := by rw [inS, if_neg hin]; show 23 * (i + 1 + 1 - xN s) = 23; omega
    rw [e3, e23]
    refine V_aload_n d_Fra_inside_0 rfl (isr_ref _) ?_
    refine V_getf d_Fra_inside_1 f_Fra_31 (hg2) rfl ?_
    refine V_ifnonnull 19 (isr_null) d_Fra_inside_4 (by decide) (fun a4 h4 => ?_) (fun h4 => ?_)
    · cases h4
    · refine V_aload_n d_Fra_inside_7 rfl (isr_ref _) ?_
      refine V_new (k' := 2) (n' := 10) d_Fra_inside_8 n_Fra_15 rfl rfl (fun q0 hq0 => ?_)
      have n0 : adr (9 + 3 * i) ≠ q0 := fun z => by rw [← z, hg] at hq0; cases hq0
      refine V_dup d_Fra_inside_11 rfl ?_
      refine V_aload_n d_Fra_inside_12 rfl (isr_ref _) ?_
      refine V_callI (As := [.ref (adr (9 + 3 * i))]) (rest := [.ref q0, .ref (adr (9 + 3 * i))]) (b := q0) (k' := 0) (n' := 0) d_Fra_inside_13 c_Fra_34 ⟨by decide, by decide⟩ rfl rfl (Nat.le_of_ble_eq_true rfl) rfl rfl (Fra_init1 hg rfl n0) (fun x M1 hq9 => ?_)
      obtain ⟨rfl, q1, q2, m1, m2, n01, n02, n12, rfl⟩ := hq9
      have nb1 : adr (9 + 3 * i) ≠ q1 := fun z => by rw [← z, hg] at m1; cases m1
      have nb2 : adr (9 + 3 * i) ≠ q2 := fun z => by rw [← z, hg] at m2; cases m2
      obtain ⟨adr2, g1, g2, g3⟩ := PW_frame hW hn hq0 m1 m2 n01 n02 n12
      refine V_putf d_Fra_inside_16 f_Fra_31 ((mu_ne _ _ nb2).trans ((mu_ne _ _ nb1).trans ((mu_ne _ _ n0).trans hg))) (rfl) (rfl) (Nat.le_of_ble_eq_true rfl) ?_
      refine V_aload_n d_Fra_inside_19 rfl (isr_ref _) ?_
      refine V_getf d_Fra_inside_20 f_Fra_31 (mu_self _ _ _) rfl ?_
      exact V_areturn d_Fra_inside_23 rfl (Or.inl ⟨_, rfl⟩) (isr_ref _) ⟨adr2, fun p hp => g1 p (by omega), by rw [show 9 + 3 * (i + 1) = 12 + 3 * i by omega, g2], by rw [inS, if_neg hin]; exact g3⟩
