/-! enter, leave, inside -/
theorem Trk_becomeW0 {l : Launch} {D : va_G} {ac : Nat → ClassId} {adr : Nat → Nat} {s : PS} {Z M : MP} (hW : PW ac adr s Z M) {i : Nat} (hi : i < xN s) : Ct l D (tyl ac) t_Trk_become 0 0 [.ref (adr 4), .ref (adr (10 + 3 * i))] M (fun r M' => r = none ∧ PW ac adr (uT s 0 (xG s i).2.2.1) Z M') := by
  have hW0 := hW
  obtain ⟨ra, N, h0, hR, hZ, hk, rfl⟩ := hW
  refine Ct_mono (Trk_become h0 (p := 4) (List.mem_range.mpr (by omega)) (q := 10 + 3 * i) (List.mem_range.mpr (by omega)) (by omega) rfl (pC_ga i) (bI_z _)) (fun r M' hq => ?_)
  obtain ⟨rfl, rfl⟩ := hq
  refine ⟨rfl, ra, N, h0, hR, hZ, hk, ?_⟩
  rw [← pC_t0]
theorem Trk_becomeW1 {l : Launch} {D : va_G} {ac : Nat → ClassId} {adr : Nat → Nat} {s : PS} {Z M : MP} (hW : PW ac adr s Z M) {i : Nat} (hi : i < xN s) : Ct l D (tyl ac) t_Trk_become 0 0 [.ref (adr 5), .ref (adr (11 + 3 * i))] M (fun r M' => r = none ∧ PW ac adr (uT s 1 (xG s i).2.2.2) Z M') := by
  obtain ⟨ra, N, h0, hR, hZ, hk, rfl⟩ := hW
  refine Ct_mono (Trk_become h0 (p := 5) (List.mem_range.mpr (by omega)) (q := 11 + 3 * i) (List.mem_range.mpr (by omega)) (by omega) rfl (pC_gd i) (bI_z _)) (fun r M' hq => ?_)
  obtain ⟨rfl, rfl⟩ := hq
  refine ⟨rfl, ra, N, h0, hR, hZ, hk, ?_⟩
  rw [← pC_t1]
theorem pC_bg {ac : Nat → ClassId} {adr : Nat → Nat} {ra : Nat} {s : PS} (i : Nat) (F : Nat → Int32) (nx : Option Nat) (t0 t1 : TR) : va_up (va_up (va_up (pC ac adr ra s) (10 + 3 * i) (tre 147 t0)) (11 + 3 * i) (tre 161 t1)) (9 + 3 * i) (frE adr (xN s) i (F, nx, t0, t1)) = pC ac adr ra (uG s i (F, nx, t0, t1)) := by
  funext p
  by_cases hp : p = 9 + 3 * i
  · subst hp
    rw [va_up_self, pC_g]
    show _ = frE adr (xN s) i (va_up (xG s) i _ i)
    rw [va_up_self]
  · rw [va_up_ne _ _ hp]
    by_cases h2 : p = 11 + 3 * i
    · subst h2
      rw [va_up_self, pC_gd]
      show _ = tre 161 (va_up (xG s) i _ i).2.2.2
      rw [va_up_self]
    · rw [va_up_ne _ _ h2]
      by_cases h1 : p = 10 + 3 * i
      · subst h1
        rw [va_up_self, pC_ga]
        show _ = tre 147 (va_up (xG s) i _ i).2.2.1
        rw [va_up_self]
      · rw [va_up_ne _ _ h1]
        exact pC_gall (s := s) (s' := uG s i (F, nx, t0, t1)) (i := i) rfl rfl rfl rfl rfl rfl (fun j hj => va_up_ne _ _ hj) ⟨hp, h1, h2⟩
def bgS (s : PS) (i : Nat) (v w h d : Int32) (fo : Option Nat) : PS := uG s i (bgF v w h d (xT s 0).1 (xT s 1).1, fo, xT s 0, xT s 1)
theorem Fra_beginW {l : Launch} {D : va_G} {ac : Nat → ClassId} {adr : Nat → Nat} {s : PS} {Z M : MP} (hW : PW ac adr s Z M) {i b : Nat} (hi : i < xN s) {v w h d it ne : Int32} {fo : Option Nat} (hB : Z b = some (.inr (1, bxv v w h d (va_rf fo) it ne))) (hz : isz1 v) : Ct l D (tyl ac) t_Fra_begin 0 0 [.ref (adr (9 + 3 * i)), .ref b, .ref (adr 4), .ref (adr 5)] M (fun r M' => r = none ∧ PW ac adr (bgS s i v w h d fo) Z M') := by
  obtain ⟨ra, N, h0, hR, hZ, hk, rfl⟩ := hW
  refine Ct_mono (Fra_begin h0 (p := 9 + 3 * i) (p1 := 10 + 3 * i) (p2 := 11 + 3 * i) (q1 := 4) (q2 := 5) (i := i) (List.mem_range.mpr (by omega)) (List.mem_range.mpr (by omega)) (List.mem_range.mpr (by omega)) (List.mem_range.mpr (by omega)) (List.mem_range.mpr (by omega)) (by omega) (by omega) (by omega) (by omega) (by omega) (by omega) (by omega) (by omega) (by omega) (pC_g i) (pC_ga i) (pC_gd i) rfl rfl (hZ _ _ hB).2 hz (isr_rf _)) (fun r M' hq => ?_)
  obtain ⟨rfl, rfl⟩ := hq
  exact ⟨rfl, ra, N, h0, hR, hZ, hk, congrArg (fun C => pM (List.range (9 + 3 * xN s)) adr C N) (pC_bg i _ fo (xT s 0) (xT s 1))⟩
def enS (s : PS) (i : Nat) (v w h d : Int32) (fo : Option Nat) : PS := uI (bgS (uF s (fadd (xF s) 141 1)) i v w h d fo) 26 (if s.1 26 < nI (i + 1) then nI (i + 1) else s.1 26)
def leS (s : PS) (i : Nat) : PS := uT (uT (uF s (fadd (xF s) 142 1)) 0 (xG s i).2.2.1) 1 (xG s i).2.2.2
theorem isr_frO (adr : Nat → Nat) (i : Nat) : isr (frO adr i) := by cases i <;> first | exact isr_null | exact isr_ref _
set_option maxRecDepth 100000 in
set_option maxHeartbeats 4000000 in
theorem PgW_enter {l : Launch} {D : va_G} {ac : Nat → ClassId} {adr : Nat → Nat} {s : PS} {Z M : MP} {jE : Nat} (hW : PW ac adr s Z M) {i b : Nat} (hi : i < xN s) {v w h d it ne : Int32} {fo : Option Nat} (hB : Z b = some (.inr (1, bxv v w h d (va_rf fo) it ne))) (hz : isz1 v) (hE : FE (xF s) [(141, 1)] jE) : Ct l D (tyl ac) t_PgW_enter (bk jE (xF s) 0) (bs jE (xF s) 0) [.ref (adr 1), .ref (adr (9 + 3 * i)), .ref b] M (fun r M' => r = some (.ref (adr (9 + 3 * i))) ∧ PW ac adr (enS s i v w h d fo) Z M') := by
  refine Ct_of (by decide) (Nat.le_of_ble_eq_true rfl) ?_
  refine V_aload_n d_PgW_enter_0 rfl (isr_ref _) ?_
  refine V_getf d_PgW_enter_1 f_PgW_12 (PW_c hW (by omega) (fun _ => rfl)) rfl ?_
  refine V_sipush (v := 141) d_PgW_enter_4 (by decide) ?_
  refine V_iconst (v := nI 1) d_PgW_enter_7 (by decide) ?_
  refine VW_add (t := t_PgW_enter) hW [] hE (by decide) d_PgW_enter_8 c_PgW_164 ⟨by decide, by decide⟩ (Nat.le_of_ble_eq_true rfl) (fun M1 hW => ?_)
  replace hE := FE_t hE
  refine V_aload_n d_PgW_enter_11 rfl (isr_ref _) ?_
  refine V_aload_n d_PgW_enter_12 rfl (isr_ref _) ?_
  refine V_aload_n d_PgW_enter_13 rfl (isr_ref _) ?_
  refine V_getf d_PgW_enter_14 f_PgW_30 (PW_c hW (by omega) (fun _ => rfl)) rfl ?_
  refine V_aload_n d_PgW_enter_17 rfl (isr_ref _) ?_
  refine V_getf d_PgW_enter_18 f_PgW_34 (PW_c hW (by omega) (fun _ => rfl)) rfl ?_
  refine V_c0 (As := [.ref b, .ref (adr 4), .ref (adr 5)]) (rest := []) (T := T_Fra) (N := 13) (PW_fr hW hi) rfl d_PgW_enter_21 c_PgW_177 ⟨by decide, by decide⟩ rfl rfl (Nat.le_of_ble_eq_true rfl) (Fra_beginW hW hi hB hz) (fun r M1 hq9 => ?_)
  obtain ⟨rfl, hW⟩ := hq9
  refine V_aload_n d_PgW_enter_24 rfl (isr_ref _) ?_
  refine V_aload_n d_PgW_enter_25 rfl (isr_ref _) ?_
  refine V_getf d_PgW_enter_26 f_PgW_53 (PW_c hW (by omega) (fun _ => rfl)) rfl ?_
  refine V_aload_n d_PgW_enter_29 rfl (isr_ref _) ?_
  refine V_getf d_PgW_enter_30 f_PgW_181 (PW_fr hW hi) rfl ?_
  refine V_eqi (show _ = nI (i + 1) from rfl) ?_
  refine V_maxi d_PgW_enter_33 mx_PgW_184 mxi1 mx0 mxi2 (by decide) (Nat.le_of_ble_eq_true rfl) ?_
  refine VW_put hW (by omega) d_PgW_enter_36 f_PgW_53 (fun _ => rfl) (rfl) (rfl) (Nat.le_of_ble_eq_true rfl) (fun _ => pC_w26 _) rfl rfl (fun M1 hW => ?_)
  refine V_aload_n d_PgW_enter_39 rfl (isr_ref _) ?_
  exact V_areturn d_PgW_enter_40 rfl (Or.inl ⟨_, rfl⟩) (isr_ref _) ⟨rfl, hW⟩
set_option maxRecDepth 100000 in
set_option maxHeartbeats 4000000 in
theorem PgW_leave {l : Launch} {D : va_G} {ac : Nat → ClassId} {adr : Nat → Nat} {s : PS} {Z M : MP} {jE : Nat} (hW : PW ac adr s Z M) {i : Nat} (hi : i < xN s) (hE : FE (xF s) [(142, 1)] jE) : Ct l D (tyl ac) t_PgW_leave (bk jE (xF s) 0) (bs jE (xF s) 0) [.ref (adr 1), .ref (adr (9 + 3 * i))] M (fun r M' => r = some (frO adr i) ∧ PW ac adr (leS s i) Z M') := by
  refine Ct_of (by decide) (Nat.le_of_ble_eq_true rfl) ?_
  refine V_aload_n d_PgW_leave_0 rfl (isr_ref _) ?_
  refine V_getf d_PgW_leave_1 f_PgW_12 (PW_c hW (by omega) (fun _ => rfl)) rfl ?_
  refine V_sipush (v := 142) d_PgW_leave_4 (by decide) ?_
  refine V_iconst (v := nI 1) d_PgW_leave_7 (by decide) ?_
  refine VW_add (t := t_PgW_leave) hW [] hE (by decide) d_PgW_leave_8 c_PgW_164 ⟨by decide, by decide⟩ (Nat.le_of_ble_eq_true rfl) (fun M1 hW => ?_)
  replace hE := FE_t hE
  refine V_aload_n d_PgW_leave_11 rfl (isr_ref _) ?_
  refine V_getf d_PgW_leave_12 f_PgW_30 (PW_c hW (by omega) (fun _ => rfl)) rfl ?_
  refine V_aload_n d_PgW_leave_15 rfl (isr_ref _) ?_
  refine V_getfN d_PgW_leave_16 f_PgW_190 (PW_fr hW hi) rfl ?_
  refine V_c0 (As := [.ref (adr (10 + 3 * i))]) (rest := []) (T := T_Trk) (N := 5) (PW_c (p := 4) hW (by omega) (fun _ => rfl)) rfl d_PgW_leave_19 c_PgW_193 ⟨by decide, by decide⟩ rfl rfl (Nat.le_of_ble_eq_true rfl) (Trk_becomeW0 hW hi) (fun r M1 hq9 => ?_)
  obtain ⟨rfl, hW⟩ := hq9
  refine V_aload_n d_PgW_leave_22 rfl (isr_ref _) ?_
  refine V_getf d_PgW_leave_23 f_PgW_34 (PW_c hW (by omega) (fun _ => rfl)) rfl ?_
  refine V_aload_n d_PgW_leave_26 rfl (isr_ref _) ?_
  refine V_getfN d_PgW_leave_27 f_PgW_197 (PW_fr hW hi) rfl ?_
  refine V_c0 (As := [.ref (adr (11 + 3 * i))]) (rest := []) (T := T_Trk) (N := 5) (PW_c (p := 5) hW (by omega) (fun _ => rfl)) rfl d_PgW_leave_30 c_PgW_193 ⟨by decide, by decide⟩ rfl rfl (Nat.le_of_ble_eq_true rfl) (Trk_becomeW1 hW hi) (fun r M1 hq9 => ?_)
  obtain ⟨rfl, hW⟩ := hq9
  refine V_aload_n d_PgW_leave_33 rfl (isr_ref _) ?_
  refine V_getf d_PgW_leave_34 f_PgW_200 (PW_fr hW hi) rfl ?_
  exact V_areturn d_PgW_leave_37 rfl (Or.inl ⟨_, rfl⟩) (isr_frO _ _) ⟨rfl, hW⟩
set_option maxRecDepth 100000 in
set_option maxHeartbeats 4000000 in
theorem Trk_init {l : Launch} {D : va_G} {ac : Nat → ClassId} {M : MP} {a : Nat} {c : Int32} : Ct l D (tyl ac) t_Trk_init 0 0 [.ref a, .int c] (mu M a (.inr (8, trv 0 0 0 0 0))) (PQ none (mu M a (.inr (8, trv c 0 0 0 0)))) := by
  refine Ct_of (by decide) (Nat.le_of_ble_eq_true rfl) ?_
  refine V_aload_n d_Trk_init_0 rfl (isr_ref _) ?_
  refine V_objInit d_Trk_init_1 oi_Trk oi1 oi2 (by decide) (Nat.le_of_ble_eq_true rfl) ?_
  refine V_aload_n d_Trk_init_4 rfl (isr_ref _) ?_
  refine V_iload_n d_Trk_init_5 rfl ?_
  refine V_putF d_Trk_init_6 f_Trk_9 rfl (mu_self _ _ _) (rfl) (rfl) (Nat.le_of_ble_eq_true rfl) ?_
  rw [mu_mu]
  exact V_return d_Trk_init_9 rfl ⟨rfl, rfl⟩
theorem mu_comm (M : MP) {x y : Nat} (h : x ≠ y) (e e' : va_E) : mu (mu M x e) y e' = mu (mu M y e') x e := by
  funext z
  by_cases h1 : z = x
  · subst h1
    rw [mu_ne _ _ h, mu_self, mu_self]
  · rw [mu_ne (mu M y e') e h1]
    by_cases h2 : z = y
    · subst h2
      rw [mu_self, mu_self]
    · rw [mu_ne _ _ h2, mu_ne _ _ h2, mu_ne _ _ h1]
theorem mu_2 (M : MP) {x y : Nat} (h : x ≠ y) (e e' e2 : va_E) : mu (mu (mu M x e) y e') x e2 = mu (mu M x e2) y e' := by rw [mu_comm (mu M x e) h.symm, mu_mu]
theorem mu_3 (M : MP) {x y z : Nat} (h : x ≠ y) (h' : x ≠ z) (e e' e2 e3 : va_E) : mu (mu (mu (mu M x e) y e') z e2) x e3 = mu (mu (mu M x e3) y e') z e2 := by rw [mu_comm _ h'.symm, mu_2 _ h]
abbrev zfr : List Value := [.null, .int 0, .null, .null, .null, .int 0, .int 0, .int 0, .int 0, .int 0, .int 0, .int 0, .null]
abbrev nfr (ou : Value) (le : Int32) (q1 q2 : Nat) : List Value := [ou, .int le, .ref q1, .ref q2, .null, .int 0, .int 0, .int 0, .int 0, .int 0, .int 0, .int 0, .null]
set_option maxRecDepth 100000 in
set_option maxHeartbeats 4000000 in
theorem Fra_init0 {l : Launch} {D : va_G} {ac : Nat → ClassId} {M : MP} {a : Nat} : Ct l D (tyl ac) t_Fra_init 2 10 [.ref a, .null] (mu M a (.inr (4, zfr))) (fun r M' => r = none ∧ ∃ q1 q2, M q1 = none ∧ M q2 = none ∧ a ≠ q1 ∧ a ≠ q2 ∧ q1 ≠ q2 ∧ M' = mu (mu (mu M a (.inr (4, nfr (.null) (1) q1 q2))) q1 (.inr (8, trv 147 0 0 0 0))) q2 (.inr (8, trv 161 0 0 0 0))) := by
  refine Ct_of (by decide) (Nat.le_of_ble_eq_true rfl) ?_
  refine V_aload_n d_Fra_init_0 rfl (isr_ref _) ?_
  refine V_objInit d_Fra_init_1 oi_Fra oi1 oi2 (by decide) (Nat.le_of_ble_eq_true rfl) ?_
  refine V_aload_n d_Fra_init_4 rfl (isr_ref _) ?_
  refine V_new (k' := 1) (n' := 5) d_Fra_init_5 n_Fra_9 rfl rfl (fun q1 hq1 => ?_)
  have na1 : a ≠ q1 := fun z => by rw [← z, mu_self] at hq1; cases hq1
  have m1 : M q1 = none := by rw [mu_ne _ _ na1.symm] at hq1; exact hq1
  refine V_dup d_Fra_init_8 rfl ?_
  refine V_sipush (v := 147) d_Fra_init_9 (by decide) ?_
  refine V_callI (As := [.int 147]) (rest := [.ref q1, .ref a]) (b := q1) (k' := 1) (n' := 5) d_Fra_init_12 c_Fra_11 ⟨by decide, by decide⟩ rfl rfl (Nat.le_of_ble_eq_true rfl) rfl rfl Trk_init (fun x M1 hq9 => ?_)
  obtain ⟨rfl, rfl⟩ := hq9
  refine V_putF d_Fra_init_15 f_Fra_14 rfl ((mu_ne _ _ na1).trans (mu_self _ _ _)) (rfl) (rfl) (Nat.le_of_ble_eq_true rfl) ?_
  rw [mu_2 _ na1]
  refine V_aload_n d_Fra_init_18 rfl (isr_ref _) ?_
  refine V_new (k' := 0) (n' := 0) d_Fra_init_19 n_Fra_9 rfl rfl (fun q2 hq2 => ?_)
  have n12 : q1 ≠ q2 := fun z => by rw [← z, mu_self] at hq2; cases hq2
  rw [mu_ne _ _ n12.symm] at hq2
  have na2 : a ≠ q2 := fun z => by rw [← z, mu_self] at hq2; cases hq2
  have m2 : M q2 = none := by rw [mu_ne _ _ na2.symm] at hq2; exact hq2
  refine V_dup d_Fra_init_22 rfl ?_
  refine V_sipush (v := 161) d_Fra_init_23 (by decide) ?_
  refine V_callI (As := [.int 161]) (rest := [.ref q2, .ref a]) (b := q2) (k' := 0) (n' := 0) d_Fra_init_26 c_Fra_11 ⟨by decide, by decide⟩ rfl rfl (Nat.le_of_ble_eq_true rfl) rfl rfl Trk_init (fun x M1 hq9 => ?_)
  obtain ⟨rfl, rfl⟩ := hq9
  refine V_putF d_Fra_init_29 f_Fra_20 rfl ((mu_ne _ _ na2).trans ((mu_ne _ _ na1).trans (mu_self _ _ _))) (rfl) (rfl) (Nat.le_of_ble_eq_true rfl) ?_
  rw [mu_3 _ na1 na2]
  refine V_aload_n d_Fra_init_32 rfl (isr_ref _) ?_
  refine V_aload_n d_Fra_init_33 rfl (isr_null) ?_
  refine V_putF d_Fra_init_34 f_Fra_23 rfl ((mu_ne _ _ na2).trans ((mu_ne _ _ na1).trans (mu_self _ _ _))) (rfl) (rfl) (Nat.le_of_ble_eq_true rfl) ?_
  rw [mu_3 _ na1 na2]
  refine V_aload_n d_Fra_init_37 rfl (isr_ref _) ?_
  refine V_aload_n d_Fra_init_38 rfl (isr_null) ?_
  refine V_ifnonnull 46 (isr_null) d_Fra_init_39 (by decide) (fun a39 h39 => ?_) (fun h39 => ?_)
  · cases h39
  · refine V_iconst (v := 1) d_Fra_init_42 (by decide) ?_
    refine V_goto 52 d_Fra_init_43 (by decide) ?_
    refine V_putF d_Fra_init_52 f_Fra_27 rfl ((mu_ne _ _ na2).trans ((mu_ne _ _ na1).trans (mu_self _ _ _))) (rfl) (rfl) (Nat.le_of_ble_eq_true rfl) ?_
    rw [mu_3 _ na1 na2]
    exact V_return d_Fra_init_55 rfl ⟨rfl, q1, q2, m1, m2, na1, na2, n12, rfl⟩
set_option maxRecDepth 100000 in
set_option maxHeartbeats 4000000 in
theorem Fra_init1 {l : Launch} {D : va_G} {ac : Nat → ClassId} {M : MP} {a : Nat} {b : Nat} {fs : List Value} {le : Int32} (hb : M b = some (.inr (4, fs))) (hlv : fs[1]? = some (.int le)) (hba : b ≠ a) : Ct l D (tyl ac) t_Fra_init 2 10 [.ref a, .ref b] (mu M a (.inr (4, zfr))) (fun r M' => r = none ∧ ∃ q1 q2, M q1 = none ∧ M q2 = none ∧ a ≠ q1 ∧ a ≠ q2 ∧ q1 ≠ q2 ∧ M' = mu (mu (mu M a (.inr (4, nfr (.ref b) (le + 1) q1 q2))) q1 (.inr (8, trv 147 0 0 0 0))) q2 (.inr (8, trv 161 0 0 0 0))) := by
  refine Ct_of (by decide) (Nat.le_of_ble_eq_true rfl) ?_
  refine V_aload_n d_Fra_init_0 rfl (isr_ref _) ?_
  refine V_objInit d_Fra_init_1 oi_Fra oi1 oi2 (by decide) (Nat.le_of_ble_eq_true rfl) ?_
  refine V_aload_n d_Fra_init_4 rfl (isr_ref _) ?_
  refine V_new (k' := 1) (n' := 5) d_Fra_init_5 n_Fra_9 rfl rfl (fun q1 hq1 => ?_)
  have na1 : a ≠ q1 := fun z => by rw [← z, mu_self] at hq1; cases hq1
  have m1 : M q1 = none := by rw [mu_ne _ _ na1.symm] at hq1; exact hq1
  refine V_dup d_Fra_init_8 rfl ?_
  refine V_sipush (v := 147) d_Fra_init_9 (by decide) ?_
  refine V_callI (As := [.int 147]) (rest := [.ref q1, .ref a]) (b := q1) (k' := 1) (n' := 5) d_Fra_init_12 c_Fra_11 ⟨by decide, by decide⟩ rfl rfl (Nat.le_of_ble_eq_true rfl) rfl rfl Trk_init (fun x M1 hq9 => ?_)
  obtain ⟨rfl, rfl⟩ := hq9
  refine V_putF d_Fra_init_15 f_Fra_14 rfl ((mu_ne _ _ na1).trans (mu_self _ _ _)) (rfl) (rfl) (Nat.le_of_ble_eq_true rfl) ?_
  rw [mu_2 _ na1]
  refine V_aload_n d_Fra_init_18 rfl (isr_ref _) ?_
  refine V_new (k' := 0) (n' := 0) d_Fra_init_19 n_Fra_9 rfl rfl (fun q2 hq2 => ?_)
  have n12 : q1 ≠ q2 := fun z => by rw [← z, mu_self] at hq2; cases hq2
  rw [mu_ne _ _ n12.symm] at hq2
  have na2 : a ≠ q2 := fun z => by rw [← z, mu_self] at hq2; cases hq2
  have m2 : M q2 = none := by rw [mu_ne _ _ na2.symm] at hq2; exact hq2
  refine V_dup d_Fra_init_22 rfl ?_
  refine V_sipush (v := 161) d_Fra_init_23 (by decide) ?_
  refine V_callI (As := [.int 161]) (rest := [.ref q2, .ref a]) (b := q2) (k' := 0) (n' := 0) d_Fra_init_26 c_Fra_11 ⟨by decide, by decide⟩ rfl rfl (Nat.le_of_ble_eq_true rfl) rfl rfl Trk_init (fun x M1 hq9 => ?_)
  obtain ⟨rfl, rfl⟩ := hq9
  refine V_putF d_Fra_init_29 f_Fra_20 rfl ((mu_ne _ _ na2).trans ((mu_ne _ _ na1).trans (mu_self _ _ _))) (rfl) (rfl) (Nat.le_of_ble_eq_true rfl) ?_
  rw [mu_3 _ na1 na2]
  refine V_aload_n d_Fra_init_32 rfl (isr_ref _) ?_
  refine V_aload_n d_Fra_init_33 rfl (isr_ref _) ?_
  refine V_putF d_Fra_init_34 f_Fra_23 rfl ((mu_ne _ _ na2).trans ((mu_ne _ _ na1).trans (mu_self _ _ _))) (rfl) (rfl) (Nat.le_of_ble_eq_true rfl) ?_
  rw [mu_3 _ na1 na2]
  refine V_aload_n d_Fra_init_37 rfl (isr_ref _) ?_
  refine V_aload_n d_Fra_init_38 rfl (isr_ref _) ?_
  refine V_ifnonnull 46 (isr_ref _) d_Fra_init_39 (by decide) (fun a39 h39 => ?_) (fun h39 => ?_)
  · have nb1 : b ≠ q1 := fun z => by rw [← z, hb] at m1; cases m1
    have nb2 : b ≠ q2 := fun z => by rw [← z, hb] at m2; cases m2
    refine V_aload_n d_Fra_init_46 rfl (isr_ref _) ?_
    refine V_getf d_Fra_init_47 f_Fra_27 ((mu_ne _ _ nb2).trans ((mu_ne _ _ nb1).trans ((mu_ne _ _ hba).trans hb))) hlv ?_
    refine V_iconst (v := 1) d_Fra_init_50 (by decide) ?_
    refine V_iadd d_Fra_init_51 ?_
    refine V_putF d_Fra_init_52 f_Fra_27 rfl ((mu_ne _ _ na2).trans ((mu_ne _ _ na1).trans (mu_self _ _ _))) (rfl) (rfl) (Nat.le_of_ble_eq_true rfl) ?_
    rw [mu_3 _ na1 na2]
    exact V_return d_Fra_init_55 rfl ⟨rfl, q1, q2, m1, m2, na1, na2, n12, rfl⟩
  · cases h39
