/-! PageWriter's small methods -/
theorem iszl_n (x : Int64) : narrow .boolean (.int (iszl x)) = .int (iszl x) := by
  unfold iszl
  split
  · exact nz1
  · exact nz0
theorem Fra_widthOfW {l : Launch} {D : va_G} {ac : Nat → ClassId} {adr : Nat → Nat} {s : PS} {Z M : MP} (hW : PW ac adr s Z M) {i a : Nat} (hi : i < xN s) {I : Nat → Int32} {bx nx : Value} (hI : Z a = some (.inr (5, itv I bx nx))) : Ct l D (tyl ac) t_Fra_widthOf 0 0 [.ref (adr (9 + 3 * i)), .ref a] M (PQ (some (.int (wOf (xG s i).1 I))) M) := by
  obtain ⟨ra, N, h0, hR, hZ, hk, rfl⟩ := hW
  exact Fra_widthOf (F := frF i (xG s i).1) h0 (List.mem_range.mpr (by omega)) (pC_g i) (hZ _ _ hI).2
theorem Fra_extentOfW {l : Launch} {D : va_G} {ac : Nat → ClassId} {adr : Nat → Nat} {s : PS} {Z M : MP} (hW : PW ac adr s Z M) {i a : Nat} (hi : i < xN s) {I : Nat → Int32} {bx nx : Value} (hI : Z a = some (.inr (5, itv I bx nx))) : Ct l D (tyl ac) t_Fra_extentOf 0 0 [.ref (adr (9 + 3 * i)), .ref a] M (PQ (some (.long (exO (xG s i).1 I))) M) := by
  obtain ⟨ra, N, h0, hR, hZ, hk, rfl⟩ := hW
  exact Fra_extentOf (F := frF i (xG s i).1) h0 (List.mem_range.mpr (by omega)) (pC_g i) (hZ _ _ hI).2
theorem Fra_rightOfW {l : Launch} {D : va_G} {ac : Nat → ClassId} {adr : Nat → Nat} {s : PS} {Z M : MP} (hW : PW ac adr s Z M) {i a : Nat} (hi : i < xN s) {I : Nat → Int32} {bx nx : Value} (hI : Z a = some (.inr (5, itv I bx nx))) : Ct l D (tyl ac) t_Fra_rightOf 0 0 [.ref (adr (9 + 3 * i)), .ref a] M (PQ (some (.long (rgO (xG s i).1 I))) M) := by
  obtain ⟨ra, N, h0, hR, hZ, hk, rfl⟩ := hW
  exact Fra_rightOf (F := frF i (xG s i).1) h0 (List.mem_range.mpr (by omega)) (pC_g i) (hZ _ _ hI).2
theorem Fra_downOfW {l : Launch} {D : va_G} {ac : Nat → ClassId} {adr : Nat → Nat} {s : PS} {Z M : MP} (hW : PW ac adr s Z M) {i a : Nat} (hi : i < xN s) {I : Nat → Int32} {bx nx : Value} (hI : Z a = some (.inr (5, itv I bx nx))) : Ct l D (tyl ac) t_Fra_downOf 0 0 [.ref (adr (9 + 3 * i)), .ref a] M (PQ (some (.long (dnO (xG s i).1 I))) M) := by
  obtain ⟨ra, N, h0, hR, hZ, hk, rfl⟩ := hW
  exact Fra_downOf (F := frF i (xG s i).1) h0 (List.mem_range.mpr (by omega)) (pC_g i) (hZ _ _ hI).2
theorem Fra_behindW {l : Launch} {D : va_G} {ac : Nat → ClassId} {adr : Nat → Nat} {s : PS} {Z M : MP} (hW : PW ac adr s Z M) {i a : Nat} (hi : i < xN s) {I : Nat → Int32} {bx nx : Value} (hI : Z a = some (.inr (5, itv I bx nx))) : Ct l D (tyl ac) t_Fra_behind 0 0 [.ref (adr (9 + 3 * i)), .ref a] M (PQ (some (.long (beO (xG s i).1 I))) M) := by
  obtain ⟨ra, N, h0, hR, hZ, hk, rfl⟩ := hW
  exact Fra_behind (F := frF i (xG s i).1) h0 (List.mem_range.mpr (by omega)) (pC_g i) (hZ _ _ hI).2
def csn (F I : Nat → Int32) : Int32 := if I 0 = 1 then iszl (exO F I) else 1
def csb (F I : Nat → Int32) (v h : Int32) (x : Int64) : Int32 := if I 0 = 1 then iszl (exO F I) else if v = 0 then 1 else iszl (x - h.toInt64)
theorem iszl_1 {x : Int64} (h : ¬ iszl x = 0) : iszl x = 1 := by
  unfold iszl at h ⊢
  split
  · rfl
  · next g => rw [if_neg g] at h; exact absurd rfl h
set_option maxRecDepth 100000 in
set_option maxHeartbeats 4000000 in
theorem PgW_canStand0 {l : Launch} {D : va_G} {ac : Nat → ClassId} {adr : Nat → Nat} {s : PS} {Z M : MP} (hW : PW ac adr s Z M) {i a : Nat} (hi : i < xN s) {I : Nat → Int32} {nx : Value} (hI : Z a = some (.inr (5, itv I .null nx))) (x : Int64) : Ct l D (tyl ac) t_PgW_canStand 0 0 [.ref (adr (9 + 3 * i)), .ref a, .long x] M (PQ (some (.int (csn (xG s i).1 I))) M) := by
  refine Ct_of (by decide) (Nat.le_of_ble_eq_true rfl) ?_
  refine V_aload_n d_PgW_canStand_0 rfl (isr_ref _) ?_
  refine V_getf d_PgW_canStand_1 f_PgW_124 (PW_z hW hI) rfl ?_
  refine V_iconst (v := 1) d_PgW_canStand_4 (by decide) ?_
  refine V_icmp_ne 17 d_PgW_canStand_5 (by decide) (fun h5 => ?_) (fun h5 => ?_)
  · refine V_aload_n d_PgW_canStand_17 rfl (isr_ref _) ?_
    refine V_getf d_PgW_canStand_18 f_PgW_116 (PW_z hW hI) rfl ?_
    refine V_ifnull 50 (isr_null) d_PgW_canStand_21 (by decide) (fun h21 => ?_) (fun a21 h21 => ?_)
    · refine V_iconst (v := 1) d_PgW_canStand_50 (by decide) ?_
      refine V_goto 55 d_PgW_canStand_51 (by decide) ?_
      exact V_zreturn d_PgW_canStand_55 rfl nz1 ⟨by rw [csn, if_neg h5], rfl⟩
    · cases h21
  · refine V_aload_n d_PgW_canStand_8 rfl (isr_ref _) ?_
    refine V_aload_n d_PgW_canStand_9 rfl (isr_ref _) ?_
    refine V_callV (As := [.ref a]) (rest := []) (T := T_Fra) (N := 13) (PW_c hW (show 9 + 3 * i < 9 + 3 * xN s by omega) (fun _ => pC_g i)) rfl d_PgW_canStand_10 c_PgW_135 ⟨by decide, by decide⟩ rfl rfl (Nat.le_of_ble_eq_true rfl) rfl rfl (Fra_extentOfW hW hi hI) (fun x M1 hq9 => ?_)
    obtain ⟨rfl, rfl⟩ := hq9
    refine VS_ci1N d_PgW_canStand_13 c_PgW_138 (PF_isSize _) ⟨by decide, by decide⟩ (Nat.le_of_ble_eq_true rfl) ?_
    exact V_zreturn d_PgW_canStand_16 rfl (iszl_n _) ⟨by rw [csn, if_pos (Classical.not_not.mp h5)], rfl⟩
set_option maxRecDepth 100000 in
set_option maxHeartbeats 4000000 in
theorem PgW_canStand1 {l : Launch} {D : va_G} {ac : Nat → ClassId} {adr : Nat → Nat} {s : PS} {Z M : MP} (hW : PW ac adr s Z M) {q : Nat} {i a : Nat} (hi : i < xN s) {I : Nat → Int32} {nx : Value} (hI : Z a = some (.inr (5, itv I (.ref q) nx))) {v w h d it ne : Int32} {fi : Value} (hB : Z q = some (.inr (1, bxv v w h d fi it ne))) (x : Int64) : Ct l D (tyl ac) t_PgW_canStand 0 0 [.ref (adr (9 + 3 * i)), .ref a, .long x] M (PQ (some (.int (csb (xG s i).1 I v h x))) M) := by
  refine Ct_of (by decide) (Nat.le_of_ble_eq_true rfl) ?_
  refine V_aload_n d_PgW_canStand_0 rfl (isr_ref _) ?_
  refine V_getf d_PgW_canStand_1 f_PgW_124 (PW_z hW hI) rfl ?_
  refine V_iconst (v := 1) d_PgW_canStand_4 (by decide) ?_
  refine V_icmp_ne 17 d_PgW_canStand_5 (by decide) (fun h5 => ?_) (fun h5 => ?_)
  · refine V_aload_n d_PgW_canStand_17 rfl (isr_ref _) ?_
    refine V_getf d_PgW_canStand_18 f_PgW_116 (PW_z hW hI) rfl ?_
    refine V_ifnull 50 (isr_ref _) d_PgW_canStand_21 (by decide) (fun h21 => ?_) (fun a21 h21 => ?_)
    · cases h21
    · refine V_aload_n d_PgW_canStand_24 rfl (isr_ref _) ?_
      refine V_getf d_PgW_canStand_25 f_PgW_116 (PW_z hW hI) rfl ?_
      refine V_getf d_PgW_canStand_28 f_PgW_142 (PW_z hW hB) rfl ?_
      refine V_if_eq 50 d_PgW_canStand_31 (by decide) (fun h31 => ?_) (fun h31 => ?_)
      · refine V_iconst (v := 1) d_PgW_canStand_50 (by decide) ?_
        refine V_goto 55 d_PgW_canStand_51 (by decide) ?_
        exact V_zreturn d_PgW_canStand_55 rfl nz1 ⟨by rw [csb, if_neg h5, if_pos h31], rfl⟩
      · refine V_lload_n d_PgW_canStand_34 rfl ?_
        refine V_aload_n d_PgW_canStand_35 rfl (isr_ref _) ?_
        refine V_getf d_PgW_canStand_36 f_PgW_116 (PW_z hW hI) rfl ?_
        refine V_getf d_PgW_canStand_39 f_PgW_66 (PW_z hW hB) rfl ?_
        refine V_i2l d_PgW_canStand_42 ?_
        refine V_lsub d_PgW_canStand_43 ?_
        refine VS_ci1N d_PgW_canStand_44 c_PgW_138 (PF_isSize _) ⟨by decide, by decide⟩ (Nat.le_of_ble_eq_true rfl) ?_
        refine V_if_eq 54 d_PgW_canStand_47 (by decide) (fun h47 => ?_) (fun h47 => ?_)
        · refine V_iconst (v := 0) d_PgW_canStand_54 (by decide) ?_
          exact V_zreturn d_PgW_canStand_55 rfl nz0 ⟨by rw [csb, if_neg h5, if_neg h31, h47], rfl⟩
        · refine V_iconst (v := 1) d_PgW_canStand_50 (by decide) ?_
          refine V_goto 55 d_PgW_canStand_51 (by decide) ?_
          exact V_zreturn d_PgW_canStand_55 rfl nz1 ⟨by rw [csb, if_neg h5, if_neg h31, iszl_1 h47], rfl⟩
  · refine V_aload_n d_PgW_canStand_8 rfl (isr_ref _) ?_
    refine V_aload_n d_PgW_canStand_9 rfl (isr_ref _) ?_
    refine V_callV (As := [.ref a]) (rest := []) (T := T_Fra) (N := 13) (PW_c hW (show 9 + 3 * i < 9 + 3 * xN s by omega) (fun _ => pC_g i)) rfl d_PgW_canStand_10 c_PgW_135 ⟨by decide, by decide⟩ rfl rfl (Nat.le_of_ble_eq_true rfl) rfl rfl (Fra_extentOfW hW hi hI) (fun x M1 hq9 => ?_)
    obtain ⟨rfl, rfl⟩ := hq9
    refine VS_ci1N d_PgW_canStand_13 c_PgW_138 (PF_isSize _) ⟨by decide, by decide⟩ (Nat.le_of_ble_eq_true rfl) ?_
    exact V_zreturn d_PgW_canStand_16 rfl (iszl_n _) ⟨by rw [csb, if_pos (Classical.not_not.mp h5)], rfl⟩
def iwn (F I : Nat → Int32) : Int32 := if I 0 = 0 then 1 else if I 0 = 1 then (if 0 < exO F I ∧ 0 < wOf F I then 1 else 0) else 0
def iwb (fo : Option Nat) : Int32 := match fo with
  | none => 0
  | some _ => 1
set_option maxRecDepth 100000 in
set_option maxHeartbeats 4000000 in
theorem PgW_isWritten0 {l : Launch} {D : va_G} {ac : Nat → ClassId} {adr : Nat → Nat} {s : PS} {Z M : MP} (hW : PW ac adr s Z M) {i a : Nat} (hi : i < xN s) {I : Nat → Int32} {bx nx : Value} (hI : Z a = some (.inr (5, itv I bx nx))) (hk : I 0 = 0 ∨ I 0 = 1 ∨ I 0 = 2) : Ct l D (tyl ac) t_PgW_isWritten 0 0 [.ref (adr (9 + 3 * i)), .ref a] M (PQ (some (.int (iwn (xG s i).1 I))) M) := by
  refine Ct_of (by decide) (Nat.le_of_ble_eq_true rfl) ?_
  refine V_aload_n d_PgW_isWritten_0 rfl (isr_ref _) ?_
  refine V_getf d_PgW_isWritten_1 f_PgW_124 (PW_z hW hI) rfl ?_
  rcases hk with hk | hk | hk
  · refine V_eqi hk ?_
    refine V_tabIn 36 d_PgW_isWritten_4 (by decide) (by decide) rfl (by decide) ?_
    refine V_iconst (v := 1) d_PgW_isWritten_36 (by decide) ?_
    exact V_zreturn d_PgW_isWritten_37 rfl nz1 ⟨by rw [iwn, if_pos hk], rfl⟩
  · have k0 : ¬ I 0 = 0 := by rw [hk]; decide
    refine V_eqi hk ?_
    refine V_tabIn 38 d_PgW_isWritten_4 (by decide) (by decide) rfl (by decide) ?_
    refine V_aload_n d_PgW_isWritten_38 rfl (isr_ref _) ?_
    refine V_aload_n d_PgW_isWritten_39 rfl (isr_ref _) ?_
    refine V_callV (As := [.ref a]) (rest := []) (T := T_Fra) (N := 13) (PW_c hW (show 9 + 3 * i < 9 + 3 * xN s by omega) (fun _ => pC_g i)) rfl d_PgW_isWritten_40 c_PgW_135 ⟨by decide, by decide⟩ rfl rfl (Nat.le_of_ble_eq_true rfl) rfl rfl (Fra_extentOfW hW hi hI) (fun x M1 hq9 => ?_)
    obtain ⟨rfl, rfl⟩ := hq9
    refine V_lconst (v := 0) d_PgW_isWritten_43 (by decide) ?_
    refine V_lcmp d_PgW_isWritten_44 ?_
    refine V_if_le 60 d_PgW_isWritten_45 (by decide) (fun h45 => ?_) (fun h45 => ?_)
    · refine V_iconst (v := 0) d_PgW_isWritten_60 (by decide) ?_
      exact V_zreturn d_PgW_isWritten_61 rfl nz0 ⟨by rw [iwn, if_neg k0, if_pos hk, if_neg (fun z => (lg_cmp_le _ _).mp h45 |> fun y => absurd z.1 (Int64.not_lt.mpr y))], rfl⟩
    · refine V_aload_n d_PgW_isWritten_48 rfl (isr_ref _) ?_
      refine V_aload_n d_PgW_isWritten_49 rfl (isr_ref _) ?_
      refine V_callV (As := [.ref a]) (rest := []) (T := T_Fra) (N := 13) (PW_c hW (show 9 + 3 * i < 9 + 3 * xN s by omega) (fun _ => pC_g i)) rfl d_PgW_isWritten_50 c_PgW_145 ⟨by decide, by decide⟩ rfl rfl (Nat.le_of_ble_eq_true rfl) rfl rfl (Fra_widthOfW hW hi hI) (fun x M1 hq9 => ?_)
      obtain ⟨rfl, rfl⟩ := hq9
      refine V_if_le 60 d_PgW_isWritten_53 (by decide) (fun h53 => ?_) (fun h53 => ?_)
      · refine V_iconst (v := 0) d_PgW_isWritten_60 (by decide) ?_
        exact V_zreturn d_PgW_isWritten_61 rfl nz0 ⟨by rw [iwn, if_neg k0, if_pos hk, if_neg (fun z => absurd z.2 (Int32.not_lt.mpr h53))], rfl⟩
      · refine V_iconst (v := 1) d_PgW_isWritten_56 (by decide) ?_
        refine V_goto 61 d_PgW_isWritten_57 (by decide) ?_
        exact V_zreturn d_PgW_isWritten_61 rfl nz1 ⟨by rw [iwn, if_neg k0, if_pos hk, if_pos ⟨Int64.not_le.mp (fun y => h45 ((lg_cmp_le _ _).mpr y)), Int32.not_le.mp h53⟩], rfl⟩
  · have k0 : ¬ I 0 = 0 := by rw [hk]; decide
    have k1 : ¬ I 0 = 1 := by rw [hk]; decide
    refine V_eqi hk ?_
    refine V_tabIn 85 d_PgW_isWritten_4 (by decide) (by decide) rfl (by decide) ?_
    refine V_iconst (v := 0) d_PgW_isWritten_85 (by decide) ?_
    exact V_zreturn d_PgW_isWritten_86 rfl nz0 ⟨by rw [iwn, if_neg k0, if_neg k1], rfl⟩
set_option maxRecDepth 100000 in
set_option maxHeartbeats 4000000 in
theorem PgW_isWritten1 {l : Launch} {D : va_G} {ac : Nat → ClassId} {adr : Nat → Nat} {s : PS} {Z M : MP} (hW : PW ac adr s Z M) {i a q : Nat} {I : Nat → Int32} {nx : Value} {v w h d it ne : Int32} {fo : Option Nat} (hI : Z a = some (.inr (5, itv I (.ref q) nx))) (hB : Z q = some (.inr (1, bxv v w h d (va_rf fo) it ne))) (hk : I 0 = 3) : Ct l D (tyl ac) t_PgW_isWritten 0 0 [.ref (adr (9 + 3 * i)), .ref a] M (PQ (some (.int (iwb fo))) M) := by
  cases fo with
  | none =>
    refine Ct_of (by decide) (Nat.le_of_ble_eq_true rfl) ?_
    refine V_aload_n d_PgW_isWritten_0 rfl (isr_ref _) ?_
    refine V_getf d_PgW_isWritten_1 f_PgW_124 (PW_z hW hI) rfl ?_
    refine V_eqi hk ?_
    refine V_tabIn 62 d_PgW_isWritten_4 (by decide) (by decide) rfl (by decide) ?_
    refine V_aload_n d_PgW_isWritten_62 rfl (isr_ref _) ?_
    refine V_getf d_PgW_isWritten_63 f_PgW_116 (PW_z hW hI) rfl ?_
    refine V_ifnull 83 (isr_ref _) d_PgW_isWritten_66 (by decide) (fun h66 => ?_) (fun a66 h66 => ?_)
    · cases h66
    · refine V_aload_n d_PgW_isWritten_69 rfl (isr_ref _) ?_
      refine V_getf d_PgW_isWritten_70 f_PgW_116 (PW_z hW hI) rfl ?_
      refine V_getf d_PgW_isWritten_73 f_PgW_60 (PW_z hW hB) rfl ?_
      refine V_ifnull 83 (isr_null) d_PgW_isWritten_76 (by decide) (fun h76 => ?_) (fun a76 h76 => ?_)
      · refine V_iconst (v := 0) d_PgW_isWritten_83 (by decide) ?_
        exact V_zreturn d_PgW_isWritten_84 rfl nz0 ⟨rfl, rfl⟩
      · cases h76
  | some c =>
    refine Ct_of (by decide) (Nat.le_of_ble_eq_true rfl) ?_
    refine V_aload_n d_PgW_isWritten_0 rfl (isr_ref _) ?_
    refine V_getf d_PgW_isWritten_1 f_PgW_124 (PW_z hW hI) rfl ?_
    refine V_eqi hk ?_
    refine V_tabIn 62 d_PgW_isWritten_4 (by decide) (by decide) rfl (by decide) ?_
    refine V_aload_n d_PgW_isWritten_62 rfl (isr_ref _) ?_
    refine V_getf d_PgW_isWritten_63 f_PgW_116 (PW_z hW hI) rfl ?_
    refine V_ifnull 83 (isr_ref _) d_PgW_isWritten_66 (by decide) (fun h66 => ?_) (fun a66 h66 => ?_)
    · cases h66
    · refine V_aload_n d_PgW_isWritten_69 rfl (isr_ref _) ?_
      refine V_getf d_PgW_isWritten_70 f_PgW_116 (PW_z hW hI) rfl ?_
      refine V_getf d_PgW_isWritten_73 f_PgW_60 (PW_z hW hB) rfl ?_
      refine V_ifnull 83 (isr_ref _) d_PgW_isWritten_76 (by decide) (fun h76 => ?_) (fun a76 h76 => ?_)
      · cases h76
      · refine V_iconst (v := 1) d_PgW_isWritten_79 (by decide) ?_
        refine V_goto 84 d_PgW_isWritten_80 (by decide) ?_
        exact V_zreturn d_PgW_isWritten_84 rfl nz1 ⟨rfl, rfl⟩
def mvS (s : PS) (x y : Int32) : PS := if goA x (xT s 0) = 0 then uI (goS s 0 147 x) 27 1 else if goA y (xT s 1) = 0 then uI (goS (goS s 0 147 x) 1 161 y) 27 1 else goS (goS s 0 147 x) 1 161 y
def mvL (s : PS) (x y : Int32) : List (Int32 × Nat) := goL 147 x (xT s 0) ++ (if goA x (xT s 0) = 0 then [] else goL 161 y (xT s 1))
theorem mvS_F (s : PS) (x y : Int32) : xF (mvS s x y) = fwr (xF s) (mvL s x y) := by
  unfold mvS mvL
  split
  · rw [List.append_nil]; rfl
  · rw [fwr_app]
    split <;> rfl
theorem FE_0 {F : FI} {L : List (Int32 × Nat)} {jE : Nat} (h : FE F L jE) : FE F (L ++ []) jE := by rw [List.append_nil]; exact h
set_option maxRecDepth 100000 in
set_option maxHeartbeats 4000000 in
theorem PgW_moveTo {l : Launch} {D : va_G} {ac : Nat → ClassId} {adr : Nat → Nat} {s : PS} {Z M : MP} {jE : Nat} (hW : PW ac adr s Z M) {x y : Int32} (hE : FE (xF s) (mvL s x y) jE) : Ct l D (tyl ac) t_PgW_moveTo (bk jE (xF s) 0) (bs jE (xF s) 0) [.ref (adr 1), .int x, .int y] M (fun r M' => r = none ∧ PW ac adr (mvS s x y) Z M') := by
  unfold mvL at hE
  refine Ct_of (by decide) (Nat.le_of_ble_eq_true rfl) ?_
  refine V_aload_n d_PgW_moveTo_0 rfl (isr_ref _) ?_
  refine V_getf d_PgW_moveTo_1 f_PgW_30 (PW_c hW (by omega) (fun _ => rfl)) rfl ?_
  refine V_iload_n d_PgW_moveTo_4 rfl ?_
  refine V_aload_n d_PgW_moveTo_5 rfl (isr_ref _) ?_
  refine V_getf d_PgW_moveTo_6 f_PgW_12 (PW_c hW (by omega) (fun _ => rfl)) rfl ?_
  refine VW_call (L1 := goL 147 x (xT s 0)) (As := [.int x, .ref (adr 2)]) (rest := []) (T' := T_Trk) (Nn := 5) (if goA x (xT s 0) = 0 then [] else goL 161 y (xT s 1)) (hE) (PW_c (p := 4) hW (by omega) (fun _ => rfl)) rfl d_PgW_moveTo_9 c_PgW_149 ⟨by decide, by decide⟩ rfl rfl (Nat.le_of_ble_eq_true rfl) (fun hE => Trk_goTo hW (isTk0 ac adr) hE) (fun r M1 hq9 hE => ?_)
  obtain ⟨rfl, hW⟩ := hq9
  refine V_if_eq 30 d_PgW_moveTo_12 (by decide) (fun h12 => ?_) (fun h12 => ?_)
  · refine V_aload_n d_PgW_moveTo_30 rfl (isr_ref _) ?_
    refine V_iconst (v := 1) d_PgW_moveTo_31 (by decide) ?_
    refine VW_put hW (by omega) d_PgW_moveTo_32 f_PgW_56 (fun _ => rfl) (by decide) (by decide) (Nat.le_of_ble_eq_true rfl) (fun _ => pC_w27 _) rfl rfl (fun M1 hW => ?_)
    exact V_return d_PgW_moveTo_35 rfl ⟨rfl, by rw [mvS, if_pos h12]; exact hW⟩
  · rw [if_neg h12] at hE
    refine V_aload_n d_PgW_moveTo_15 rfl (isr_ref _) ?_
    refine V_getf d_PgW_moveTo_16 f_PgW_34 (PW_c hW (by omega) (fun _ => rfl)) rfl ?_
    refine V_iload_n d_PgW_moveTo_19 rfl ?_
    refine V_aload_n d_PgW_moveTo_20 rfl (isr_ref _) ?_
    refine V_getf d_PgW_moveTo_21 f_PgW_12 (PW_c hW (by omega) (fun _ => rfl)) rfl ?_
    refine VW_call (L1 := goL 161 y (xT (goS s 0 147 x) 1)) (As := [.int y, .ref (adr 2)]) (rest := []) (T' := T_Trk) (Nn := 5) [] (FE_0 hE) (PW_c (p := 5) hW (by omega) (fun _ => rfl)) rfl d_PgW_moveTo_24 c_PgW_149 ⟨by decide, by decide⟩ rfl rfl (Nat.le_of_ble_eq_true rfl) (fun hE => Trk_goTo hW (isTk1 ac adr) hE) (fun r M1 hq9 hE => ?_)
    obtain ⟨rfl, hW⟩ := hq9
    refine V_if_ne 35 d_PgW_moveTo_27 (by decide) (fun h27 => ?_) (fun h27 => ?_)
    · have h27 : ¬ goA y (xT s 1) = 0 := h27
      exact V_return d_PgW_moveTo_35 rfl ⟨rfl, by rw [mvS, if_neg h12, if_neg h27]; exact hW⟩
    · have h27 : ¬ ¬ goA y (xT s 1) = 0 := h27
      refine V_aload_n d_PgW_moveTo_30 rfl (isr_ref _) ?_
      refine V_iconst (v := 1) d_PgW_moveTo_31 (by decide) ?_
      refine VW_put hW (by omega) d_PgW_moveTo_32 f_PgW_56 (fun _ => rfl) (by decide) (by decide) (Nat.le_of_ble_eq_true rfl) (fun _ => pC_w27 _) rfl rfl (fun M1 hW => ?_)
      exact V_return d_PgW_moveTo_35 rfl ⟨rfl, by rw [mvS, if_neg h12, if_pos (Classical.not_not.mp h27)]; exact hW⟩
