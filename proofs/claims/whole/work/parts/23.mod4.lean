/-! nested, empty, make -/
/-- whether box j reaches over i -/
def nst1 (r : RS) (i j : Nat) : Nat := if ¬ isb r j = 0 ∧ nI i < nI j + gB r 7 j then 1 else 0
def nstc (r : RS) (a i : Nat) : Nat → Nat
  | 0 => 0
  | n + 1 => nstc r a i n + nst1 r i (a + n)
def nstx (r : RS) (a i : Nat) : Nat := if isb r i = 0 then 0 else nstc r a i (i + 1 - a)
def nstm (r : RS) (a : Nat) : Nat → Nat
  | 0 => 0
  | n + 1 => max (nstm r a n) (nstx r a (a + n))
theorem nst1_le (r : RS) (i j : Nat) : nst1 r i j ≤ 1 := by unfold nst1; split <;> omega
theorem nstc_le (r : RS) (a i n : Nat) : nstc r a i n ≤ n := by
  induction n with
  | zero => exact Nat.le_refl 0
  | succ n ih => have := nst1_le r i (a + n); show nstc r a i n + nst1 r i (a + n) ≤ n + 1; omega
theorem nstx_le (r : RS) (a i : Nat) : nstx r a i ≤ i + 1 - a := by
  unfold nstx
  split
  · omega
  · exact nstc_le r a i _
theorem nstm_le (r : RS) (a n : Nat) : nstm r a n ≤ n := by
  induction n with
  | zero => exact Nat.le_refl 0
  | succ n ih => have := nstx_le r a (a + n); show max (nstm r a n) (nstx r a (a + n)) ≤ n + 1; omega
/-- forward by n places, m items from i on; backward -/
def mvd (n : Nat) : Nat → RS → Nat → RS
  | 0, r, _ => r
  | m + 1, r, i => mvd n m (mv r i (i - n)) (i + 1)
def mvu (n p : Nat) : Nat → RS → RS
  | 0, r => r
  | m + 1, r => mvu n p m (mv r (p + m) (p + m + n))
set_option maxRecDepth 100000 in
set_option maxHeartbeats 4000000 in
theorem Mod_nested_17 {l : Launch} {D : va_G} {ac : Nat → ClassId} {o : Nat} {ad : Nat → Nat} {r : RS} {M0 : MP} (hA : rAD o ad) {a b i q : Nat} (hi : i < b) (hai : a ≤ i) (hb2 : b < 3100) (hb : ¬ isb r i = 0) (hK : V l D (tyl ac) t_Mod_nested 0 0 73 [(6, .int (nI (i + 1))), (5, .int (nI (nstc r a i (i + 1 - a)))), (4, .int (nI i)), (3, .int (nI q)), (0, .ref o), (1, .int (nI a)), (2, .int (nI b))] [] (rM ac o ad r M0) (fun rv M' => rv = some (.int (nI (nstm r a (b - a)))) ∧ M' = rM ac o ad (r) M0)) : ∀ n j : Nat, j + n = i + 1 → a ≤ j → j ≤ i + 1 → V l D (tyl ac) t_Mod_nested 0 0 17 [(6, .int (nI j)), (5, .int (nI (nstc r a i (j - a)))), (4, .int (nI i)), (3, .int (nI q)), (0, .ref o), (1, .int (nI a)), (2, .int (nI b))] [] (rM ac o ad r M0) (fun rv M' => rv = some (.int (nI (nstm r a (b - a)))) ∧ M' = rM ac o ad (r) M0) := by
  intro n
  induction n with
  | zero =>
    intro j h1 h2 h3
    refine V_iload d_Mod_nested_17 rfl ?_
    refine V_iload d_Mod_nested_19 rfl ?_
    refine V_icmp_gt 73 d_Mod_nested_21 (by decide) (fun h21 => ?_) (fun h21 => ?_)
    · have hj : j = i + 1 := by omega
      subst hj
      exact hK
    · exact absurd (nI_lt (show i < j by omega) (by omega)) h21
  | succ n ih =>
    intro j h1 h2 h3
    refine V_iload d_Mod_nested_17 rfl ?_
    refine V_iload d_Mod_nested_19 rfl ?_
    refine V_icmp_gt 73 d_Mod_nested_21 (by decide) (fun h21 => ?_) (fun h21 => ?_)
    · exact absurd h21 (nI_nlt (by omega) (by omega))
    · refine V_ar_n d_Mod_nested_24 rfl ?_
      refine V_iload d_Mod_nested_25 rfl ?_
      refine VR_ci1 d_Mod_nested_27 c_Mod_116 (Mod_isBox hA (by omega)) ⟨by decide, by decide⟩ rfl (Nat.le_of_ble_eq_true rfl) ?_
      refine V_if_eq 73 d_Mod_nested_30 (by decide) (fun h30 => ?_) (fun h30 => ?_)
      · exact absurd h30 hb
      · have mg : ∀ x : Int32, x = nI (nst1 r i j) → V l D (tyl ac) t_Mod_nested 0 0 64 [(6, .int (nI j)), (5, .int (nI (nstc r a i (j - a)))), (4, .int (nI i)), (3, .int (nI q)), (0, .ref o), (1, .int (nI a)), (2, .int (nI b))] [.int x, .int (nI (nstc r a i (j - a)))] (rM ac o ad r M0) (fun rv M' => rv = some (.int (nI (nstm r a (b - a)))) ∧ M' = rM ac o ad (r) M0) := by
          intro x ex
          subst ex
          refine V_iadd d_Mod_nested_64 ?_
          refine V_eqi (show _ = nI (nstc r a i (j + 1 - a)) from by rw [nI_add, show j + 1 - a = (j - a) + 1 by omega]; show _ = nI (nstc r a i (j - a) + nst1 r i (a + (j - a))); rw [show a + (j - a) = j by omega]) ?_
          refine V_istore (lv' := [(5, .int (nI (nstc r a i (j + 1 - a)))), (6, .int (nI j)), (4, .int (nI i)), (3, .int (nI q)), (0, .ref o), (1, .int (nI a)), (2, .int (nI b))]) d_Mod_nested_65 (by decide) rfl ?_
          refine V_iinc (v := nI (j + 1)) (lv' := [(6, .int (nI (j + 1))), (5, .int (nI (nstc r a i (j + 1 - a)))), (4, .int (nI i)), (3, .int (nI q)), (0, .ref o), (1, .int (nI a)), (2, .int (nI b))]) 1 d_Mod_nested_67 rfl (nI_1 j) (by decide) rfl ?_
          refine V_goto 17 d_Mod_nested_70 (by decide) ?_
          exact ih (j + 1) (by omega) (by omega) (by omega)
        refine V_iload d_Mod_nested_33 rfl ?_
        refine V_ar_n d_Mod_nested_35 rfl ?_
        refine V_iload d_Mod_nested_36 rfl ?_
        refine VR_ci1 d_Mod_nested_38 c_Mod_116 (Mod_isBox hA (by omega)) ⟨by decide, by decide⟩ rfl (Nat.le_of_ble_eq_true rfl) ?_
        refine V_if_eq 63 d_Mod_nested_41 (by decide) (fun h41 => ?_) (fun h41 => ?_)
        · refine V_iconst (v := 0) d_Mod_nested_63 (by decide) ?_
          exact mg 0 (by rw [nst1, if_neg (fun z => z.1 h41)]; rfl)
        · refine V_iload d_Mod_nested_44 rfl ?_
          refine V_ar_n d_Mod_nested_46 rfl ?_
          refine VR_geta d_Mod_nested_47 f_Mod_28 (by decide) ?_
          refine V_iload d_Mod_nested_50 rfl ?_
          refine VR_iald hA d_Mod_nested_52 rfl (by omega) (by decide) ?_
          refine V_iadd d_Mod_nested_53 ?_
          refine V_iload d_Mod_nested_54 rfl ?_
          refine V_icmp_le 63 d_Mod_nested_56 (by decide) (fun h56 => ?_) (fun h56 => ?_)
          · refine V_iconst (v := 0) d_Mod_nested_63 (by decide) ?_
            exact mg 0 (by rw [nst1, if_neg (fun z => absurd h56 (Int32.not_le.mpr z.2))]; rfl)
          · refine V_iconst (v := 1) d_Mod_nested_59 (by decide) ?_
            refine V_goto 64 d_Mod_nested_60 (by decide) ?_
            exact mg 1 (by rw [nst1, if_pos ⟨h41, Int32.not_le.mp h56⟩]; rfl)
theorem V_lv {l : Launch} {D : va_G} {tys : TY} {t : MT} {k n pc : Nat} {lv lv' : List (Nat × Value)} {st : List Value} {M : MP} {Q : Option Value → MP → Prop} (ks : List Nat) (hl' : lv_pick lv ks = lv') (h : V l D tys t k n pc lv' st M Q) : V l D tys t k n pc lv st M Q := fun A p e s m args below meth c C k0 n0 H locs cells slots ls hM hS hl hk hn => h A p e s m args below meth c C k0 n0 H locs cells slots ls hM hS (lv_sub hl ks hl') hk hn
set_option maxRecDepth 100000 in
set_option maxHeartbeats 4000000 in
theorem Mod_nested_73 {l : Launch} {D : va_G} {ac : Nat → ClassId} {o : Nat} {ad : Nat → Nat} {r : RS} {M0 : MP} {a b i c : Nat} {x6 : Int32} (hi : i < b) (hai : a ≤ i) (hb2 : b < 3100) (hc : c = nstx r a i) (hK : V l D (tyl ac) t_Mod_nested 0 0 5 [(4, .int (nI (i + 1))), (3, .int (nI (nstm r a (i + 1 - a)))), (0, .ref o), (1, .int (nI a)), (2, .int (nI b))] [] (rM ac o ad r M0) (fun rv M' => rv = some (.int (nI (nstm r a (b - a)))) ∧ M' = rM ac o ad (r) M0)) : V l D (tyl ac) t_Mod_nested 0 0 73 [(6, .int x6), (5, .int (nI c)), (4, .int (nI i)), (3, .int (nI (nstm r a (i - a)))), (0, .ref o), (1, .int (nI a)), (2, .int (nI b))] [] (rM ac o ad r M0) (fun rv M' => rv = some (.int (nI (nstm r a (b - a)))) ∧ M' = rM ac o ad (r) M0) := by
  have hmx : nstm r a (i + 1 - a) = max (nstm r a (i - a)) c := by rw [hc, show i + 1 - a = (i - a) + 1 by omega]; show max _ (nstx r a (a + (i - a))) = _; rw [show a + (i - a) = i by omega]
  have hle := nstm_le r a (i - a)
  have hlx := nstx_le r a i
  refine V_iload d_Mod_nested_73 rfl ?_
  refine V_iload_n d_Mod_nested_75 rfl ?_
  refine V_icmp_le 84 d_Mod_nested_76 (by decide) (fun h76 => ?_) (fun h76 => ?_)
  · have hcm : c ≤ nstm r a (i - a) := (nI_leI (by omega) (by omega)).mp h76
    refine V_iload_n d_Mod_nested_84 rfl ?_
    refine V_eqi (show _ = nI (nstm r a (i + 1 - a)) from by rw [hmx]; congr 1; omega) ?_
    refine V_istore_n (lv' := [(3, .int (nI (nstm r a (i + 1 - a)))), (6, .int x6), (5, .int (nI c)), (4, .int (nI i)), (0, .ref o), (1, .int (nI a)), (2, .int (nI b))]) d_Mod_nested_85 (by decide) rfl ?_
    refine V_iinc (v := nI (i + 1)) (lv' := [(4, .int (nI (i + 1))), (3, .int (nI (nstm r a (i + 1 - a)))), (6, .int x6), (5, .int (nI c)), (0, .ref o), (1, .int (nI a)), (2, .int (nI b))]) 3 d_Mod_nested_86 rfl (nI_1 i) (by decide) rfl ?_
    refine V_goto 5 d_Mod_nested_89 (by decide) ?_
    exact V_lv [0, 1, 4, 5, 6] rfl hK
  · have hcm : nstm r a (i - a) < c := (nI_ltI (by omega) (by omega)).mp (Int32.not_le.mp h76)
    refine V_iload d_Mod_nested_79 rfl ?_
    refine V_goto 85 d_Mod_nested_81 (by decide) ?_
    refine V_eqi (show _ = nI (nstm r a (i + 1 - a)) from by rw [hmx]; congr 1; omega) ?_
    refine V_istore_n (lv' := [(3, .int (nI (nstm r a (i + 1 - a)))), (6, .int x6), (5, .int (nI c)), (4, .int (nI i)), (0, .ref o), (1, .int (nI a)), (2, .int (nI b))]) d_Mod_nested_85 (by decide) rfl ?_
    refine V_iinc (v := nI (i + 1)) (lv' := [(4, .int (nI (i + 1))), (3, .int (nI (nstm r a (i + 1 - a)))), (6, .int x6), (5, .int (nI c)), (0, .ref o), (1, .int (nI a)), (2, .int (nI b))]) 3 d_Mod_nested_86 rfl (nI_1 i) (by decide) rfl ?_
    refine V_goto 5 d_Mod_nested_89 (by decide) ?_
    exact V_lv [0, 1, 4, 5, 6] rfl hK
set_option maxRecDepth 100000 in
set_option maxHeartbeats 4000000 in
theorem Mod_nested_5 {l : Launch} {D : va_G} {ac : Nat → ClassId} {o : Nat} {ad : Nat → Nat} {r : RS} {M0 : MP} (hA : rAD o ad) {a b : Nat} (hb2 : b < 3100) : ∀ n i : Nat, i + n = b → a ≤ i → V l D (tyl ac) t_Mod_nested 0 0 5 [(4, .int (nI i)), (3, .int (nI (nstm r a (i - a)))), (0, .ref o), (1, .int (nI a)), (2, .int (nI b))] [] (rM ac o ad r M0) (fun rv M' => rv = some (.int (nI (nstm r a (b - a)))) ∧ M' = rM ac o ad (r) M0) := by
  intro n
  induction n with
  | zero =>
    intro i h1 h2
    refine V_iload d_Mod_nested_5 rfl ?_
    refine V_iload_n d_Mod_nested_7 rfl ?_
    refine V_icmp_ge 92 d_Mod_nested_8 (by decide) (fun h8 => ?_) (fun h8 => ?_)
    · refine V_iload_n d_Mod_nested_92 rfl ?_
      exact V_ireturn d_Mod_nested_93 rfl ⟨by rw [show i = b by omega], rfl⟩
    · exact absurd (nI_le (show b ≤ i by omega) (by omega)) h8
  | succ n ih =>
    intro i h1 h2
    have hi2 : i < b := by omega
    refine V_iload d_Mod_nested_5 rfl ?_
    refine V_iload_n d_Mod_nested_7 rfl ?_
    refine V_icmp_ge 92 d_Mod_nested_8 (by decide) (fun h8 => ?_) (fun h8 => ?_)
    · exact absurd h8 (nI_ge (by omega) (by omega))
    · have hK := ih (i + 1) (by omega) (by omega)
      refine V_iconst (v := nI 0) d_Mod_nested_11 (by decide) ?_
      refine V_istore (lv' := [(5, .int (nI 0)), (4, .int (nI i)), (3, .int (nI (nstm r a (i - a)))), (0, .ref o), (1, .int (nI a)), (2, .int (nI b))]) d_Mod_nested_12 (by decide) rfl ?_
      refine V_iload_n d_Mod_nested_14 rfl ?_
      refine V_istore (lv' := [(6, .int (nI a)), (5, .int (nI 0)), (4, .int (nI i)), (3, .int (nI (nstm r a (i - a)))), (0, .ref o), (1, .int (nI a)), (2, .int (nI b))]) d_Mod_nested_15 (by decide) rfl ?_
      by_cases hb : isb r i = 0
      · refine V_iload d_Mod_nested_17 rfl ?_
        refine V_iload d_Mod_nested_19 rfl ?_
        refine V_icmp_gt 73 d_Mod_nested_21 (by decide) (fun h21 => ?_) (fun h21 => ?_)
        · exact absurd h21 (nI_nlt (by omega) (by omega))
        · refine V_ar_n d_Mod_nested_24 rfl ?_
          refine V_iload d_Mod_nested_25 rfl ?_
          refine VR_ci1 d_Mod_nested_27 c_Mod_116 (Mod_isBox hA (by omega)) ⟨by decide, by decide⟩ rfl (Nat.le_of_ble_eq_true rfl) ?_
          refine V_if_eq 73 d_Mod_nested_30 (by decide) (fun h30 => ?_) (fun h30 => ?_)
          · exact Mod_nested_73 hi2 (by omega) hb2 (by rw [nstx, if_pos hb]) hK
          · exact absurd hb h30
      · have h73 := Mod_nested_73 (l := l) (D := D) (ac := ac) (o := o) (ad := ad) (M0 := M0) (x6 := nI (i + 1)) hi2 (by omega) hb2 (show nstc r a i (i + 1 - a) = nstx r a i by rw [nstx, if_neg hb]) hK
        have h17 := Mod_nested_17 hA hi2 (by omega) hb2 hb h73 (i + 1 - a) a (by omega) (by omega) (by omega)
        rw [Nat.sub_self] at h17
        exact h17
set_option maxRecDepth 100000 in
set_option maxHeartbeats 4000000 in
theorem Mod_nested {l : Launch} {D : va_G} {ac : Nat → ClassId} {o : Nat} {ad : Nat → Nat} {r : RS} (hA : rAD o ad) {a b : Nat} (hab : a ≤ b) (hb2 : b < 3100) : RCi l D ac o ad t_Mod_nested [.int (nI a), .int (nI b)] r (nI (nstm r a (b - a))) r := fun M0 => by
  refine Ct_of (by decide) (Nat.le_of_ble_eq_true rfl) ?_
  refine V_iconst (v := nI 0) d_Mod_nested_0 (by decide) ?_
  refine V_istore_n (lv' := [(3, .int (nI 0)), (0, .ref o), (1, .int (nI a)), (2, .int (nI b))]) d_Mod_nested_1 (by decide) rfl ?_
  refine V_iload_n d_Mod_nested_2 rfl ?_
  refine V_istore (lv' := [(4, .int (nI a)), (3, .int (nI 0)), (0, .ref o), (1, .int (nI a)), (2, .int (nI b))]) d_Mod_nested_3 (by decide) rfl ?_
  have h5 := Mod_nested_5 (l := l) (D := D) (ac := ac) (r := r) (M0 := M0) hA hb2 (b - a) a (by omega) (Nat.le_refl a)
  rw [Nat.sub_self] at h5
  exact h5
