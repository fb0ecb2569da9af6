/-! The reference's methods that build: font, open, add, character, rule, space. -/
def w1 (r : RS) (k e : Nat) (v : Int32) : RS := sB r k (upd (gB r k) e v)
abbrev fok (x s d : Int32) : Prop := ¬ x < 0 ∧ ¬ 31 < x ∧ ¬ s < 0 ∧ ¬ d < 0
def fnt (r : RS) (x s d : Int32) : RS := if fok x s d then w1 (w1 (sF r 0 0) 13 x.toNatClampNeg s) 14 x.toNatClampNeg d else sF r 0 0
def opn (r : RS) (L : Nat) (b : Int32) : RS := if L = 100 then sF r 0 0 else sF (w1 (w1 (sF r 0 0) 9 L (gF r 11)) 10 L (vp_nar .boolean b)) 8 (nI (L + 1))
def isv (r : RS) (L : Nat) : Int32 := if 0 < L ∧ ¬ gB r 10 (L - 1) = 0 then 1 else 0
def put1 (r : RS) (e : Nat) (k w h d s c : Int32) : RS := sF (w1 (w1 (w1 (w1 (w1 (w1 (w1 r 1 e k) 2 e w) 3 e h) 4 e d) 5 e s) 6 e c) 7 e 1) 11 (nI (e + 1))
abbrev aok (r : RS) (b : Int32) : Prop := ¬ b = 0 ∧ ¬ gF r 8 = 0 ∧ ¬ hrm r 1 = 0
def addv (r : RS) (b : Int32) : Int32 := if aok r b then 1 else 0
def adds (r : RS) (e : Nat) (b k w h d s c : Int32) : RS := if aok r b then put1 (sF r 0 0) e k w h d s c else sF r 0 0
theorem nI_31 {x : Int32} (h0 : ¬ x < 0) (h1 : ¬ 31 < x) : ∃ m, m < 32 ∧ x = nI m := by
  obtain ⟨j, hj, e⟩ := nI_of2 (x := x) (M := 31) (n := 31) (by decide) h0 (Int32.not_lt.mp h1)
  exact ⟨j, by omega, e⟩
set_option maxRecDepth 100000 in
set_option maxHeartbeats 4000000 in
theorem Mod_font {l : Launch} {D : va_G} {ac : Nat → ClassId} {o : Nat} {ad : Nat → Nat} {r : RS} (hA : rAD o ad) (x s d : Int32) : RCi l D ac o ad t_Mod_font [.int x, .int s, .int d] r (if fok x s d then 1 else 0) (fnt r x s d) := fun M0 => by
  refine Ct_of (by decide) (Nat.le_of_ble_eq_true rfl) ?_
  refine V_ar_n d_Mod_font_0 rfl ?_
  refine V_iconst (v := 0) d_Mod_font_1 (by decide) ?_
  refine VR_puti d_Mod_font_2 f_Mod_81 (by decide) ?_
  refine V_iload_n d_Mod_font_5 rfl ?_
  refine V_if_lt 23 d_Mod_font_6 (by decide) (fun h6 => ?_) (fun h6 => ?_)
  · refine V_iconst (v := 0) d_Mod_font_23 (by decide) ?_
    exact V_zreturn d_Mod_font_24 rfl nz0 ⟨by rw [if_neg (fun z => z.1 h6)], by rw [fnt, if_neg (fun z => z.1 h6)]⟩
  · refine V_iload_n d_Mod_font_9 rfl ?_
    refine V_bipush (v := 31) d_Mod_font_10 (by decide) ?_
    refine V_icmp_gt 23 d_Mod_font_12 (by decide) (fun h12 => ?_) (fun h12 => ?_)
    · refine V_iconst (v := 0) d_Mod_font_23 (by decide) ?_
      exact V_zreturn d_Mod_font_24 rfl nz0 ⟨by rw [if_neg (fun z => z.2.1 h12)], by rw [fnt, if_neg (fun z => z.2.1 h12)]⟩
    · refine V_iload_n d_Mod_font_15 rfl ?_
      refine V_if_lt 23 d_Mod_font_16 (by decide) (fun h16 => ?_) (fun h16 => ?_)
      · refine V_iconst (v := 0) d_Mod_font_23 (by decide) ?_
        exact V_zreturn d_Mod_font_24 rfl nz0 ⟨by rw [if_neg (fun z => z.2.2.1 h16)], by rw [fnt, if_neg (fun z => z.2.2.1 h16)]⟩
      · refine V_iload_n d_Mod_font_19 rfl ?_
        refine V_if_ge 25 d_Mod_font_20 (by decide) (fun h20 => ?_) (fun h20 => ?_)
        · obtain ⟨m, hm, rfl⟩ := nI_31 h6 h12
          refine V_ar_n d_Mod_font_25 rfl ?_
          refine VR_geta d_Mod_font_26 f_Mod_41 (by decide) ?_
          refine V_iload_n d_Mod_font_29 rfl ?_
          refine V_iload_n d_Mod_font_30 rfl ?_
          refine VR_iast hA d_Mod_font_31 rfl (by omega) (by decide) ?_
          refine V_ar_n d_Mod_font_32 rfl ?_
          refine VR_geta d_Mod_font_33 f_Mod_44 (by decide) ?_
          refine V_iload_n d_Mod_font_36 rfl ?_
          refine V_iload_n d_Mod_font_37 rfl ?_
          refine VR_iast hA d_Mod_font_38 rfl (by omega) (by decide) ?_
          refine V_iconst (v := 1) d_Mod_font_39 (by decide) ?_
          have hok : fok (nI m) s d := ⟨h6, h12, h16, fun z => absurd h20 (Int32.not_le.mpr z)⟩
          exact V_zreturn d_Mod_font_40 rfl nz1 ⟨by rw [if_pos hok], by rw [fnt, if_pos hok, nI_clamp (by omega)]; rfl⟩
        · refine V_iconst (v := 0) d_Mod_font_23 (by decide) ?_
          exact V_zreturn d_Mod_font_24 rfl nz0 ⟨by rw [if_neg (fun z => h20 (Int32.not_lt.mp z.2.2.2))], by rw [fnt, if_neg (fun z => h20 (Int32.not_lt.mp z.2.2.2))]⟩
set_option maxRecDepth 100000 in
set_option maxHeartbeats 4000000 in
theorem Mod_open {l : Launch} {D : va_G} {ac : Nat → ClassId} {o : Nat} {ad : Nat → Nat} {r : RS} (hA : rAD o ad) {L : Nat} (hL : gF r 8 = nI L) (hL2 : L ≤ 100) (b : Int32) : RCi l D ac o ad t_Mod_open [.int b] r (if L = 100 then 0 else 1) (opn r L b) := fun M0 => by
  refine Ct_of (by decide) (Nat.le_of_ble_eq_true rfl) ?_
  refine V_ar_n d_Mod_open_0 rfl ?_
  refine V_iconst (v := 0) d_Mod_open_1 (by decide) ?_
  refine VR_puti d_Mod_open_2 f_Mod_81 (by decide) ?_
  refine V_ar_n d_Mod_open_5 rfl ?_
  refine VR_geti d_Mod_open_6 f_Mod_97 (by decide) ?_
  refine V_eqi (show _ = nI L from hL) ?_
  refine V_bipush (v := nI 100) d_Mod_open_9 (by decide) ?_
  refine V_icmp_ne 16 d_Mod_open_11 (by decide) (fun h11 => ?_) (fun h11 => ?_)
  · have hne : L ≠ 100 := fun z => h11 (by rw [z])
    refine V_ar_n d_Mod_open_16 rfl ?_
    refine VR_geta d_Mod_open_17 f_Mod_31 (by decide) ?_
    refine V_ar_n d_Mod_open_20 rfl ?_
    refine VR_geti d_Mod_open_21 f_Mod_97 (by decide) ?_
    refine V_eqi (show _ = nI L from hL) ?_
    refine V_ar_n d_Mod_open_24 rfl ?_
    refine VR_geti d_Mod_open_25 f_Mod_90 (by decide) ?_
    refine VR_iast hA d_Mod_open_28 rfl (by omega) (by decide) ?_
    refine V_ar_n d_Mod_open_29 rfl ?_
    refine VR_geta d_Mod_open_30 f_Mod_34 (by decide) ?_
    refine V_ar_n d_Mod_open_33 rfl ?_
    refine VR_geti d_Mod_open_34 f_Mod_97 (by decide) ?_
    refine V_eqi (show _ = nI L from hL) ?_
    refine V_iload_n d_Mod_open_37 rfl ?_
    refine VR_zast hA d_Mod_open_38 rfl (by omega) (by decide) ?_
    refine V_ar_n d_Mod_open_39 rfl ?_
    refine V_dup d_Mod_open_40 rfl ?_
    refine VR_geti d_Mod_open_41 f_Mod_97 (by decide) ?_
    refine V_eqi (show _ = nI L from hL) ?_
    refine V_iconst (v := 1) d_Mod_open_44 (by decide) ?_
    refine V_iadd d_Mod_open_45 ?_
    refine V_eqi (nI_1 L) ?_
    refine VR_puti d_Mod_open_46 f_Mod_97 (by decide) ?_
    refine V_iconst (v := 1) d_Mod_open_49 (by decide) ?_
    exact V_zreturn d_Mod_open_50 rfl nz1 ⟨by rw [if_neg hne], by rw [opn, if_neg hne]; rfl⟩
  · have hne : L = 100 := (nI_eq (by omega) (by decide)).mp (Classical.not_not.mp h11)
    refine V_iconst (v := 0) d_Mod_open_14 (by decide) ?_
    exact V_zreturn d_Mod_open_15 rfl nz0 ⟨by rw [if_pos hne], by rw [opn, if_pos hne]⟩
set_option maxRecDepth 100000 in
set_option maxHeartbeats 4000000 in
theorem Mod_isVertical {l : Launch} {D : va_G} {ac : Nat → ClassId} {o : Nat} {ad : Nat → Nat} {r : RS} (hA : rAD o ad) {L : Nat} (hL : gF r 8 = nI L) (hL2 : L ≤ 100) : RCi l D ac o ad t_Mod_isVertical [] r (isv r L) r := fun M0 => by
  refine Ct_of (by decide) (Nat.le_of_ble_eq_true rfl) ?_
  refine V_ar_n d_Mod_isVertical_0 rfl ?_
  refine VR_geti d_Mod_isVertical_1 f_Mod_97 (by decide) ?_
  refine V_eqi (show _ = nI L from hL) ?_
  refine V_if_le 25 d_Mod_isVertical_4 (by decide) (fun h4 => ?_) (fun h4 => ?_)
  · have h0 : ¬ 0 < L := fun z => absurd h4 (nI_nle z (by omega))
    refine V_iconst (v := 0) d_Mod_isVertical_25 (by decide) ?_
    exact V_zreturn d_Mod_isVertical_26 rfl nz0 ⟨by rw [isv, if_neg (fun z => h0 z.1)], rfl⟩
  · have h0 : 0 < L := by
      rcases Nat.eq_zero_or_pos L with z | z
      · exact absurd (by rw [z]; decide) h4
      · exact z
    refine V_ar_n d_Mod_isVertical_7 rfl ?_
    refine VR_geta d_Mod_isVertical_8 f_Mod_34 (by decide) ?_
    refine V_ar_n d_Mod_isVertical_11 rfl ?_
    refine VR_geti d_Mod_isVertical_12 f_Mod_97 (by decide) ?_
    refine V_eqi (show _ = nI L from hL) ?_
    refine V_iconst (v := 1) d_Mod_isVertical_15 (by decide) ?_
    refine V_isub d_Mod_isVertical_16 ?_
    refine V_eqi (show nI L - 1 = nI (L - 1) from pk_sub (b := 1) h0) ?_
    refine VR_zald hA d_Mod_isVertical_17 rfl (by omega) (by decide) ?_
    refine V_if_eq 25 d_Mod_isVertical_18 (by decide) (fun h18 => ?_) (fun h18 => ?_)
    · refine V_iconst (v := 0) d_Mod_isVertical_25 (by decide) ?_
      exact V_zreturn d_Mod_isVertical_26 rfl nz0 ⟨by rw [isv, if_neg (fun z => z.2 h18)], rfl⟩
    · refine V_iconst (v := 1) d_Mod_isVertical_21 (by decide) ?_
      refine V_goto 26 d_Mod_isVertical_22 (by decide) ?_
      exact V_zreturn d_Mod_isVertical_26 rfl nz1 ⟨by rw [isv, if_pos ⟨h0, h18⟩], rfl⟩
set_option maxRecDepth 100000 in
set_option maxHeartbeats 4000000 in
theorem Mod_add {l : Launch} {D : va_G} {ac : Nat → ClassId} {o : Nat} {ad : Nat → Nat} {r : RS} (hA : rAD o ad) {e : Nat} (he : gF r 11 = nI e) (he2 : e < 3100) (b k w h d s c : Int32) : RCi l D ac o ad t_Mod_add [.int b, .int k, .int w, .int h, .int d, .int s, .int c] r (addv r b) (adds r e b k w h d s c) := fun M0 => by
  refine Ct_of (by decide) (Nat.le_of_ble_eq_true rfl) ?_
  refine V_ar_n d_Mod_add_0 rfl ?_
  refine V_iconst (v := 0) d_Mod_add_1 (by decide) ?_
  refine VR_puti d_Mod_add_2 f_Mod_81 (by decide) ?_
  refine V_iload_n d_Mod_add_5 rfl ?_
  refine V_if_eq 24 d_Mod_add_6 (by decide) (fun h6 => ?_) (fun h6 => ?_)
  · refine V_iconst (v := 0) d_Mod_add_24 (by decide) ?_
    exact V_zreturn d_Mod_add_25 rfl nz0 ⟨by rw [addv, if_neg (fun z => z.1 h6)], by rw [adds, if_neg (fun z => z.1 h6)]⟩
  · refine V_ar_n d_Mod_add_9 rfl ?_
    refine VR_geti d_Mod_add_10 f_Mod_97 (by decide) ?_
    refine V_if_eq 24 d_Mod_add_13 (by decide) (fun h13 => ?_) (fun h13 => ?_)
    · refine V_iconst (v := 0) d_Mod_add_24 (by decide) ?_
      exact V_zreturn d_Mod_add_25 rfl nz0 ⟨by rw [addv, if_neg (fun z => z.2.1 h13)], by rw [adds, if_neg (fun z => z.2.1 h13)]⟩
    · refine V_ar_n d_Mod_add_16 rfl ?_
      refine V_iconst (v := 1) d_Mod_add_17 (by decide) ?_
      refine VR_ci1 d_Mod_add_18 c_Mod_100 (Mod_hasRoom hA 1) ⟨by decide, by decide⟩ rfl (Nat.le_of_ble_eq_true rfl) ?_
      refine V_if_ne 26 d_Mod_add_21 (by decide) (fun h21 => ?_) (fun h21 => ?_)
      · have hok : aok r b := ⟨h6, h13, h21⟩
        refine V_ar_n d_Mod_add_26 rfl ?_
        refine VR_geta d_Mod_add_27 f_Mod_7 (by decide) ?_
        refine V_ar_n d_Mod_add_30 rfl ?_
        refine VR_geti d_Mod_add_31 f_Mod_90 (by decide) ?_
        refine V_eqi (show _ = nI e from he) ?_
        refine V_iload_n d_Mod_add_34 rfl ?_
        refine VR_iast hA d_Mod_add_35 rfl (by omega) (by decide) ?_
        refine V_ar_n d_Mod_add_36 rfl ?_
        refine VR_geta d_Mod_add_37 f_Mod_13 (by decide) ?_
        refine V_ar_n d_Mod_add_40 rfl ?_
        refine VR_geti d_Mod_add_41 f_Mod_90 (by decide) ?_
        refine V_eqi (show _ = nI e from he) ?_
        refine V_iload_n d_Mod_add_44 rfl ?_
        refine VR_iast hA d_Mod_add_45 rfl (by omega) (by decide) ?_
        refine V_ar_n d_Mod_add_46 rfl ?_
        refine VR_geta d_Mod_add_47 f_Mod_16 (by decide) ?_
        refine V_ar_n d_Mod_add_50 rfl ?_
        refine VR_geti d_Mod_add_51 f_Mod_90 (by decide) ?_
        refine V_eqi (show _ = nI e from he) ?_
        refine V_iload d_Mod_add_54 rfl ?_
        refine VR_iast hA d_Mod_add_56 rfl (by omega) (by decide) ?_
        refine V_ar_n d_Mod_add_57 rfl ?_
        refine VR_geta d_Mod_add_58 f_Mod_19 (by decide) ?_
        refine V_ar_n d_Mod_add_61 rfl ?_
        refine VR_geti d_Mod_add_62 f_Mod_90 (by decide) ?_
        refine V_eqi (show _ = nI e from he) ?_
        refine V_iload d_Mod_add_65 rfl ?_
        refine VR_iast hA d_Mod_add_67 rfl (by omega) (by decide) ?_
        refine V_ar_n d_Mod_add_68 rfl ?_
        refine VR_geta d_Mod_add_69 f_Mod_22 (by decide) ?_
        refine V_ar_n d_Mod_add_72 rfl ?_
        refine VR_geti d_Mod_add_73 f_Mod_90 (by decide) ?_
        refine V_eqi (show _ = nI e from he) ?_
        refine V_iload d_Mod_add_76 rfl ?_
        refine VR_iast hA d_Mod_add_78 rfl (by omega) (by decide) ?_
        refine V_ar_n d_Mod_add_79 rfl ?_
        refine VR_geta d_Mod_add_80 f_Mod_25 (by decide) ?_
        refine V_ar_n d_Mod_add_83 rfl ?_
        refine VR_geti d_Mod_add_84 f_Mod_90 (by decide) ?_
        refine V_eqi (show _ = nI e from he) ?_
        refine V_iload d_Mod_add_87 rfl ?_
        refine VR_iast hA d_Mod_add_89 rfl (by omega) (by decide) ?_
        refine V_ar_n d_Mod_add_90 rfl ?_
        refine VR_geta d_Mod_add_91 f_Mod_28 (by decide) ?_
        refine V_ar_n d_Mod_add_94 rfl ?_
        refine VR_geti d_Mod_add_95 f_Mod_90 (by decide) ?_
        refine V_eqi (show _ = nI e from he) ?_
        refine V_iconst (v := 1) d_Mod_add_98 (by decide) ?_
        refine VR_iast hA d_Mod_add_99 rfl (by omega) (by decide) ?_
        refine V_ar_n d_Mod_add_100 rfl ?_
        refine V_dup d_Mod_add_101 rfl ?_
        refine VR_geti d_Mod_add_102 f_Mod_90 (by decide) ?_
        refine V_eqi (show _ = nI e from he) ?_
        refine V_iconst (v := 1) d_Mod_add_105 (by decide) ?_
        refine V_iadd d_Mod_add_106 ?_
        refine V_eqi (nI_1 e) ?_
        refine VR_puti d_Mod_add_107 f_Mod_90 (by decide) ?_
        refine V_iconst (v := 1) d_Mod_add_110 (by decide) ?_
        exact V_zreturn d_Mod_add_111 rfl nz1 ⟨by rw [addv, if_pos hok], by rw [adds, if_pos hok]; rfl⟩
      · refine V_iconst (v := 0) d_Mod_add_24 (by decide) ?_
        exact V_zreturn d_Mod_add_25 rfl nz0 ⟨by rw [addv, if_neg (fun z => h21 z.2.2)], by rw [adds, if_neg (fun z => h21 z.2.2)]⟩
theorem addv_z (r : RS) (b : Int32) : narrow .boolean (.int (addv r b)) = .int (addv r b) := by unfold addv; split <;> decide
set_option maxRecDepth 100000 in
set_option maxHeartbeats 4000000 in
theorem Mod_space {l : Launch} {D : va_G} {ac : Nat → ClassId} {o : Nat} {ad : Nat → Nat} {r : RS} (hA : rAD o ad) {e : Nat} (he : gF r 11 = nI e) (he2 : e < 3100) (w : Int32) : RCi l D ac o ad t_Mod_space [.int w] r (addv r (isz w)) (adds r e (isz w) 3 w 0 0 0 0) := fun M0 => by
  refine Ct_of (by decide) (Nat.le_of_ble_eq_true rfl) ?_
  refine V_ar_n d_Mod_space_0 rfl ?_
  refine V_iload_n d_Mod_space_1 rfl ?_
  refine VS_ci1 d_Mod_space_2 c_Mod_108 (Mod_isSize w) ⟨by decide, by decide⟩ (Nat.le_of_ble_eq_true rfl) ?_
  refine V_iconst (v := 3) d_Mod_space_5 (by decide) ?_
  refine V_iload_n d_Mod_space_6 rfl ?_
  refine V_iconst (v := 0) d_Mod_space_7 (by decide) ?_
  refine V_iconst (v := 0) d_Mod_space_8 (by decide) ?_
  refine V_iconst (v := 0) d_Mod_space_9 (by decide) ?_
  refine V_iconst (v := 0) d_Mod_space_10 (by decide) ?_
  refine VR_ci7 d_Mod_space_11 c_Mod_111 (Mod_add hA he he2 _ _ _ _ _ _ _) ⟨by decide, by decide⟩ rfl (Nat.le_of_ble_eq_true rfl) ?_
  exact V_zreturn d_Mod_space_14 rfl (addv_z _ _) ⟨rfl, rfl⟩
def isb (r : RS) (i : Nat) : Int32 := if gB r 1 i = 4 ∨ gB r 1 i = 5 then 1 else 0
set_option maxRecDepth 100000 in
set_option maxHeartbeats 4000000 in
theorem Mod_isBox {l : Launch} {D : va_G} {ac : Nat → ClassId} {o : Nat} {ad : Nat → Nat} {r : RS} (hA : rAD o ad) {i : Nat} (hi : i < 6200) : RCi l D ac o ad t_Mod_isBox [.int (nI i)] r (isb r i) r := fun M0 => by
  refine Ct_of (by decide) (Nat.le_of_ble_eq_true rfl) ?_
  refine V_ar_n d_Mod_isBox_0 rfl ?_
  refine VR_geta d_Mod_isBox_1 f_Mod_7 (by decide) ?_
  refine V_iload_n d_Mod_isBox_4 rfl ?_
  refine VR_iald hA d_Mod_isBox_5 rfl (by omega) (by decide) ?_
  refine V_iconst (v := 4) d_Mod_isBox_6 (by decide) ?_
  refine V_icmp_eq 20 d_Mod_isBox_7 (by decide) (fun h7 => ?_) (fun h7 => ?_)
  · refine V_iconst (v := 1) d_Mod_isBox_20 (by decide) ?_
    refine V_goto 25 d_Mod_isBox_21 (by decide) ?_
    exact V_zreturn d_Mod_isBox_25 rfl nz1 ⟨by rw [isb, if_pos (Or.inl h7)], rfl⟩
  · refine V_ar_n d_Mod_isBox_10 rfl ?_
    refine VR_geta d_Mod_isBox_11 f_Mod_7 (by decide) ?_
    refine V_iload_n d_Mod_isBox_14 rfl ?_
    refine VR_iald hA d_Mod_isBox_15 rfl (by omega) (by decide) ?_
    refine V_iconst (v := 5) d_Mod_isBox_16 (by decide) ?_
    refine V_icmp_ne 24 d_Mod_isBox_17 (by decide) (fun h17 => ?_) (fun h17 => ?_)
    · refine V_iconst (v := 0) d_Mod_isBox_24 (by decide) ?_
      exact V_zreturn d_Mod_isBox_25 rfl nz0 ⟨by rw [isb, if_neg (fun z => z.elim h7 h17)], rfl⟩
    · refine V_iconst (v := 1) d_Mod_isBox_20 (by decide) ?_
      refine V_goto 25 d_Mod_isBox_21 (by decide) ?_
      exact V_zreturn d_Mod_isBox_25 rfl nz1 ⟨by rw [isb, if_pos (Or.inr (Classical.not_not.mp h17))], rfl⟩
