/-! character and rule: their merged conditions by lemmas at the meeting points -/
abbrev chok (r : RS) (L : Nat) (f c w h d : Int32) : Prop := isv r L = 0 ∧ ¬ f < 0 ∧ ¬ 32 ≤ f ∧ ¬ c < 0 ∧ ¬ 256 ≤ c ∧ ¬ isz w = 0 ∧ ¬ isz h = 0 ∧ ¬ isz d = 0
def chb (r : RS) (L : Nat) (f c w h d : Int32) : Int32 := if chok r L f c w h d then 1 else 0
set_option maxRecDepth 100000 in
set_option maxHeartbeats 4000000 in
theorem Mod_character_57 {l : Launch} {D : va_G} {ac : Nat → ClassId} {o : Nat} {ad : Nat → Nat} {r : RS} {M0 : MP} (hA : rAD o ad) {e : Nat} (he : gF r 11 = nI e) (he2 : e < 3100) (f c w h d b : Int32) : V l D (tyl ac) t_Mod_character 0 0 57 [(0, .ref o), (1, .int f), (2, .int c), (3, .int w), (4, .int h), (5, .int d)] [.int b, .ref o] (rM ac o ad r M0) (fun rv M' => rv = some (.int (addv r b)) ∧ M' = rM ac o ad (adds r e b 1 w h d f c) M0) := by
  refine V_iconst (v := 1) d_Mod_character_57 (by decide) ?_
  refine V_iload_n d_Mod_character_58 rfl ?_
  refine V_iload d_Mod_character_59 rfl ?_
  refine V_iload d_Mod_character_61 rfl ?_
  refine V_iload_n d_Mod_character_63 rfl ?_
  refine V_iload_n d_Mod_character_64 rfl ?_
  refine VR_ci7 d_Mod_character_65 c_Mod_111 (Mod_add hA he he2 _ _ _ _ _ _ _) ⟨by decide, by decide⟩ rfl (Nat.le_of_ble_eq_true rfl) ?_
  exact V_zreturn d_Mod_character_68 rfl (addv_z _ _) ⟨rfl, rfl⟩
set_option maxRecDepth 100000 in
set_option maxHeartbeats 4000000 in
theorem Mod_character {l : Launch} {D : va_G} {ac : Nat → ClassId} {o : Nat} {ad : Nat → Nat} {r : RS} (hA : rAD o ad) {L e : Nat} (hL : gF r 8 = nI L) (hL2 : L ≤ 100) (he : gF r 11 = nI e) (he2 : e < 3100) (f c w h d : Int32) : RCi l D ac o ad t_Mod_character [.int f, .int c, .int w, .int h, .int d] r (addv r (chb r L f c w h d)) (adds r e (chb r L f c w h d) 1 w h d f c) := fun M0 => by
  refine Ct_of (by decide) (Nat.le_of_ble_eq_true rfl) ?_
  have mg := fun b => Mod_character_57 (l := l) (D := D) (ac := ac) (M0 := M0) hA he he2 f c w h d b
  refine V_ar_n d_Mod_character_0 rfl ?_
  refine V_ar_n d_Mod_character_1 rfl ?_
  refine VR_ci0 d_Mod_character_2 c_Mod_104 (Mod_isVertical hA hL hL2) ⟨by decide, by decide⟩ rfl (Nat.le_of_ble_eq_true rfl) ?_
  refine V_if_ne 56 d_Mod_character_5 (by decide) (fun h5 => ?_) (fun h5 => ?_)
  · refine V_iconst (v := 0) d_Mod_character_56 (by decide) ?_
    refine V_eqi (show _ = chb r L f c w h d from (if_neg (fun z => h5 z.1)).symm) ?_
    exact mg _
  · refine V_iload_n d_Mod_character_8 rfl ?_
    refine V_if_lt 56 d_Mod_character_9 (by decide) (fun h9 => ?_) (fun h9 => ?_)
    · refine V_iconst (v := 0) d_Mod_character_56 (by decide) ?_
      refine V_eqi (show _ = chb r L f c w h d from (if_neg (fun z => z.2.1 h9)).symm) ?_
      exact mg _
    · refine V_iload_n d_Mod_character_12 rfl ?_
      refine V_bipush (v := 32) d_Mod_character_13 (by decide) ?_
      refine V_icmp_ge 56 d_Mod_character_15 (by decide) (fun h15 => ?_) (fun h15 => ?_)
      · refine V_iconst (v := 0) d_Mod_character_56 (by decide) ?_
        refine V_eqi (show _ = chb r L f c w h d from (if_neg (fun z => z.2.2.1 h15)).symm) ?_
        exact mg _
      · refine V_iload_n d_Mod_character_18 rfl ?_
        refine V_if_lt 56 d_Mod_character_19 (by decide) (fun h19 => ?_) (fun h19 => ?_)
        · refine V_iconst (v := 0) d_Mod_character_56 (by decide) ?_
          refine V_eqi (show _ = chb r L f c w h d from (if_neg (fun z => z.2.2.2.1 h19)).symm) ?_
          exact mg _
        · refine V_iload_n d_Mod_character_22 rfl ?_
          refine V_sipush (v := 256) d_Mod_character_23 (by decide) ?_
          refine V_icmp_ge 56 d_Mod_character_26 (by decide) (fun h26 => ?_) (fun h26 => ?_)
          · refine V_iconst (v := 0) d_Mod_character_56 (by decide) ?_
            refine V_eqi (show _ = chb r L f c w h d from (if_neg (fun z => z.2.2.2.2.1 h26)).symm) ?_
            exact mg _
          · refine V_iload_n d_Mod_character_29 rfl ?_
            refine VS_ci1 d_Mod_character_30 c_Mod_108 (Mod_isSize w) ⟨by decide, by decide⟩ (Nat.le_of_ble_eq_true rfl) ?_
            refine V_if_eq 56 d_Mod_character_33 (by decide) (fun h33 => ?_) (fun h33 => ?_)
            · refine V_iconst (v := 0) d_Mod_character_56 (by decide) ?_
              refine V_eqi (show _ = chb r L f c w h d from (if_neg (fun z => z.2.2.2.2.2.1 h33)).symm) ?_
              exact mg _
            · refine V_iload d_Mod_character_36 rfl ?_
              refine VS_ci1 d_Mod_character_38 c_Mod_108 (Mod_isSize h) ⟨by decide, by decide⟩ (Nat.le_of_ble_eq_true rfl) ?_
              refine V_if_eq 56 d_Mod_character_41 (by decide) (fun h41 => ?_) (fun h41 => ?_)
              · refine V_iconst (v := 0) d_Mod_character_56 (by decide) ?_
                refine V_eqi (show _ = chb r L f c w h d from (if_neg (fun z => z.2.2.2.2.2.2.1 h41)).symm) ?_
                exact mg _
              · refine V_iload d_Mod_character_44 rfl ?_
                refine VS_ci1 d_Mod_character_46 c_Mod_108 (Mod_isSize d) ⟨by decide, by decide⟩ (Nat.le_of_ble_eq_true rfl) ?_
                refine V_if_eq 56 d_Mod_character_49 (by decide) (fun h49 => ?_) (fun h49 => ?_)
                · refine V_iconst (v := 0) d_Mod_character_56 (by decide) ?_
                  refine V_eqi (show _ = chb r L f c w h d from (if_neg (fun z => z.2.2.2.2.2.2.2 h49)).symm) ?_
                  exact mg _
                · refine V_iconst (v := 1) d_Mod_character_52 (by decide) ?_
                  refine V_goto 57 d_Mod_character_53 (by decide) ?_
                  refine V_eqi (show _ = chb r L f c w h d from (if_pos ⟨Classical.not_not.mp h5, h9, h15, h19, h26, h33, h41, h49⟩).symm) ?_
                  exact mg _
def rmay (v x : Int32) : Int32 := if ¬ v = 0 then (if x = 0 ∨ x = 1 then 1 else 0) else (if x = 0 ∨ x = 2 ∨ x = 4 ∨ x = 6 then 1 else 0)
abbrev rlok (m w h d : Int32) : Prop := ¬ m = 0 ∧ ¬ isz w = 0 ∧ ¬ isz h = 0 ∧ ¬ isz d = 0
def rlb (m w h d : Int32) : Int32 := if rlok m w h d then 1 else 0
def run1 (x bit w : Int32) : Int32 := if x &&& bit = bit then -2147483648 else w
set_option maxRecDepth 100000 in
set_option maxHeartbeats 4000000 in
theorem Mod_rule_132 {l : Launch} {D : va_G} {ac : Nat → ClassId} {o : Nat} {ad : Nat → Nat} {r : RS} {M0 : MP} (hA : rAD o ad) {e : Nat} (he : gF r 11 = nI e) (he2 : e < 3100) (m w h d x b w' h' d' : Int32) : V l D (tyl ac) t_Mod_rule 0 0 132 [(5, .int m), (0, .ref o), (1, .int w), (2, .int h), (3, .int d), (4, .int x)] [.int d', .int h', .int w', .int 2, .int b, .ref o] (rM ac o ad r M0) (fun rv M' => rv = some (.int (addv r b)) ∧ M' = rM ac o ad (adds r e b 2 w' h' d' 0 0) M0) := by
  refine V_iconst (v := 0) d_Mod_rule_132 (by decide) ?_
  refine V_iconst (v := 0) d_Mod_rule_133 (by decide) ?_
  refine VR_ci7 d_Mod_rule_134 c_Mod_111 (Mod_add hA he he2 _ _ _ _ _ _ _) ⟨by decide, by decide⟩ rfl (Nat.le_of_ble_eq_true rfl) ?_
  exact V_zreturn d_Mod_rule_137 rfl (addv_z _ _) ⟨rfl, rfl⟩
set_option maxRecDepth 100000 in
set_option maxHeartbeats 4000000 in
theorem Mod_rule_118 {l : Launch} {D : va_G} {ac : Nat → ClassId} {o : Nat} {ad : Nat → Nat} {r : RS} {M0 : MP} (hA : rAD o ad) {e : Nat} (he : gF r 11 = nI e) (he2 : e < 3100) (m w h d x b w' h' : Int32) : V l D (tyl ac) t_Mod_rule 0 0 118 [(5, .int m), (0, .ref o), (1, .int w), (2, .int h), (3, .int d), (4, .int x)] [.int h', .int w', .int 2, .int b, .ref o] (rM ac o ad r M0) (fun rv M' => rv = some (.int (addv r b)) ∧ M' = rM ac o ad (adds r e b 2 w' h' (run1 x 4 d) 0 0) M0) := by
  refine V_iload d_Mod_rule_118 rfl ?_
  refine V_iconst (v := 4) d_Mod_rule_120 (by decide) ?_
  refine V_iand d_Mod_rule_121 ?_
  refine V_iconst (v := 4) d_Mod_rule_122 (by decide) ?_
  refine V_icmp_ne 131 d_Mod_rule_123 (by decide) (fun h123 => ?_) (fun h123 => ?_)
  · refine V_iload_n d_Mod_rule_131 rfl ?_
    refine V_eqi (show _ = run1 x 4 d from (if_neg h123).symm) ?_
    exact Mod_rule_132 hA he he2 m w h d x b w' h' (run1 x 4 d)
  · refine V_ldc d_Mod_rule_126 k_Mod_115 ?_
    refine V_goto 132 d_Mod_rule_128 (by decide) ?_
    refine V_eqi (show _ = run1 x 4 d from (if_pos (Classical.not_not.mp h123)).symm) ?_
    exact Mod_rule_132 hA he he2 m w h d x b w' h' (run1 x 4 d)
set_option maxRecDepth 100000 in
set_option maxHeartbeats 4000000 in
theorem Mod_rule_104 {l : Launch} {D : va_G} {ac : Nat → ClassId} {o : Nat} {ad : Nat → Nat} {r : RS} {M0 : MP} (hA : rAD o ad) {e : Nat} (he : gF r 11 = nI e) (he2 : e < 3100) (m w h d x b w' : Int32) : V l D (tyl ac) t_Mod_rule 0 0 104 [(5, .int m), (0, .ref o), (1, .int w), (2, .int h), (3, .int d), (4, .int x)] [.int w', .int 2, .int b, .ref o] (rM ac o ad r M0) (fun rv M' => rv = some (.int (addv r b)) ∧ M' = rM ac o ad (adds r e b 2 w' (run1 x 2 h) (run1 x 4 d) 0 0) M0) := by
  refine V_iload d_Mod_rule_104 rfl ?_
  refine V_iconst (v := 2) d_Mod_rule_106 (by decide) ?_
  refine V_iand d_Mod_rule_107 ?_
  refine V_iconst (v := 2) d_Mod_rule_108 (by decide) ?_
  refine V_icmp_ne 117 d_Mod_rule_109 (by decide) (fun h109 => ?_) (fun h109 => ?_)
  · refine V_iload_n d_Mod_rule_117 rfl ?_
    refine V_eqi (show _ = run1 x 2 h from (if_neg h109).symm) ?_
    exact Mod_rule_118 hA he he2 m w h d x b w' (run1 x 2 h)
  · refine V_ldc d_Mod_rule_112 k_Mod_115 ?_
    refine V_goto 118 d_Mod_rule_114 (by decide) ?_
    refine V_eqi (show _ = run1 x 2 h from (if_pos (Classical.not_not.mp h109)).symm) ?_
    exact Mod_rule_118 hA he he2 m w h d x b w' (run1 x 2 h)
set_option maxRecDepth 100000 in
set_option maxHeartbeats 4000000 in
theorem Mod_rule_89 {l : Launch} {D : va_G} {ac : Nat → ClassId} {o : Nat} {ad : Nat → Nat} {r : RS} {M0 : MP} (hA : rAD o ad) {e : Nat} (he : gF r 11 = nI e) (he2 : e < 3100) (m w h d x b : Int32) : V l D (tyl ac) t_Mod_rule 0 0 89 [(5, .int m), (0, .ref o), (1, .int w), (2, .int h), (3, .int d), (4, .int x)] [.int b, .ref o] (rM ac o ad r M0) (fun rv M' => rv = some (.int (addv r b)) ∧ M' = rM ac o ad (adds r e b 2 (run1 x 1 w) (run1 x 2 h) (run1 x 4 d) 0 0) M0) := by
  refine V_iconst (v := 2) d_Mod_rule_89 (by decide) ?_
  refine V_iload d_Mod_rule_90 rfl ?_
  refine V_iconst (v := 1) d_Mod_rule_92 (by decide) ?_
  refine V_iand d_Mod_rule_93 ?_
  refine V_iconst (v := 1) d_Mod_rule_94 (by decide) ?_
  refine V_icmp_ne 103 d_Mod_rule_95 (by decide) (fun h95 => ?_) (fun h95 => ?_)
  · refine V_iload_n d_Mod_rule_103 rfl ?_
    refine V_eqi (show _ = run1 x 1 w from (if_neg h95).symm) ?_
    exact Mod_rule_104 hA he he2 m w h d x b (run1 x 1 w)
  · refine V_ldc d_Mod_rule_98 k_Mod_115 ?_
    refine V_goto 104 d_Mod_rule_100 (by decide) ?_
    refine V_eqi (show _ = run1 x 1 w from (if_pos (Classical.not_not.mp h95)).symm) ?_
    exact Mod_rule_104 hA he he2 m w h d x b (run1 x 1 w)
set_option maxRecDepth 100000 in
set_option maxHeartbeats 4000000 in
theorem Mod_rule_57 {l : Launch} {D : va_G} {ac : Nat → ClassId} {o : Nat} {ad : Nat → Nat} {r : RS} {M0 : MP} (hA : rAD o ad) {e : Nat} (he : gF r 11 = nI e) (he2 : e < 3100) (m w h d x : Int32) : V l D (tyl ac) t_Mod_rule 0 0 57 [(5, .int m), (0, .ref o), (1, .int w), (2, .int h), (3, .int d), (4, .int x)] [] (rM ac o ad r M0) (fun rv M' => rv = some (.int (addv r (rlb m w h d))) ∧ M' = rM ac o ad (adds r e (rlb m w h d) 2 (run1 x 1 w) (run1 x 2 h) (run1 x 4 d) 0 0) M0) := by
  have mg := fun b => Mod_rule_89 (l := l) (D := D) (ac := ac) (M0 := M0) hA he he2 m w h d x b
  refine V_ar_n d_Mod_rule_57 rfl ?_
  refine V_iload d_Mod_rule_58 rfl ?_
  refine V_if_eq 88 d_Mod_rule_60 (by decide) (fun h60 => ?_) (fun h60 => ?_)
  · refine V_iconst (v := 0) d_Mod_rule_88 (by decide) ?_
    refine V_eqi (show _ = rlb m w h d from (if_neg (fun z => z.1 h60)).symm) ?_
    exact mg _
  · refine V_iload_n d_Mod_rule_63 rfl ?_
    refine VS_ci1 d_Mod_rule_64 c_Mod_108 (Mod_isSize w) ⟨by decide, by decide⟩ (Nat.le_of_ble_eq_true rfl) ?_
    refine V_if_eq 88 d_Mod_rule_67 (by decide) (fun h67 => ?_) (fun h67 => ?_)
    · refine V_iconst (v := 0) d_Mod_rule_88 (by decide) ?_
      refine V_eqi (show _ = rlb m w h d from (if_neg (fun z => z.2.1 h67)).symm) ?_
      exact mg _
    · refine V_iload_n d_Mod_rule_70 rfl ?_
      refine VS_ci1 d_Mod_rule_71 c_Mod_108 (Mod_isSize h) ⟨by decide, by decide⟩ (Nat.le_of_ble_eq_true rfl) ?_
      refine V_if_eq 88 d_Mod_rule_74 (by decide) (fun h74 => ?_) (fun h74 => ?_)
      · refine V_iconst (v := 0) d_Mod_rule_88 (by decide) ?_
        refine V_eqi (show _ = rlb m w h d from (if_neg (fun z => z.2.2.1 h74)).symm) ?_
        exact mg _
      · refine V_iload_n d_Mod_rule_77 rfl ?_
        refine VS_ci1 d_Mod_rule_78 c_Mod_108 (Mod_isSize d) ⟨by decide, by decide⟩ (Nat.le_of_ble_eq_true rfl) ?_
        refine V_if_eq 88 d_Mod_rule_81 (by decide) (fun h81 => ?_) (fun h81 => ?_)
        · refine V_iconst (v := 0) d_Mod_rule_88 (by decide) ?_
          refine V_eqi (show _ = rlb m w h d from (if_neg (fun z => z.2.2.2 h81)).symm) ?_
          exact mg _
        · refine V_iconst (v := 1) d_Mod_rule_84 (by decide) ?_
          refine V_goto 89 d_Mod_rule_85 (by decide) ?_
          refine V_eqi (show _ = rlb m w h d from (if_pos ⟨h60, h67, h74, h81⟩).symm) ?_
          exact mg _
set_option maxRecDepth 100000 in
set_option maxHeartbeats 4000000 in
theorem Mod_rule {l : Launch} {D : va_G} {ac : Nat → ClassId} {o : Nat} {ad : Nat → Nat} {r : RS} (hA : rAD o ad) {L e : Nat} (hL : gF r 8 = nI L) (hL2 : L ≤ 100) (he : gF r 11 = nI e) (he2 : e < 3100) (w h d x : Int32) : RCi l D ac o ad t_Mod_rule [.int w, .int h, .int d, .int x] r (addv r (rlb (rmay (isv r L) x) w h d)) (adds r e (rlb (rmay (isv r L) x) w h d) 2 (run1 x 1 w) (run1 x 2 h) (run1 x 4 d) 0 0) := fun M0 => by
  refine Ct_of (by decide) (Nat.le_of_ble_eq_true rfl) ?_
  have mg := fun m => Mod_rule_57 (l := l) (D := D) (ac := ac) (M0 := M0) hA he he2 m w h d x
  refine V_ar_n d_Mod_rule_0 rfl ?_
  refine VR_ci0 d_Mod_rule_1 c_Mod_104 (Mod_isVertical hA hL hL2) ⟨by decide, by decide⟩ rfl (Nat.le_of_ble_eq_true rfl) ?_
  refine V_if_eq 26 d_Mod_rule_4 (by decide) (fun h4 => ?_) (fun h4 => ?_)
  · refine V_iload d_Mod_rule_26 rfl ?_
    refine V_if_eq 50 d_Mod_rule_28 (by decide) (fun h28 => ?_) (fun h28 => ?_)
    · refine V_iconst (v := 1) d_Mod_rule_50 (by decide) ?_
      refine V_goto 55 d_Mod_rule_51 (by decide) ?_
      refine V_eqi (show _ = rmay (isv r L) x from (show rmay (isv r L) x = 1 by rw [rmay, if_neg (fun z => z h4), if_pos (Or.inl h28)]).symm) ?_
      refine V_istore (lv' := [(5, .int (rmay (isv r L) x)), (0, .ref o), (1, .int w), (2, .int h), (3, .int d), (4, .int x)]) d_Mod_rule_55 (by decide) rfl ?_
      exact mg _
    · refine V_iload d_Mod_rule_31 rfl ?_
      refine V_iconst (v := 2) d_Mod_rule_33 (by decide) ?_
      refine V_icmp_eq 50 d_Mod_rule_34 (by decide) (fun h34 => ?_) (fun h34 => ?_)
      · refine V_iconst (v := 1) d_Mod_rule_50 (by decide) ?_
        refine V_goto 55 d_Mod_rule_51 (by decide) ?_
        refine V_eqi (show _ = rmay (isv r L) x from (show rmay (isv r L) x = 1 by rw [rmay, if_neg (fun z => z h4), if_pos (Or.inr (Or.inl h34))]).symm) ?_
        refine V_istore (lv' := [(5, .int (rmay (isv r L) x)), (0, .ref o), (1, .int w), (2, .int h), (3, .int d), (4, .int x)]) d_Mod_rule_55 (by decide) rfl ?_
        exact mg _
      · refine V_iload d_Mod_rule_37 rfl ?_
        refine V_iconst (v := 4) d_Mod_rule_39 (by decide) ?_
        refine V_icmp_eq 50 d_Mod_rule_40 (by decide) (fun h40 => ?_) (fun h40 => ?_)
        · refine V_iconst (v := 1) d_Mod_rule_50 (by decide) ?_
          refine V_goto 55 d_Mod_rule_51 (by decide) ?_
          refine V_eqi (show _ = rmay (isv r L) x from (show rmay (isv r L) x = 1 by rw [rmay, if_neg (fun z => z h4), if_pos (Or.inr (Or.inr (Or.inl h40)))]).symm) ?_
          refine V_istore (lv' := [(5, .int (rmay (isv r L) x)), (0, .ref o), (1, .int w), (2, .int h), (3, .int d), (4, .int x)]) d_Mod_rule_55 (by decide) rfl ?_
          exact mg _
        · refine V_iload d_Mod_rule_43 rfl ?_
          refine V_bipush (v := 6) d_Mod_rule_45 (by decide) ?_
          refine V_icmp_ne 54 d_Mod_rule_47 (by decide) (fun h47 => ?_) (fun h47 => ?_)
          · refine V_iconst (v := 0) d_Mod_rule_54 (by decide) ?_
            refine V_eqi (show _ = rmay (isv r L) x from (show rmay (isv r L) x = 0 by rw [rmay, if_neg (fun z => z h4), if_neg (fun z => z.elim h28 (fun z => z.elim h34 (fun z => z.elim h40 h47)))]).symm) ?_
            refine V_istore (lv' := [(5, .int (rmay (isv r L) x)), (0, .ref o), (1, .int w), (2, .int h), (3, .int d), (4, .int x)]) d_Mod_rule_55 (by decide) rfl ?_
            exact mg _
          · refine V_iconst (v := 1) d_Mod_rule_50 (by decide) ?_
            refine V_goto 55 d_Mod_rule_51 (by decide) ?_
            refine V_eqi (show _ = rmay (isv r L) x from (show rmay (isv r L) x = 1 by rw [rmay, if_neg (fun z => z h4), if_pos (Or.inr (Or.inr (Or.inr (Classical.not_not.mp h47))))]).symm) ?_
            refine V_istore (lv' := [(5, .int (rmay (isv r L) x)), (0, .ref o), (1, .int w), (2, .int h), (3, .int d), (4, .int x)]) d_Mod_rule_55 (by decide) rfl ?_
            exact mg _
  · refine V_iload d_Mod_rule_7 rfl ?_
    refine V_if_eq 18 d_Mod_rule_9 (by decide) (fun h9 => ?_) (fun h9 => ?_)
    · refine V_iconst (v := 1) d_Mod_rule_18 (by decide) ?_
      refine V_goto 55 d_Mod_rule_19 (by decide) ?_
      refine V_eqi (show _ = rmay (isv r L) x from (show rmay (isv r L) x = 1 by rw [rmay, if_pos h4, if_pos (Or.inl h9)]).symm) ?_
      refine V_istore (lv' := [(5, .int (rmay (isv r L) x)), (0, .ref o), (1, .int w), (2, .int h), (3, .int d), (4, .int x)]) d_Mod_rule_55 (by decide) rfl ?_
      exact mg _
    · refine V_iload d_Mod_rule_12 rfl ?_
      refine V_iconst (v := 1) d_Mod_rule_14 (by decide) ?_
      refine V_icmp_ne 22 d_Mod_rule_15 (by decide) (fun h15 => ?_) (fun h15 => ?_)
      · refine V_iconst (v := 0) d_Mod_rule_22 (by decide) ?_
        refine V_goto 55 d_Mod_rule_23 (by decide) ?_
        refine V_eqi (show _ = rmay (isv r L) x from (show rmay (isv r L) x = 0 by rw [rmay, if_pos h4, if_neg (fun z => z.elim h9 h15)]).symm) ?_
        refine V_istore (lv' := [(5, .int (rmay (isv r L) x)), (0, .ref o), (1, .int w), (2, .int h), (3, .int d), (4, .int x)]) d_Mod_rule_55 (by decide) rfl ?_
        exact mg _
      · refine V_iconst (v := 1) d_Mod_rule_18 (by decide) ?_
        refine V_goto 55 d_Mod_rule_19 (by decide) ?_
        refine V_eqi (show _ = rmay (isv r L) x from (show rmay (isv r L) x = 1 by rw [rmay, if_pos h4, if_pos (Or.inr (Classical.not_not.mp h15))]).symm) ?_
        refine V_istore (lv' := [(5, .int (rmay (isv r L) x)), (0, .ref o), (1, .int w), (2, .int h), (3, .int d), (4, .int x)]) d_Mod_rule_55 (by decide) rfl ?_
        exact mg _
def isf (r : RS) (x : Int32) : Int32 := if ¬ x < 0 ∧ ¬ 8 ≤ x ∧ 0 < gB r 12 x.toNatClampNeg then 1 else 0
theorem nI_8 {x : Int32} (h0 : ¬ x < 0) (h1 : ¬ 8 ≤ x) : ∃ m, m < 8 ∧ x = nI m := by
  obtain ⟨j, hj, e⟩ := nI_of h0
  refine ⟨j, ?_, e⟩
  rcases Nat.lt_or_ge j 8 with q | q
  · exact q
  · exact absurd (by rw [e]; exact nI_le (a := 8) q hj) h1
set_option maxRecDepth 100000 in
set_option maxHeartbeats 4000000 in
theorem Mod_isFull {l : Launch} {D : va_G} {ac : Nat → ClassId} {o : Nat} {ad : Nat → Nat} {r : RS} (hA : rAD o ad) (x : Int32) : RCi l D ac o ad t_Mod_isFull [.int x] r (isf r x) r := fun M0 => by
  refine Ct_of (by decide) (Nat.le_of_ble_eq_true rfl) ?_
  refine V_iload_n d_Mod_isFull_0 rfl ?_
  refine V_if_lt 37 d_Mod_isFull_1 (by decide) (fun h1 => ?_) (fun h1 => ?_)
  · refine V_iconst (v := 0) d_Mod_isFull_37 (by decide) ?_
    exact V_zreturn d_Mod_isFull_38 rfl nz0 ⟨by rw [isf, if_neg (fun z => z.1 h1)], rfl⟩
  · refine V_iload_n d_Mod_isFull_4 rfl ?_
    refine V_bipush (v := 8) d_Mod_isFull_5 (by decide) ?_
    refine V_icmp_ge 37 d_Mod_isFull_7 (by decide) (fun h7 => ?_) (fun h7 => ?_)
    · refine V_iconst (v := 0) d_Mod_isFull_37 (by decide) ?_
      exact V_zreturn d_Mod_isFull_38 rfl nz0 ⟨by rw [isf, if_neg (fun z => z.2.1 h7)], rfl⟩
    · obtain ⟨m, hm, rfl⟩ := nI_8 h1 h7
      refine V_ar_n d_Mod_isFull_10 rfl ?_
      refine VR_geta d_Mod_isFull_11 f_Mod_38 (by decide) ?_
      refine V_iload_n d_Mod_isFull_14 rfl ?_
      refine V_if_lt 28 d_Mod_isFull_15 (by decide) (fun h15 => ?_) (fun h15 => ?_)
      · exact absurd h15 h1
      · refine V_iload_n d_Mod_isFull_18 rfl ?_
        refine V_bipush (v := 8) d_Mod_isFull_19 (by decide) ?_
        refine V_icmp_ge 28 d_Mod_isFull_21 (by decide) (fun h21 => ?_) (fun h21 => ?_)
        · exact absurd h21 h7
        · refine V_iload_n d_Mod_isFull_24 rfl ?_
          refine V_goto 29 d_Mod_isFull_25 (by decide) ?_
          refine VR_iald hA d_Mod_isFull_29 rfl (by omega) (by decide) ?_
          refine V_if_le 37 d_Mod_isFull_30 (by decide) (fun h30 => ?_) (fun h30 => ?_)
          · refine V_iconst (v := 0) d_Mod_isFull_37 (by decide) ?_
            exact V_zreturn d_Mod_isFull_38 rfl nz0 ⟨by rw [isf, if_neg (fun z => absurd h30 (Int32.not_le.mpr (by have z2 := z.2.2; rw [nI_clamp (by omega)] at z2; exact z2)))], rfl⟩
          · refine V_iconst (v := 1) d_Mod_isFull_33 (by decide) ?_
            refine V_goto 38 d_Mod_isFull_34 (by decide) ?_
            exact V_zreturn d_Mod_isFull_38 rfl nz1 ⟨by rw [isf, if_pos ⟨h1, h7, by rw [nI_clamp (by omega)]; exact Int32.not_le.mp h30⟩], rfl⟩
