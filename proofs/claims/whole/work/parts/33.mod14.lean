theorem popq_sF (r : RS) (i : Nat) (v : Int32) (m : Nat) : popq (sF r 27 v) i m = popq r i m := by
  induction m with
  | zero => rfl
  | succ m ih => unfold popq; rw [ih]; rfl
set_option maxRecDepth 100000 in
set_option maxHeartbeats 4000000 in
theorem PL_48 {l : Launch} {D : va_G} {ac : Nat → ClassId} {o : Nat} {ad : Nat → Nat} {M0 : MP} {Q : Option Value → MP → Prop} (hA : rAD o ad) {b n i : Nat} : ∀ (m : Nat) (r : RS), gF r 27 = nI m → m ≤ 101 → 0 < popq r i m → V l D (tyl ac) t_Mod_placeAll 0 0 76 [(0, .ref o), (1, .int (nI b)), (2, .int (nI n)), (3, .int (nI i))] [] (rM ac o ad (sF r 27 (nI (popq r i m))) M0) Q → V l D (tyl ac) t_Mod_placeAll 0 0 48 [(0, .ref o), (1, .int (nI b)), (2, .int (nI n)), (3, .int (nI i))] [] (rM ac o ad (r) M0) Q := by
  intro m
  induction m with
  | zero =>
    intro r hm hm1 h0 hK
    exact absurd h0 (by simp [popq])
  | succ m ih =>
    intro r hm hm1 h0 hK
    refine V_ar_n d_Mod_placeAll_48 rfl ?_
    refine VR_geta d_Mod_placeAll_49 f_Mod_68 (by decide) ?_
    refine V_ar_n d_Mod_placeAll_52 rfl ?_
    refine VR_geti d_Mod_placeAll_53 f_Mod_160 (by decide) ?_
    refine V_eqi (show _ = nI (m + 1) from hm) ?_
    refine V_iconst (v := 1) d_Mod_placeAll_56 (by decide) ?_
    refine V_isub d_Mod_placeAll_57 ?_
    refine V_eqi (nI_pred m) ?_
    refine VR_iald hA d_Mod_placeAll_58 rfl (by omega) (by decide) ?_
    refine V_iload_n d_Mod_placeAll_59 rfl ?_
    refine V_icmp_gt 76 d_Mod_placeAll_60 (by decide) (fun h60 => ?_) (fun h60 => ?_)
    · have hp : popq r i (m + 1) = m + 1 := by rw [popq, if_neg (Int32.not_le.mpr h60)]
      rw [hp, sF_self r 27 hm] at hK
      exact hK
    · have hp : popq r i (m + 1) = popq r i m := by rw [popq, if_pos (Int32.not_lt.mp h60)]
      rw [hp] at hK h0
      refine V_ar_n d_Mod_placeAll_63 rfl ?_
      refine V_dup d_Mod_placeAll_64 rfl ?_
      refine VR_geti d_Mod_placeAll_65 f_Mod_160 (by decide) ?_
      refine V_eqi (show _ = nI (m + 1) from hm) ?_
      refine V_iconst (v := 1) d_Mod_placeAll_68 (by decide) ?_
      refine V_isub d_Mod_placeAll_69 ?_
      refine V_eqi (nI_pred m) ?_
      refine VR_puti d_Mod_placeAll_70 f_Mod_160 (by decide) ?_
      refine V_goto 48 d_Mod_placeAll_73 (by decide) ?_
      refine ih (sF r 27 (nI m)) rfl (by omega) (by rw [popq_sF]; exact h0) ?_
      have hpp : popq (sF r 27 (nI m)) i m = popq r i m := popq_sF r i _ m
      rw [hpp, sF_sF]
      exact hK
/-- the number of open boxes, the innermost one at i, and whether all is in range there -/
def opq (r : RS) : Nat := (gF r 27).toNatClampNeg
def plq (r : RS) (i : Nat) : Nat := popq r i (opq r)
def plb (r : RS) (i : Nat) : Nat := (gB r 30 (8 * plq r i - 8)).toNatClampNeg
def pln (b : Nat) (r : RS) (i : Nat) : RS := plc (sF r 27 (nI (plq r i))) (plq r i) i b (plb r i)
def pla (b : Nat) : Nat → Nat → RS → RS
  | 0, _, r => r
  | m + 1, i, r => if gF r 33 = 0 then r else pla b m (i + 1) (pln b r i)
def plk (b : Nat) (r : RS) (i : Nat) : Prop := gF r 27 = nI (opq r) ∧ opq r ≤ 101 ∧ 0 < plq r i ∧ gB r 30 (8 * plq r i - 8) = nI (plb r i) ∧ b ≤ plb r i ∧ plb r i < 6200 ∧ plb r i - b < 3100
def plok (b : Nat) : Nat → Nat → RS → Prop
  | 0, _, _ => True
  | m + 1, i, r => gF r 33 = 0 ∨ (plk b r i ∧ plok b m (i + 1) (pln b r i))
set_option maxRecDepth 100000 in
set_option maxHeartbeats 4000000 in
theorem PL_34 {l : Launch} {D : va_G} {ac : Nat → ClassId} {o : Nat} {ad : Nat → Nat} {M0 : MP} (hA : rAD o ad) {b n : Nat} (hbn : b + n ≤ 6200) (hn : n ≤ 3100) : ∀ (m i : Nat) (r : RS), i + m = b + n → b < i → plok b m i r → V l D (tyl ac) t_Mod_placeAll 0 0 34 [(0, .ref o), (1, .int (nI b)), (2, .int (nI n)), (3, .int (nI i))] [] (rM ac o ad (r) M0) (fun rv M' => rv = none ∧ M' = rM ac o ad (pla b m i r) M0) := by
  intro m
  induction m with
  | zero =>
    intro i r h1 h2 hok
    refine V_iload_n d_Mod_placeAll_34 rfl ?_
    refine V_iload_n d_Mod_placeAll_35 rfl ?_
    refine V_iload_n d_Mod_placeAll_36 rfl ?_
    refine V_iadd d_Mod_placeAll_37 ?_
    refine V_eqi (nI_add b n) ?_
    refine V_icmp_ge 497 d_Mod_placeAll_38 (by decide) (fun h38 => ?_) (fun h38 => ?_)
    · exact V_return d_Mod_placeAll_497 rfl ⟨rfl, rfl⟩
    · exact absurd (nI_le (show b + n ≤ i by omega) (by omega)) h38
  | succ m ih =>
    intro i r h1 h2 hok
    refine V_iload_n d_Mod_placeAll_34 rfl ?_
    refine V_iload_n d_Mod_placeAll_35 rfl ?_
    refine V_iload_n d_Mod_placeAll_36 rfl ?_
    refine V_iadd d_Mod_placeAll_37 ?_
    refine V_eqi (nI_add b n) ?_
    refine V_icmp_ge 497 d_Mod_placeAll_38 (by decide) (fun h38 => ?_) (fun h38 => ?_)
    · exact absurd h38 (nI_ge (by omega) (by omega))
    · refine V_ar_n d_Mod_placeAll_41 rfl ?_
      refine VR_geti d_Mod_placeAll_42 f_Mod_156 (by decide) ?_
      refine V_if_eq 497 d_Mod_placeAll_45 (by decide) (fun h45 => ?_) (fun h45 => ?_)
      · rw [pla, if_pos h45]
        exact V_return d_Mod_placeAll_497 rfl ⟨rfl, rfl⟩
      · rw [pla, if_neg h45]
        obtain ⟨⟨k1, k2, k3, k4, k5, k6, k7⟩, hnx⟩ := hok.resolve_left h45
        have hql := popq_le r i (opq r)
        have hql2 : plq r i ≤ 101 := Nat.le_trans hql k2
        refine PL_48 hA (opq r) r k1 k2 k3 ?_
        refine V_ar_n d_Mod_placeAll_76 rfl ?_
        refine VR_geta d_Mod_placeAll_77 f_Mod_75 (by decide) ?_
        refine V_bipush (v := nI 8) d_Mod_placeAll_80 (by decide) ?_
        refine V_ar_n d_Mod_placeAll_82 rfl ?_
        refine VR_geti d_Mod_placeAll_83 f_Mod_160 (by decide) ?_
        refine V_eqi (show _ = nI (plq r i) from rfl) ?_
        refine V_imul d_Mod_placeAll_86 ?_
        refine V_eqi (pk_mul 8 _) ?_
        refine V_bipush (v := nI 8) d_Mod_placeAll_87 (by decide) ?_
        refine V_isub d_Mod_placeAll_89 ?_
        refine V_eqi (pk_sub (by omega)) ?_
        refine VR_iald hA d_Mod_placeAll_90 rfl (by omega) (by decide) ?_
        refine V_eqi (show _ = nI (plb r i) from k4) ?_
        refine V_istore (lv' := [(4, .int (nI (plb r i))), (0, .ref o), (1, .int (nI b)), (2, .int (nI n)), (3, .int (nI i))]) d_Mod_placeAll_91 (by decide) rfl ?_
        refine V_lv [1, 2, 3, 4, 0] rfl ?_
        exact PL_93 (r := sF r 27 (nI (plq r i))) hA (by omega) (by omega) (by omega) k5 k6 k7 rfl k3 hql2 (ih (i + 1) (pln b r i) (by omega) (by omega) hnx)
def pl0 (r : RS) (b : Nat) : RS := ent (sF (w1 (w1 r 25 0 0) 26 0 (gB r 3 b)) 27 (nI 0)) 0 b b
def plr (r : RS) (b n : Nat) : RS := pla b (n - 1) (b + 1) (pl0 r b)
set_option maxRecDepth 100000 in
set_option maxHeartbeats 4000000 in
theorem Mod_placeAll {l : Launch} {D : va_G} {ac : Nat → ClassId} {o : Nat} {ad : Nat → Nat} {r : RS} (hA : rAD o ad) {b n : Nat} (hn0 : 0 < n) (hbn : b + n ≤ 6200) (hn : n ≤ 3100) (hok : plok b (n - 1) (b + 1) (pl0 r b)) : RCv l D ac o ad t_Mod_placeAll [.int (nI b), .int (nI n)] r (plr r b n) := fun M0 => by
  refine Ct_of (by decide) (Nat.le_of_ble_eq_true rfl) ?_
  refine V_ar_n d_Mod_placeAll_0 rfl ?_
  refine VR_geta d_Mod_placeAll_1 f_Mod_62 (by decide) ?_
  refine V_iconst (v := nI 0) d_Mod_placeAll_4 (by decide) ?_
  refine V_iconst (v := 0) d_Mod_placeAll_5 (by decide) ?_
  refine VR_iast hA d_Mod_placeAll_6 rfl (by omega) (by decide) ?_
  refine V_ar_n d_Mod_placeAll_7 rfl ?_
  refine VR_geta d_Mod_placeAll_8 f_Mod_65 (by decide) ?_
  refine V_iconst (v := nI 0) d_Mod_placeAll_11 (by decide) ?_
  refine V_ar_n d_Mod_placeAll_12 rfl ?_
  refine VR_geta d_Mod_placeAll_13 f_Mod_16 (by decide) ?_
  refine V_iload_n d_Mod_placeAll_16 rfl ?_
  refine VR_iald hA d_Mod_placeAll_17 rfl (by omega) (by decide) ?_
  refine VR_iast hA d_Mod_placeAll_18 rfl (by omega) (by decide) ?_
  refine V_ar_n d_Mod_placeAll_19 rfl ?_
  refine V_iconst (v := nI 0) d_Mod_placeAll_20 (by decide) ?_
  refine VR_puti d_Mod_placeAll_21 f_Mod_160 (by decide) ?_
  refine V_ar_n d_Mod_placeAll_24 rfl ?_
  refine V_iload_n d_Mod_placeAll_25 rfl ?_
  refine V_iload_n d_Mod_placeAll_26 rfl ?_
  refine VR_cv2 d_Mod_placeAll_27 c_Mod_167 (Mod_enter hA rfl (by decide) (Nat.le_refl b) (by omega) (by omega)) ⟨by decide, by decide⟩ rfl (Nat.le_of_ble_eq_true rfl) ?_
  refine V_iload_n d_Mod_placeAll_30 rfl ?_
  refine V_iconst (v := nI 1) d_Mod_placeAll_31 (by decide) ?_
  refine V_iadd d_Mod_placeAll_32 ?_
  refine V_eqi (nI_add b 1) ?_
  refine V_istore_n (lv' := [(3, .int (nI (b + 1))), (0, .ref o), (1, .int (nI b)), (2, .int (nI n))]) d_Mod_placeAll_33 (by decide) rfl ?_
  refine V_lv [1, 2, 3, 0] rfl ?_
  exact PL_34 hA hbn hn (n - 1) (b + 1) (pl0 r b) (by omega) (by omega) hok
