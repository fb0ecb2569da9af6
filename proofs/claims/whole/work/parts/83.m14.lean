/-! the class's loop: from item to item -/
theorem mvS_G (s : PS) (x y : Int32) : xG (mvS s x y) = xG s := by
  unfold mvS
  split
  · rfl
  · split <;> rfl
theorem ruS_G (s : PS) (F I : Nat → Int32) : xG (ruS s F I) = xG s := by unfold ruS; split <;> rfl
theorem ad_n (F : Nat → Int32) (x : Rec) {k : Nat} (h : k ≠ 11) : advX F x k = F k := va_up_ne _ _ h
theorem ruL_ad (F : Nat → Int32) (x : Rec) (I : Nat → Int32) : ruL (advX F x) I = ruL F I := by
  unfold ruL exO hOf dOf wOf
  rw [ad_n F x (by decide : 5 ≠ 11), ad_n F x (by decide : 6 ≠ 11), ad_n F x (by decide : 7 ≠ 11), ad_n F x (by decide : 8 ≠ 11)]
theorem ruW_ad (F : Nat → Int32) (x : Rec) (ws : WS) (I : Nat → Int32) : ruW (advX F x) ws I = ruW F ws I := by
  unfold ruW
  rw [ruL_ad, ad_n F x (by decide : 5 ≠ 11)]
theorem iwn_ad (F : Nat → Int32) (x : Rec) (I : Nat → Int32) : iwn (advX F x) I = iwn F I := by
  unfold iwn exO hOf dOf wOf
  rw [ad_n F x (by decide : 6 ≠ 11), ad_n F x (by decide : 7 ≠ 11), ad_n F x (by decide : 8 ≠ 11)]
theorem u27 (s : PS) : ¬ (uI s 27 1).1 27 = 0 := by rw [uI_s]; decide
theorem OS_27 (s : PS) (i : Nat) : OS i s (uI s 27 1) := ⟨rfl, rfl, fun j _ _ hj _ => uI_n _ _ hj, fun _ _ => rfl, Nat.le_refl _⟩
section it
variable {A : FD} {F0 : FI} {s : PS} {i B : Nat} {F : Nat → Int32} {q : Option Nat} {ws w1 : WS} {x : Rec}
abbrev SV (i : Nat) (s s' : PS) : Prop := (xG s' i).2.2 = (xG s i).2.2
theorem EF_A (h : St A F0 s i F q ws) : EF i B 0 s (wiA s i x.1) ∧ SV i s (wiA s i x.1) := by
  refine ⟨EF_0 (St_A h x).2 rfl rfl, ?_⟩
  show (va_up (xG s) i _ i).2.2 = _
  rw [va_up_self]
theorem EF_nx (h : St A F0 s i F q ws) (nx : Option Nat) : EF i B 0 s (nxS s i nx) ∧ SV i s (nxS s i nx) := by
  refine ⟨EF_0 (St_nx h nx).2 rfl rfl, ?_⟩
  show (va_up (xG s) i _ i).2.2 = _
  rw [va_up_self]
theorem it_bad {m : Nat} (h : St A F0 s i F q ws) (h3 : ¬ x.1 0 = 3) (hb : badX F x) : ¬ (wi0 s i x.1 m).1 27 = 0 ∧ EF i B 30 s (wi0 s i x.1 m) := by
  have e : wi0 s i x.1 m = uI s 27 1 := by
    unfold wi0
    rw [h.2.1]
    unfold badX at hb
    rw [if_neg h3] at hb
    exact if_pos hb
  rw [e]
  exact ⟨u27 s, EF_mono (EF_0 (B := B) (OS_27 s i) rfl rfl) (Nat.le_refl _) (Nat.le_refl _) (Nat.zero_le _)⟩
theorem it_neg {m : Nat} (h : St A F0 s i F q ws) (h3 : ¬ x.1 0 = 3) (hb : ¬ badX F x) : wi0 s i x.1 m = if iwn F x.1 = 0 then wiA s i x.1 else if x.1 0 = 1 then ruS (wiB s i x.1) (advX F x) x.1 else wc1 (wiB s i x.1) x.1 m := by
  have hA := (St_A h x).1
  unfold wi0
  unfold badX at hb
  rw [if_neg h3] at hb
  have hG : (xG (wiB s i x.1) i).1 = advX F x := by unfold wiB; rw [mvS_G]; exact hA.2.1
  rw [hG, hA.2.1, iwn_ad, h.2.1]
  exact if_neg hb
theorem wiB_e (h : St A F0 s i F q ws) : wiB s i x.1 = mvS (wiA s i x.1) (rgO F x.1).toInt32 (dnO F x.1).toInt32 := by
  unfold wiB
  rw [h.2.1]
theorem EF_B (h : St A F0 s i F q ws) : EF i B 10 s (wiB s i x.1) ∧ SV i s (wiB s i x.1) := by
  have hA := EF_A (B := B) (x := x) h
  rw [wiB_e h]
  have hO : OS i (wiA s i x.1) (mvS (wiA s i x.1) (rgO F x.1).toInt32 (dnO F x.1).toInt32) := by
    cases hm : mvW ws (rgO F x.1).toInt32 (dnO F x.1).toInt32 with
    | none => exact (St_mvN (St_A h x).1 hm).2
    | some w1 => exact (St_mv (St_A h x).1 hm).2
  refine ⟨EF_mono (EF_tr hA.1 (EF_mv hO)) (Nat.le_refl _) (Nat.le_refl _) (by omega), ?_⟩
  show (xG (mvS _ _ _) i).2.2 = _
  rw [mvS_G]
  exact hA.2
theorem it_skip {m : Nat} (h : St A F0 s i F q ws) (h3 : ¬ x.1 0 = 3) (hb : ¬ badX F x) (hs : skpX F x) : St A F0 (wi0 s i x.1 m) i (advX F x) q ws ∧ EF i B 30 s (wi0 s i x.1 m) ∧ SV i s (wi0 s i x.1 m) := by
  unfold skpX at hs
  rw [if_neg h3] at hs
  rw [it_neg h h3 hb, if_pos hs]
  exact ⟨(St_A h x).1, EF_mono (EF_A h).1 (Nat.le_refl _) (Nat.le_refl _) (by omega), (EF_A (B := B) h).2⟩
theorem it_mvN {m : Nat} (h : St A F0 s i F q ws) (h3 : ¬ x.1 0 = 3) (hb : ¬ badX F x) (hs : ¬ skpX F x) (hm : mvW ws (rgO F x.1).toInt32 (dnO F x.1).toInt32 = none) : ¬ (wi0 s i x.1 m).1 27 = 0 ∧ EF i B 30 s (wi0 s i x.1 m) := by
  unfold skpX at hs
  rw [if_neg h3] at hs
  rw [it_neg h h3 hb, if_neg hs]
  have hB := (EF_B (B := B) (x := x) h).1
  have h27 : (wiB s i x.1).1 27 = 1 := by rw [wiB_e h]; exact (St_mvN (St_A h x).1 hm).1
  by_cases h1 : x.1 0 = 1
  · rw [if_pos h1]
    refine ⟨by rw [(ruS_27 _ _ _).1, h27]; decide, EF_mono (EF_tr hB (EF_ru _ _ _)) (Nat.le_refl _) (Nat.le_refl _) (by omega)⟩
  · rw [if_neg h1]
    refine ⟨by rw [(wc1_S _ _ _).1, h27]; decide, EF_mono (EF_tr hB (EF_ch _ _ _)) (Nat.le_refl _) (Nat.le_refl _) (by omega)⟩
theorem it_rul {m : Nat} (h : St A F0 s i F q ws) (h1 : x.1 0 = 1) (hb : ¬ badX F x) (hs : ¬ skpX F x) (hm : mvW ws (rgO F x.1).toInt32 (dnO F x.1).toInt32 = some w1) : St A F0 (wi0 s i x.1 m) i (advX F x) q (ruW F w1 x.1) ∧ EF i B 30 s (wi0 s i x.1 m) ∧ SV i s (wi0 s i x.1 m) := by
  have h3 : ¬ x.1 0 = 3 := by rw [h1]; decide
  unfold skpX at hs
  rw [if_neg h3] at hs
  rw [it_neg h h3 hb, if_neg hs, if_pos h1]
  have hB := EF_B (B := B) (x := x) h
  have hS : St A F0 (wiB s i x.1) i (advX F x) q w1 := by rw [wiB_e h]; exact (St_mv (St_A h x).1 hm).1
  refine ⟨by rw [← ruW_ad]; exact St_ru hS x.1, EF_mono (EF_tr hB.1 (EF_ru _ _ _)) (Nat.le_refl _) (Nat.le_refl _) (by omega), ?_⟩
  show (xG (ruS _ _ _) i).2.2 = _
  rw [ruS_G]
  exact hB.2
theorem it_chr {m : Nat} (h : St A F0 s i F q ws) (h3 : ¬ x.1 0 = 3) (h1 : ¬ x.1 0 = 1) (hb : ¬ badX F x) (hs : ¬ skpX F x) (hm : mvW ws (rgO F x.1).toInt32 (dnO F x.1).toInt32 = some w1) : St A F0 (wi0 s i x.1 m) i (advX F x) q (chW A w1 x.1 m) ∧ EF i B 30 s (wi0 s i x.1 m) ∧ SV i s (wi0 s i x.1 m) := by
  unfold skpX at hs
  rw [if_neg h3] at hs
  rw [it_neg h h3 hb, if_neg hs, if_neg h1]
  have hB := EF_B (B := B) (x := x) h
  have hS : St A F0 (wiB s i x.1) i (advX F x) q w1 := by rw [wiB_e h]; exact (St_mv (St_A h x).1 hm).1
  refine ⟨(St_ch hS x.1 m).1, EF_mono (EF_tr hB.1 (EF_ch _ _ _)) (Nat.le_refl _) (Nat.le_refl _) (by omega), ?_⟩
  show (xG (wc1 _ _ _) i).2.2 = _
  rw [(wc1_S _ _ _).2.2.2.2.2.2.2.2.1]
  exact hB.2
/-! a box -/
abbrev W1 (s : PS) (i : Nat) (x : Rec) (fo : Option Nat) : PS := wi1 s i x.1 x.2.1 (x.1 1) (x.1 2) (x.1 3) fo
abbrev W1i (s : PS) (i : Nat) (x : Rec) (fo : Option Nat) : Nat := wi1i s i x.1 x.2.1 (x.1 2) fo
theorem bx_bad {fo : Option Nat} (h : St A F0 s i F q ws) (h3 : x.1 0 = 3) (hb : badX F x) : ¬ (W1 s i x fo).1 27 = 0 ∧ EF i B 30 s (W1 s i x fo) ∧ W1i s i x fo = i := by
  unfold badX at hb
  rw [if_pos h3] at hb
  have e : W1 s i x fo = uI s 27 1 := by
    show wi1 s i x.1 x.2.1 (x.1 1) (x.1 2) (x.1 3) fo = _
    unfold wi1
    rw [h.2.1]
    exact if_pos hb
  have e2 : W1i s i x fo = i := by
    show wi1i s i x.1 x.2.1 (x.1 2) fo = _
    unfold wi1i
    rw [h.2.1]
    exact if_pos hb
  rw [e]
  exact ⟨u27 s, EF_mono (EF_0 (B := B) (OS_27 s i) rfl rfl) (Nat.le_refl _) (Nat.le_refl _) (Nat.zero_le _), e2⟩
theorem bx_skip (h : St A F0 s i F q ws) (h3 : x.1 0 = 3) (hb : ¬ badX F x) : St A F0 (W1 s i x none) i (advX F x) q ws ∧ EF i B 30 s (W1 s i x none) ∧ SV i s (W1 s i x none) ∧ W1i s i x none = i := by
  unfold badX at hb
  rw [if_pos h3] at hb
  have e : W1 s i x none = wiA s i x.1 := by
    show wi1 s i x.1 x.2.1 (x.1 1) (x.1 2) (x.1 3) none = _
    unfold wi1
    rw [h.2.1]
    exact (if_neg hb).trans (if_pos rfl)
  have e2 : W1i s i x none = i := by
    show wi1i s i x.1 x.2.1 (x.1 2) none = _
    unfold wi1i
    rw [h.2.1]
    exact (if_neg hb).trans (if_pos rfl)
  rw [e]
  exact ⟨(St_A h x).1, EF_mono (EF_A h).1 (Nat.le_refl _) (Nat.le_refl _) (by omega), (EF_A (B := B) h).2, e2⟩
theorem bx_in {c : Nat} (h : St A F0 s i F q ws) (h3 : x.1 0 = 3) (hb : ¬ badX F x) : W1 s i x (some c) = enS (inS (wiB s i x.1) i) (i + 1) x.2.1 (x.1 1) (x.1 2) (x.1 3) (some c) ∧ W1i s i x (some c) = i + 1 := by
  unfold badX at hb
  rw [if_pos h3] at hb
  refine ⟨?_, ?_⟩
  · show wi1 s i x.1 x.2.1 (x.1 1) (x.1 2) (x.1 3) (some c) = _
    unfold wi1
    rw [h.2.1]
    exact (if_neg hb).trans (if_neg (show ¬ (1 : Int32) = 0 by decide))
  · show wi1i s i x.1 x.2.1 (x.1 2) (some c) = _
    unfold wi1i
    rw [h.2.1]
    exact (if_neg hb).trans (if_neg (show ¬ (1 : Int32) = 0 by decide))
end it
/-! the whole run -/
def cR (A : FD) (F0 : FI) (Z : MP) (i len : Nat) (s : PS) : Option WS → Prop
  | some ws' => ∃ s' F', St A F0 s' i F' none ws' ∧ EF i (i + 1 + len) (30 * len) s s' ∧ SV i s s' ∧ ws'.2.2.2.2.1 ≤ 5000 ∧ ∃ k, k ≤ 2 * len ∧ ∀ N sE, cRun Z N s' i sE → cRun Z (N + k) s i sE
  | none => ∃ sE, ¬ sE.1 27 = 0 ∧ EF i (i + 1 + len) (30 * len) s sE ∧ ∃ k, k ≤ 2 * len + 1 ∧ cRun Z k s i sE
theorem cR_step {A : FD} {F0 : FI} {Z : MP} {i l0 len : Nat} {s s1 : PS} {r : Option WS} {k0 : Nat} (hE : EF i (i + 1 + l0) (30 * l0) s s1) (hV : SV i s s1) (hk : k0 ≤ 2 * l0) (hr : ∀ N sE, cRun Z N s1 i sE → cRun Z (N + k0) s i sE) (h : cR A F0 Z i len s1 r) : cR A F0 Z i (l0 + len) s r := by
  cases r with
  | some ws' =>
    obtain ⟨s', F', h1, h2, h3, h4, k, h5, h6⟩ := h
    refine ⟨s', F', h1, EF_mono (EF_tr (EF_mono hE (Nat.le_refl _) (by omega) (Nat.le_refl _)) (EF_mono h2 (B' := i + 1 + (l0 + len)) (Nat.le_refl _) (by omega) (Nat.le_refl _))) (Nat.le_refl _) (Nat.le_refl _) (by omega), h3.trans hV, h4, k + k0, by omega, fun N sE hN => ?_⟩
    rw [show N + (k + k0) = N + k + k0 by omega]
    exact hr _ _ (h6 N sE hN)
  | none =>
    obtain ⟨sE, h1, h2, k, h5, h6⟩ := h
    exact ⟨sE, h1, EF_mono (EF_tr (EF_mono hE (Nat.le_refl _) (by omega) (Nat.le_refl _)) (EF_mono h2 (B' := i + 1 + (l0 + len)) (Nat.le_refl _) (by omega) (Nat.le_refl _))) (Nat.le_refl _) (Nat.le_refl _) (by omega), k + k0, by omega, hr _ _ h6⟩
theorem cR_bad {A : FD} {F0 : FI} {Z : MP} {i j len : Nat} {s s1 : PS} (hE : EF i (i + 1 + (len + 1)) (30 * (len + 1)) s s1) (h27 : ¬ s1.1 27 = 0) (hr : ∀ N sE, cRun Z N s1 j sE → cRun Z (N + 1) s i sE) : cR A F0 Z i (len + 1) s none := ⟨s1, h27, hE, 2, by omega, hr 1 s1 (cR_fail h27)⟩
