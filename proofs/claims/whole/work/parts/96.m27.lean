/-! the class writes a page -/
def wz (u : Int32) : WS := ((0, 0, 0, false), (0, 0, 0, false), -1, u, 0, [])
noncomputable def pgF (A : FD) (v w h d : Int32) (c : List Rec) (u : Int32) : Option WS :=
  if c = [] then some (wz u) else match mvW (wz u) 0 h with
    | none => none
    | some w1 => match abF A c.length 0 (bgF v w h d w1.1.1 w1.2.1.1) c (enW w1 1) with
      | none => none
      | some w2 => some (leW w2 w1.1 w1.2.1)
theorem mvW_pg {u h : Int32} (hh : sz4 h) : ∃ w1, mvW (wz u) 0 h = some w1 := by
  have h1 : goA 0 ((0, 0, 0, false) : TR) ≠ 0 := by decide
  have h2 : goA h ((0, 0, 0, false) : TR) ≠ 0 := by
    unfold goA
    by_cases h0 : gmv h ((0, 0, 0, false) : TR) = 0
    · rw [if_pos h0]; decide
    · rw [if_neg h0]
      have e : gmv h ((0, 0, 0, false) : TR) = h.toInt64 := Int64.sub_zero _
      rw [e, if_neg]
      · decide
      · intro z
        refine hh ?_
        unfold iszl at z
        unfold isz
        by_cases hc : -1073741823 ≤ h ∧ h ≤ 1073741823
        · exfalso
          rw [if_pos] at z
          · exact absurd z (by decide)
          · have e1 : (-1073741823 : Int32).toInt64 = -1073741823 := by decide
            have e2 : (1073741823 : Int32).toInt64 = 1073741823 := by decide
            refine ⟨((c32_lt rfl e1).2).mp hc.1, ?_⟩
            have := (c32_gt (x := h) rfl e2)
            exact Int64.not_lt.mp (fun y => Int32.not_lt.mpr hc.2 (this.mpr y))
        · exact if_neg hc
  exact ⟨_, if_neg (fun z => z.elim h1 h2)⟩
section cp
variable {A : FD} {F0 : FI} {s : PS} {F : Nat → Int32} {q : Option Nat} {ws : WS}
theorem St_en0 (h : St A F0 s 0 F q ws) (v w h' d : Int32) (fo : Option Nat) (hlt : ws.2.2.2.2.1 < 10000) : St A F0 (enS s 0 v w h' d fo) 0 (bgF v w h' d ws.1.1 ws.2.1.1) fo (enW ws 1) ∧ OS 0 s (enS s 0 v w h' d fo) ∧ (xG (enS s 0 v w h' d fo) 0).2.2 = (ws.1, ws.2.1) := by
  obtain ⟨h1, h2, h3, h4, h5, h6, h7, h8, h9, h10, h11⟩ := h
  have hG : xG (enS s 0 v w h' d fo) = va_up (xG s) 0 (bgF v w h' d (xT s 0).1 (xT s 1).1, fo, xT s 0, xT s 1) := rfl
  have h1' : ∀ j, j ≠ 26 → (enS s 0 v w h' d fo).1 j = s.1 j := fun j hj => by
    unfold enS
    exact uI_n _ _ hj
  refine ⟨⟨by rw [enS_N]; exact h1, ?_, ?_, h4, h5, (h1' 25 (by decide)).trans h6, (h1' 30 (by decide)).trans h7, ?_, (h1' 27 (by decide)).trans h9, ?_, h11⟩, ⟨rfl, rfl, fun j _ hj _ _ => h1' j hj, fun j hj => absurd hj (Nat.not_lt_zero _), Nat.le_refl _⟩, ?_⟩
  · rw [hG, va_up_self, h4, h5]
  · rw [hG, va_up_self]
  · unfold enS
    rw [uI_s, h8]
    show _ = nI (max ws.2.2.2.2.1 1)
    by_cases hh : ws.2.2.2.2.1 < 0 + 1
    · rw [if_pos (nI_lt hh (by omega)), Nat.max_eq_right (by omega)]
    · rw [if_neg (nI_nlt (by omega) (by omega)), Nat.max_eq_left (by omega)]
  · rw [enS_F, h10, ← fwr_app]; rfl
  · rw [hG, va_up_self, h4, h5]
theorem wbs0_27 (s : PS) : (wbs0 s).1 27 = 0 ∧ (wbs0 s).1 26 = 0 ∧ (wbs0 s).1 25 = -1 ∧ (∀ j, j ≠ 25 → j ≠ 26 → j ≠ 27 → (wbs0 s).1 j = s.1 j) := by
  unfold wbs0
  refine ⟨uI_s _ _ _, (uI_n _ _ (by decide)).trans (uI_s _ _ _), (uI_n _ _ (by decide)).trans ((uI_n _ _ (by decide)).trans (uI_s _ _ _)), fun j h1 h2 h3 => ?_⟩
  rw [uI_n _ _ h3, uI_n _ _ h2, uI_n _ _ h1]
theorem St_0 (s : PS) (hN : 0 < xN s) : St s.2.2.1 (xF s) (wbs0 s) 0 (xG s 0).1 (xG s 0).2.1 (wz (s.1 30)) := by
  obtain ⟨a1, a2, a3, a4⟩ := wbs0_27 s
  refine ⟨hN, rfl, rfl, ?_, ?_, a3, a4 30 (by decide) (by decide) (by decide), a2, a1, rfl, rfl⟩
  · exact (uT_n _ _ (by decide)).trans (uT_s _ 0 _)
  · exact uT_s _ 1 _
theorem OS_0 (s : PS) : OS 0 s (wbs0 s) := by
  obtain ⟨a1, a2, a3, a4⟩ := wbs0_27 s
  exact ⟨rfl, rfl, fun j b1 b2 b3 _ => a4 j b1 b2 b3, fun j hj => absurd hj (Nat.not_lt_zero _), Nat.le_refl _⟩
end cp
/-- what is known of the class behind a page -/
def cPG (s sE : PS) (len : Nat) : Option WS → Prop
  | some w3 => OS 0 s sE ∧ xN sE ≤ max (xN s) (1 + len) ∧ sE.1 27 = 0 ∧ xF sE = fwr (xF s) w3.2.2.2.2.2 ∧ sE.1 30 = w3.2.2.2.1 ∧ sE.1 26 = nI w3.2.2.2.2.1 ∧ GR s sE (30 * len + 20)
  | none => OS 0 s sE ∧ xN sE ≤ max (xN s) (1 + len) ∧ ¬ sE.1 27 = 0 ∧ GR s sE (30 * len + 20)
theorem c_page {Zf Z : MP} (hZ : ∀ a e, Zf a = some e → Z a = some e) (s : PS) (hN : 0 < xN s) {v w h d : Int32} {fo : Option Nat} {c : List Rec} {dd : Nat} (hP : PX Zf fo v c dd) (hh : sz4 h) (hlen : c.length ≤ 3000) : ∃ sE, pRun Z s v w h d fo sE ∧ cPG s sE c.length (pgF s.2.2.1 v w h d c (s.1 30)) := by
  have hnil : fo = none ↔ c = [] := by
    obtain ⟨k, hP'⟩ := hP
    exact CH_nil hP'
  have h0 := wbs0_27 s
  cases fo with
  | none =>
    have hc := hnil.mp rfl
    subst hc
    refine ⟨wbs0 s, rfl, ?_⟩
    unfold pgF
    rw [if_pos rfl]
    exact ⟨OS_0 s, Nat.le_max_left _ _, h0.1, rfl, h0.2.2.2 30 (by decide) (by decide) (by decide), h0.2.1, [], rfl, Nat.zero_le _, fun _ z => by cases z⟩
  | some a =>
    have hc : c ≠ [] := fun z => by cases hnil.mpr z
    have hl0 : c.length ≠ 0 := fun z => hc (List.length_eq_zero_iff.mp z)
    obtain ⟨w1, hm⟩ := mvW_pg (u := s.1 30) hh
    have hms := mvW_sum hm
    have hS1 := St_mv (St_0 s hN) hm
    have hw1 : w1.2.2.2.2.1 = 0 := hms.2
    have hE1 : EF 0 (1 + c.length) 10 (wbs0 s) (mvS (wbs0 s) 0 h) := EF_mv hS1.2
    obtain ⟨k1, k2, k3⟩ := St_en0 hS1.1 v w h d (some a) (by omega)
    have hE2 : EF 0 (1 + c.length) 1 (mvS (wbs0 s) 0 h) (enS (mvS (wbs0 s) 0 h) 0 v w h d (some a)) := ⟨k2, ⟨[(141, 1)], enS_F _ _ _ _ _ _ _, by decide, fun p hp => by rw [List.mem_singleton.mp hp]; decide⟩, by rw [enS_N]; omega⟩
    have hE0 : EF 0 (1 + c.length) 0 s (wbs0 s) := EF_0 (OS_0 s) rfl rfl
    obtain ⟨ts, hts, hch⟩ := PX_ts hP
    have hR := c_real (A := s.2.2.1) (F0 := xF s) hZ c.length hch k1 (by rw [hts]; exact Nat.le_refl _) (show max w1.2.2.2.2.1 1 ≤ 5000 by omega) (by rw [← hts]; omega)
    rw [← hts] at hR
    have hpg : pgF s.2.2.1 v w h d c (s.1 30) = match abF s.2.2.1 c.length 0 (bgF v w h d w1.1.1 w1.2.1.1) c (enW w1 1) with
      | none => none
      | some w2 => some (leW w2 w1.1 w1.2.1) := by
      unfold pgF
      rw [if_neg hc, hm]
    rw [hpg]
    have hE := EF_tr (EF_tr hE0 hE1) hE2
    have hwb : wbs1 s v w h d (some a) = enS (mvS (wbs0 s) 0 h) 0 v w h d (some a) := rfl
    generalize enS (mvS (wbs0 s) 0 h) 0 v w h d (some a) = s1 at k1 k2 k3 hE hE2 hR hwb
    cases hab : abF s.2.2.1 c.length 0 (bgF v w h d w1.1.1 w1.2.1.1) c (enW w1 1) with
    | none =>
      rw [hab] at hR
      obtain ⟨sE, z1, z2, k, z3, z4⟩ := hR
      have hEE := EF_tr hE (EF_mono z2 (B' := 1 + c.length) (Nat.le_refl _) (by omega) (Nat.le_refl _))
      refine ⟨sE, ⟨k, by omega, by rw [hwb]; exact z4⟩, hEE.1, hEE.2.2, z1, ?_⟩
      obtain ⟨m, g1, g2, g3⟩ := hEE.2.1
      exact ⟨m, g1, by omega, g3⟩
    | some w2 =>
      rw [hab] at hR
      obtain ⟨s2, F2, z1, z2, z3, z4, k, z5, z6⟩ := hR
      have hEE := EF_tr hE (EF_mono z2 (B' := 1 + c.length) (Nat.le_refl _) (by omega) (Nat.le_refl _))
      have hOl : OS 0 s2 (leS s2 0) := ⟨rfl, rfl, fun _ _ _ _ _ => rfl, fun _ _ => rfl, Nat.le_refl _⟩
      refine ⟨leS s2 0, ⟨1 + k, by omega, by rw [hwb]; exact z6 1 _ (cR_end z1.2.2.2.2.2.2.2.2.1 z1.2.2.1)⟩, OS_tr hEE.1 hOl, by rw [leS_N]; exact hEE.2.2, z1.2.2.2.2.2.2.2.2.1, ?_, z1.2.2.2.2.2.2.1, z1.2.2.2.2.2.2.2.1, ?_⟩
      · rw [leS_F, z1.2.2.2.2.2.2.2.2.2.1, ← fwr_app]; rfl
      · obtain ⟨m, g1, g2, g3⟩ := hEE.2.1
        refine ⟨m ++ [(142, 1)], by rw [leS_F, g1, fwr_app], by rw [wsum_app]; show wsum m + 1 ≤ _; omega, fun p hp => ?_⟩
        rcases List.mem_append.mp hp with z | z
        · exact g3 p z
        · rw [List.mem_singleton.mp z]; decide
