/-! the class's loop realises abF -/
theorem fmX_e {x : Rec} {m : Nat} (hm : m < 32) (h : x.1 4 = nI m) : fmX x = m := by
  unfold fmX
  rw [h, nI_clamp (by omega)]
theorem enI27 (s : PS) (i j : Nat) (v w h d : Int32) (fo : Option Nat) : (enS (inS s i) j v w h d fo).1 27 = s.1 27 := by
  unfold enS
  rw [uI_n _ _ (by decide : 27 ≠ 26)]
  exact congrFun (inS_S s i).1 27
set_option maxHeartbeats 4000000 in
theorem c_real {A : FD} {F0 : FI} {Zf Z : MP} (hZ : ∀ a e, Zf a = some e → Z a = some e) : ∀ (n : Nat) {ts : List TRE} {v : Int32} {q : Option Nat} {s : PS} {i : Nat} {F : Nat → Int32} {ws : WS}, chn (PX Zf) Zf v q ts → St A F0 s i F q ws → (flt ts).length ≤ n → ws.2.2.2.2.1 ≤ 5000 → i + (flt ts).length + 2 ≤ 5000 → cR A F0 Z i (flt ts).length s (abF A n i F (flt ts) ws) := by
  intro n
  induction n with
  | zero =>
    intro ts v q s i F ws hc hS hl hd hi
    cases ts with
    | nil =>
      have hc : q = none := hc
      subst hc
      exact ⟨s, F, hS, EF_mono (EF_0 (B := i + 1) (OS_rf i s) rfl rfl) (Nat.le_refl _) (Nat.le_refl _) (Nat.zero_le _), rfl, hd, 0, Nat.zero_le _, fun _ _ h => h⟩
    | cons p ts => exact absurd hl (by show ¬ (_ + 1 ≤ 0); omega)
  | succ n ih =>
    intro ts v q s i F ws hc hS hl hd hi
    cases ts with
    | nil =>
      have hc : q = none := hc
      subst hc
      exact ⟨s, F, hS, EF_mono (EF_0 (B := i + 1) (OS_rf i s) rfl rfl) (Nat.le_refl _) (Nat.le_refl _) (Nat.zero_le _), rfl, hd, 0, Nat.zero_le _, fun _ _ h => h⟩
    | cons p ts =>
      obtain ⟨a, nx, bo, rfl, hZa, ⟨hNK, hit⟩, hrest⟩ := hc
      have hlen : (flt (p :: ts)).length = (p.2.length + 1) + (flt ts).length := by show (p.2 ++ flt ts).length + 1 = _; rw [List.length_append]; omega
      rw [hlen] at hl hi ⊢
      have hZa' := hZ _ _ hZa
      obtain ⟨hS1, -⟩ := St_nx hS nx
      obtain ⟨hE1, hV1⟩ := EF_nx (B := i + 1 + (p.2.length + 1)) hS nx
      obtain ⟨m, hm, h4⟩ := hNK.2.2.2.1
      have hfm := fmX_e hm h4
      rcases hit with ⟨h3, rfl, -, -⟩ | ⟨h3, b, fo, rfl, hZb, hP⟩
      · have hp2 : p.2 = [] := by
          rcases hNK.2.1 with z | z
          · exact absurd z.1 h3
          · exact z.2
        have hk : p.1.1 0 = 0 ∨ p.1.1 0 = 1 ∨ p.1.1 0 = 2 := by
          rcases hNK.2.2.1 with z | z | z | z
          · exact Or.inl z
          · exact Or.inr (Or.inl z)
          · exact Or.inr (Or.inr z)
          · exact absurd z h3
        have hflt : flt (p :: ts) = p.1 :: flt ts := by show p.1 :: (p.2 ++ flt ts) = _; rw [hp2]; rfl
        have hl0 : p.2.length = 0 := by rw [hp2]; rfl
        have hr : ∀ N sE, cRun Z N (wi0 (nxS s i nx) i p.1.1 m) i sE → cRun Z (N + 1) s i sE := fun N sE h => cR_item hS.2.2.2.2.2.2.2.2.1 hS.2.2.1 hZa' hk hm h4 h
        rw [hflt]
        by_cases hb : badX F p.1
        · rw [ab_bad hb]
          obtain ⟨g1, g2⟩ := it_bad (m := m) (B := i + 1 + (p.2.length + 1)) hS1 h3 hb
          have hz : cR A F0 Z i (p.2.length + 1) s none := cR_bad (EF_mono (EF_tr hE1 g2) (Nat.le_refl _) (Nat.le_refl _) (by omega)) g1 hr
          obtain ⟨sE, z1, z2, k, z3, z4⟩ := hz
          exact ⟨sE, z1, EF_mono z2 (Nat.le_refl _) (by omega) (by omega), k, by omega, z4⟩
        · by_cases hs : skpX F p.1
          · rw [ab_skip hb hs]
            obtain ⟨g1, g2, g3⟩ := it_skip (m := m) (B := i + 1 + (p.2.length + 1)) hS1 h3 hb hs
            exact cR_step (EF_mono (EF_tr hE1 g2) (Nat.le_refl _) (Nat.le_refl _) (by omega)) (g3.trans hV1) (by omega) hr (ih hrest g1 (by omega) hd (by omega))
          · cases hw : mvW ws (rgO F p.1.1).toInt32 (dnO F p.1.1).toInt32 with
            | none =>
              rw [ab_mv hb hs hw]
              obtain ⟨g1, g2⟩ := it_mvN (m := m) (B := i + 1 + (p.2.length + 1)) hS1 h3 hb hs hw
              have hz : cR A F0 Z i (p.2.length + 1) s none := cR_bad (EF_mono (EF_tr hE1 g2) (Nat.le_refl _) (Nat.le_refl _) (by omega)) g1 hr
              obtain ⟨sE, z1, z2, k, z3, z4⟩ := hz
              exact ⟨sE, z1, EF_mono z2 (Nat.le_refl _) (by omega) (by omega), k, by omega, z4⟩
            | some w1 =>
              have hw1 : w1.2.2.2.2.1 = ws.2.2.2.2.1 := by rw [(mvW_some hw).2.2]
              by_cases h1 : p.1.1 0 = 1
              · rw [ab_rul hb hs hw h1]
                obtain ⟨g1, g2, g3⟩ := it_rul (m := m) (B := i + 1 + (p.2.length + 1)) hS1 h1 hb hs hw
                exact cR_step (EF_mono (EF_tr hE1 g2) (Nat.le_refl _) (Nat.le_refl _) (by omega)) (g3.trans hV1) (by omega) hr (ih hrest g1 (by omega) (show w1.2.2.2.2.1 ≤ 5000 by omega) (by omega))
              · rw [ab_chr hb hs hw h3 h1, hfm]
                obtain ⟨g1, g2, g3⟩ := it_chr (m := m) (B := i + 1 + (p.2.length + 1)) hS1 h3 h1 hb hs hw
                exact cR_step (EF_mono (EF_tr hE1 g2) (Nat.le_refl _) (Nat.le_refl _) (by omega)) (g3.trans hV1) (by omega) hr (ih hrest g1 (by omega) (show w1.2.2.2.2.1 ≤ 5000 by omega) (by omega))
      · have hv : isz1 p.1.2.1 := by
          rcases hNK.2.1 with z | z
          · exact z.2.1
          · exact absurd h3 z.1
        have hsp := hNK.1
        have hZb' := hZ _ _ hZb
        have hr : ∀ N sE, cRun Z N (W1 (nxS s i nx) i p.1 fo) (W1i (nxS s i nx) i p.1 fo) sE → cRun Z (N + 1) s i sE := fun N sE h => cR_box hS.2.2.2.2.2.2.2.2.1 hS.2.2.1 hZa' hZb' hv h3 h
        have hflt : flt (p :: ts) = p.1 :: (p.2 ++ flt ts) := rfl
        have hCN : fo = none ↔ p.2 = [] := by
          obtain ⟨k, hP'⟩ := hP
          exact CH_nil hP'
        rw [hflt]
        by_cases hb : badX F p.1
        · rw [ab_bad hb]
          obtain ⟨g1, g2, g3⟩ := bx_bad (fo := fo) (B := i + 1 + (p.2.length + 1)) hS1 h3 hb
          have hz : cR A F0 Z i (p.2.length + 1) s none := cR_bad (EF_mono (EF_tr hE1 g2) (Nat.le_refl _) (Nat.le_refl _) (by omega)) g1 hr
          obtain ⟨sE, z1, z2, k, z3, z4⟩ := hz
          exact ⟨sE, z1, EF_mono z2 (Nat.le_refl _) (by omega) (by omega), k, by omega, z4⟩
        · cases fo with
          | none =>
            have hp2 := hCN.mp rfl
            have hl0 : p.2.length = 0 := by rw [hp2]; rfl
            have hs : skpX F p.1 := by unfold skpX; rw [if_pos h3]; omega
            rw [ab_skip hb hs, hp2]
            obtain ⟨g1, g2, g3, g4⟩ := bx_skip (B := i + 1 + (p.2.length + 1)) hS1 h3 hb
            rw [g4] at hr
            rw [hl0] at g2 hE1
            exact cR_step (l0 := 1) (EF_mono (EF_tr hE1 g2) (Nat.le_refl _) (Nat.le_refl _) (by omega)) (g3.trans hV1) (by omega) hr (ih hrest g1 (by omega) hd (by omega))
          | some c =>
            have hp2 : p.2 ≠ [] := fun z => by cases hCN.mpr z
            have hl0 : p.2.length ≠ 0 := fun z => hp2 (List.length_eq_zero_iff.mp z)
            have hs : ¬ skpX F p.1 := by unfold skpX; rw [if_pos h3]; omega
            obtain ⟨e1, e2⟩ := bx_in (c := c) hS1 h3 hb
            rw [e1, e2] at hr
            have hB := EF_B (B := i + 1 + (p.2.length + 1)) (x := p.1) hS1
            have hNB : i < xN (wiB (nxS s i nx) i p.1.1) := Nat.lt_of_lt_of_le hS1.1 hB.1.1.2.2.2.2
            have hmN : mvW ws (rgO F p.1.1).toInt32 (dnO F p.1.1).toInt32 = none → (wiB (nxS s i nx) i p.1.1).1 27 = 1 := fun hw => by rw [wiB_e hS1]; exact (St_mvN (St_A hS1 p.1).1 hw).1
            have hmS : ∀ w1, mvW ws (rgO F p.1.1).toInt32 (dnO F p.1.1).toInt32 = some w1 → St A F0 (wiB (nxS s i nx) i p.1.1) i (advX F p.1) nx w1 := fun w1 hw => by rw [wiB_e hS1]; exact (St_mv (St_A hS1 p.1).1 hw).1
            generalize wiB (nxS s i nx) i p.1.1 = sB at hr hB hNB hmN hmS
            generalize nxS s i nx = s0 at hS1 hE1 hV1 hB
            have hEn := EF_en (B := i + 1 + (p.2.length + 1)) sB hNB p.1.2.1 (p.1.1 1) (p.1.1 2) (p.1.1 3) (some c) (by omega)
            cases hw : mvW ws (rgO F p.1.1).toInt32 (dnO F p.1.1).toInt32 with
            | none =>
              rw [ab_mv hb hs hw]
              have h27 := hmN hw
              have h27' : ¬ (enS (inS sB i) (i + 1) p.1.2.1 (p.1.1 1) (p.1.1 2) (p.1.1 3) (some c)).1 27 = 0 := by
                rw [enI27, h27]
                decide
              have hz : cR A F0 Z i (p.2.length + 1) s none := cR_bad (EF_mono (EF_tr (EF_tr hE1 hB.1) (EF_mono hEn (Nat.le_succ _) (Nat.le_refl _) (Nat.le_refl _))) (Nat.le_refl _) (Nat.le_refl _) (by omega)) h27' hr
              obtain ⟨sE, z1, z2, k, z3, z4⟩ := hz
              exact ⟨sE, z1, EF_mono z2 (Nat.le_refl _) (by omega) (by omega), k, by omega, z4⟩
            | some w1 =>
              have hw1 : w1.2.2.2.2.1 = ws.2.2.2.2.1 := by rw [(mvW_some hw).2.2]
              have hSB := hmS w1 hw
              obtain ⟨k1, k2, k3⟩ := St_en hSB p.1.2.1 (p.1.1 1) (p.1.1 2) (p.1.1 3) (some c) ⟨by omega, by omega⟩
              obtain ⟨ts', hts, hch⟩ := PX_ts hP
              have hIH := ih hch k1 (by rw [← hts]; omega) (show max w1.2.2.2.2.1 (i + 2) ≤ 5000 by omega) (by rw [← hts]; omega)
              rw [ab_box hb hs hw h3, hsp, Nat.add_sub_cancel, List.take_left' rfl, List.drop_left' rfl]
              rw [← hts] at hIH
              generalize hgen : enS (inS sB i) (i + 1) p.1.2.1 (p.1.1 1) (p.1.1 2) (p.1.1 3) (some c) = s1 at hr hEn k1 k2 k3 hIH
              clear hgen
              cases hab : abF A n (i + 1) (bgF p.1.2.1 (p.1.1 1) (p.1.1 2) (p.1.1 3) w1.1.1 w1.2.1.1) p.2 (enW w1 (i + 2)) with
              | none =>
                rw [hab] at hIH
                obtain ⟨sE, z1, z2, k, z3, z4⟩ := hIH
                refine ⟨sE, z1, EF_mono (EF_tr (EF_tr (EF_tr hE1 hB.1) (EF_mono hEn (Nat.le_succ _) (Nat.le_refl _) (Nat.le_refl _))) (EF_mono z2 (B' := i + 1 + (p.2.length + 1)) (Nat.le_succ _) (by omega) (Nat.le_refl _))) (Nat.le_refl _) (by omega) (by omega), k + 1, by omega, hr _ _ z4⟩
              | some w2 =>
                rw [hab] at hIH
                obtain ⟨s2, F2, z1, z2, z3, z4, k, z5, z6⟩ := hIH
                have hG2 : xG s2 i = xG sB i := (z2.1.2.2.2.1 i (by omega)).trans (k2.2.2.2.1 i (by omega))
                obtain ⟨y1, -⟩ := St_le (F := advX F p.1) (q := nx) z1 (t0 := w1.1) (t1 := w1.2.1) (z3.trans k3) (by rw [hG2]; exact hSB.2.1) (by rw [hG2]; exact hSB.2.2.1)
                have hEl := EF_le (i := i) (B := i + 1 + (p.2.length + 1)) s2
                refine cR_step (s1 := leS s2 (i + 1)) (k0 := k + 2) (EF_mono (EF_tr (EF_tr (EF_tr (EF_tr hE1 hB.1) (EF_mono hEn (Nat.le_succ _) (Nat.le_refl _) (Nat.le_refl _))) (EF_mono z2 (B' := i + 1 + (p.2.length + 1)) (Nat.le_succ _) (by omega) (Nat.le_refl _))) (EF_mono hEl (Nat.le_succ _) (Nat.le_refl _) (Nat.le_refl _))) (Nat.le_refl _) (Nat.le_refl _) (by omega)) ?_ (by omega) (fun N sE hN => ?_) (ih hrest y1 (by omega) z4 (by omega))
                · show (xG s2 i).2.2 = _
                  rw [hG2]
                  exact hB.2.trans hV1
                · rw [show N + (k + 2) = N + 1 + k + 1 by omega]
                  exact hr _ _ (z6 _ _ (cR_le z1.2.2.2.2.2.2.2.2.1 z1.2.2.1 hN))
