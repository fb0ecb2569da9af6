/-! the reference's writing realises wbF -/
def wR (A : FD) (r0 : RS) (F0 : FI) (d0 : Int32) (b len i q : Nat) (ws : WS) (s s' : FS) : Option WS → Prop
  | some ws' => waok b len i s ∧ UX (q + 1) s s' ∧ LZ A r0 F0 d0 s' (i + len) (q + 1) ws' ∧ wsum ws'.2.2.2.2.2 ≤ wsum ws.2.2.2.2.2 + 30 * len ∧ ws'.2.2.2.2.1 ≤ 5000
  | none => waok b len i s ∧ UX (q + 1) s s' ∧ gF s'.1 33 = 0 ∧ waE s'
theorem RX_rw {A : FD} {r0 : RS} {F0 : FI} {d0 : Int32} {ws : WS} {s : FS} (h : RX A r0 F0 d0 ws s) {i : Nat} {x : Rec} (hr : RW r0 i x) : RW s.1 i x := fun j h1 h7 => by rw [h.2.2.2.2.2.2 j (by omega) (by omega) (by omega) (by omega) (by omega)]; exact hr j h1 h7
theorem nst1_cg {r r' : RS} (h1 : gB r' 1 = gB r 1) (h7 : gB r' 7 = gB r 7) (i j : Nat) : nst1 r' i j = nst1 r i j := by
  unfold nst1 isb
  rw [h1, h7]
theorem bxo_cg {r r' : RS} (h1 : gB r' 1 = gB r 1) (h7 : gB r' 7 = gB r 7) (b i : Nat) : ∀ m, bxo r' b i m = bxo r b i m := by
  intro m
  induction m with
  | zero => rfl
  | succ m ih =>
    show (if nst1 r' i (b + m) = 1 then b + m else bxo r' b i m) = (if nst1 r i (b + m) = 1 then b + m else bxo r b i m)
    rw [nst1_cg h1 h7, ih]
section wi
variable {A : FD} {r0 : RS} {F0 : FI} {d0 : Int32} {ws w1 : WS} {s : FS} {b q bx i : Nat} {F : Nat → Int32} {x : Rec} {v : Int32} {c' : List Rec}
/-- popping, at item i -/
theorem LZ_pop (h : LZ A r0 F0 d0 s i (q + 1) ws) (hu : nI i < gB s.1 28 q) : ∃ t, wan b s i = wit t (q + 1) i b ∧ RX A r0 F0 d0 ws t ∧ gF t.1 27 = nI (q + 1) ∧ UX (q + 1) s t ∧ okf s ∧ s.2 ≤ t.2 ∧ gF s.1 27 = nI (opq s.1) ∧ opq s.1 ≤ 101 ∧ nwk (wpo i (opq s.1) s) ∧ ¬ gF s.1 33 = 0 := by
  obtain ⟨m, h1, h2, h3, h4, h5⟩ := h
  have e : opq s.1 = q + 1 + m := by unfold opq; rw [h1, nI_clamp (by omega)]
  have hu2 : nI i < gB (lvs (q + 1) m s).1 28 q := by rw [lvs_B (by decide) (by decide)]; exact hu
  have hw : wpo i (opq s.1) s = lvs (q + 1) m s := by rw [e, wpo_lvs i (q + 1) m s h3, wpo_st hu2]
  have hp : popq s.1 i (opq s.1) = q + 1 := by rw [e]; exact popq_J hu m h3
  refine ⟨lvs (q + 1) m s, ?_, h5, lvs_27 _ _ _ h1, UX_lvs _ _ _ _, h4, by rw [lvs_2]; omega, by rw [e]; exact h1, by rw [e]; exact h2, by rw [hw]; exact RX_nwk h5, by rw [← lvs_33 (q + 1) m s]; exact h5.2.2.2.2.2.1⟩
  unfold wan
  rw [hw, hp]
theorem LZ_0 (h : RX A r0 F0 d0 ws s) (h27 : gF s.1 27 = nI q) (hq : q ≤ 101) : LZ A r0 F0 d0 s i q ws := ⟨0, h27, hq, fun e h1 h2 => by omega, (RX_len h).2, h⟩
theorem LZ_E (h : LZ A r0 F0 d0 s i q ws) (hn : F0.1 + wsum ws.2.2.2.2.2 ≤ 319000) : waE s := by
  obtain ⟨m, h1, h2, h3, h4, h5⟩ := h
  have hl := (RX_len h5).1
  rw [lvs_2] at hl
  exact waE_of h1 h2 h4 (by omega)
theorem OKX_mono {q k k' : Nat} {s s' : FS} (h : OKX q k s s') (hk : k ≤ k') : OKX q k' s s' := ⟨h.1, Nat.le_trans h.2.1 (by omega), h.2.2⟩
theorem wit_any (h : okf s) (Q i b : Nat) : OKX Q 40 s (wit s Q i b) ∧ (gF (wit s Q i b).1 27 = gF s.1 27 ∨ gF (wit s Q i b).1 27 = nI (Q + 1)) := by
  unfold wit gts
  have hg := OKX_gt (q := Q) h (gB s.1 25 (i - b)) (gB s.1 26 (i - b)) (wh0 s) (wh1 s)
  split
  · exact ⟨OKX_mono (OKX_tr hg (OKX_bx hg.1 Q i)) (by omega), Or.inr (wbx_27 _ _ _)⟩
  · split
    · exact ⟨OKX_mono (OKX_tr hg (OKX_ch hg.1 i)) (by omega), Or.inl ((wch_27 _ _).trans (gt_F (by decide) (by decide) _ _ _ _ _))⟩
    · split
      · exact ⟨OKX_mono (OKX_ru h i _ b _ _) (by omega), Or.inl (wru_27 _ _ _ _ _ _)⟩
      · exact ⟨⟨h, Nat.le_add_right _ _, UX_rf _ _⟩, Or.inl rfl⟩
theorem wit_bx (h : RX A r0 F0 d0 ws s) (hr : RW r0 i x) (hN : NK v (x, c')) (h3 : x.1 0 = 3) (hc : c' ≠ []) (hlen : c'.length < 10000) (hp : gB r0 25 (i - b) = (rgO F x.1).toInt32 ∧ gB r0 26 (i - b) = (dnO F x.1).toInt32) (Q : Nat) : wit s Q i b = wbx (gtW s (rgO F x.1).toInt32 (dnO F x.1).toInt32) Q i := by
  have hrs := RX_rw h hr
  have hl0 : c'.length ≠ 0 := fun z => hc (List.length_eq_zero_iff.mp z)
  have hm := bx_meas hrs hN h3
  unfold wit gts
  rw [if_pos ⟨by rw [isb_R hrs hN.2.2.1, if_pos h3]; decide, by rw [hm.2.2.2.1]; exact nI_lt (a := 1) (by omega) (by omega)⟩]
  rw [h.2.2.2.2.2.2 25 (by decide) (by decide) (by decide) (by decide) (by decide), h.2.2.2.2.2.2 26 (by decide) (by decide) (by decide) (by decide) (by decide), hp.1, hp.2]
theorem wit_nb (h : RX A r0 F0 d0 ws s) (hr : RW r0 i x) (hN : NK v (x, c')) (he : ¬ (x.1 0 = 3 ∧ c' ≠ [])) (hp : gB r0 25 (i - b) = (rgO F x.1).toInt32 ∧ gB r0 26 (i - b) = (dnO F x.1).toInt32) (Q : Nat) : wit s Q i b = if x.1 0 = 0 then wch (gtW s (rgO F x.1).toInt32 (dnO F x.1).toInt32) i else if x.1 0 = 1 then wru s i (bxo s.1 b i (i - b)) b (wh0 s) (wh1 s) else s := by
  have hrs := RX_rw h hr
  have hk := k3_R hrs hN.2.2.1
  have hno : ¬ (¬ isb s.1 i = 0 ∧ 1 < gB s.1 7 i) := fun z => he (by
    have z1 := z.1
    rw [isb_R hrs hN.2.2.1, i01] at z1
    refine ⟨z1, fun y => ?_⟩
    have h7 := z.2
    rw [(bx_meas hrs hN z1).2.2.2.1, y] at h7
    exact absurd h7 (by decide))
  unfold wit gts
  rw [if_neg hno, h.2.2.2.2.2.2 25 (by decide) (by decide) (by decide) (by decide) (by decide), h.2.2.2.2.2.2 26 (by decide) (by decide) (by decide) (by decide) (by decide), hp.1, hp.2]
  by_cases h0 : x.1 0 = 0
  · rw [if_pos (hk.2.1.mpr h0), if_pos h0]
  · rw [if_neg (fun z => h0 (hk.2.1.mp z)), if_neg h0]
    by_cases h1 : x.1 0 = 1
    · rw [if_pos (hk.2.2.mpr h1), if_pos h1]
    · rw [if_neg (fun z => h1 (hk.2.2.mp z)), if_neg h1]
theorem wR_step {l0 len : Nat} {s1 s' : FS} {ws1 : WS} {r : Option WS} (hE : s1 = wal b l0 i s) (hk : waok b l0 i s) (hU : UX (q + 1) s s1) (hs : wsum ws1.2.2.2.2.2 ≤ wsum ws.2.2.2.2.2 + 30 * l0) (h : wR A r0 F0 d0 b len (i + l0) q ws1 s1 s' r) : wR A r0 F0 d0 b (l0 + len) i q ws s s' r := by
  subst hE
  cases r with
  | some ws' =>
    obtain ⟨a1, a2, a3, a4, a5⟩ := h
    exact ⟨waok_add hk a1, UX_tr hU a2, by rw [← Nat.add_assoc]; exact a3, by omega, a5⟩
  | none =>
    obtain ⟨a1, a2, a3, a4⟩ := h
    exact ⟨waok_add hk a1, UX_tr hU a2, a3, a4⟩
theorem sz_ad (hb : ¬ badX F x) (hF : F 5 = 0) : ¬ iszl (((rgO F x.1).toInt32).toInt64 + (x.1 1).toInt64) = 0 := by
  have hz := not_wiZ (fun z => hb (Or.inl z))
  rw [(l2i_sz hz.1).2]
  have e : rgO F x.1 + (x.1 1).toInt64 = beO F x.1 := by
    unfold rgO beO
    rw [if_pos hF, if_neg (fun z => z.1 hF)]
  rw [e]
  exact hz.2.2
end wi
set_option maxHeartbeats 4000000 in
theorem w_real {A : FD} {r0 : RS} {F0 : FI} {d0 : Int32} {b : Nat} (hA : ∀ m, m < 32 → A 0 m = gB r0 13 m ∧ A 1 m = gB r0 14 m) : ∀ (n : Nat) {v : Int32} {c : List Rec} {d : Nat} {F : Nat → Int32} {ws : WS} {s : FS} {i bx q e : Nat}, WFd v c d → c.length ≤ n → RWs r0 i c → FRr r0 bx F → F 5 = v → bx < i → b ≤ bx → gB s.1 28 q = nI e → i + c.length ≤ e → e ≤ 6200 → plO n F c → PLC r0 b n i F c → (∀ i', i ≤ i' → i' < e → nst1 r0 i' bx = 1) → (∀ i', i ≤ i' → i' < 10000 → nstc r0 (bx + 1) i' (i - (bx + 1)) = 0) → LZ A r0 F0 d0 s i (q + 1) ws → q + d ≤ 100 → ws.2.2.2.2.1 ≤ 5000 → F0.1 + wsum ws.2.2.2.2.2 + 30 * c.length ≤ 319000 → wR A r0 F0 d0 b c.length i q ws s (wal b c.length i s) (wbF A n q F c ws) := by
  intro n
  induction n with
  | zero =>
    intro v c d F ws s i bx q e hW hl hr hR hv hbx hbb hu he he1 hP hC hx1 hx2 hL hq hdp hn
    have hc : c = [] := List.length_eq_zero_iff.mp (Nat.le_zero.mp hl)
    subst hc
    exact ⟨LZ_E hL (by have : ([] : List Rec).length = 0 := rfl; omega), UX_rf _ _, hL, Nat.le_add_right _ _, hdp⟩
  | succ n ih =>
    intro v c d F ws s i bx q e hW hl hr hR hv hbx hbb hu he he1 hP hC hx1 hx2 hL hq hdp hn
    cases c with
    | nil => exact ⟨LZ_E hL (by have : ([] : List Rec).length = 0 := rfl; omega), UX_rf _ _, hL, Nat.le_add_right _ _, hdp⟩
    | cons x t =>
      obtain ⟨c', t', rfl, hN, hW1, hW2, hd⟩ := WFd_cons hW
      have hlen : (x :: (c' ++ t')).length = c'.length + 1 + t'.length := by rw [List.length_cons, List.length_append]; omega
      rw [hlen] at hl he hn ⊢
      have hrx : RW r0 i x := hr.1
      have hr2 := (RWs_app r0 c' t' (i + 1)).mp hr.2
      obtain ⟨hb, hP1, hP2⟩ := (plO_c hN).mp hP
      obtain ⟨hC0, hC1, hC2⟩ := (PLC_c hN).mp hC
      have hui : nI i < gB s.1 28 q := by rw [hu]; exact nI_lt (by omega) (by omega)
      obtain ⟨t, ht1, ht2, ht3, ht4, ht5, ht6, ht7, ht8, ht9, ht10⟩ := LZ_pop (b := b) hL hui
      have htl := RX_len ht2
      have hsr : ∀ k, k ≠ 15 → k ≠ 17 → k ≠ 28 → k ≠ 30 → k ≠ 31 → gB s.1 k = gB r0 k := fun k a1 a2 a3 a4 a5 => (ht4.2.2.1 k a1 a2 a3 a4 a5).symm.trans (ht2.2.2.2.2.2.2 k a1 a2 a3 a4 a5)
      have hwk : wak s i := by
        refine ⟨ht7, ht8, ht5, by omega, ht9, fun h1 => ?_⟩
        rw [hsr 1 (by decide) (by decide) (by decide) (by decide) (by decide)] at h1
        have h0 := (k3_R hrx hN.2.2.1).2.1.mp h1
        obtain ⟨m, hm, h4⟩ := hN.2.2.2.1
        refine ⟨m, ?_, hm⟩
        rw [hsr 5 (by decide) (by decide) (by decide) (by decide) (by decide), hrx 5 (by decide) (by decide)]
        show (if x.1 0 = 0 then x.1 4 else x.1 7) = _
        rw [if_pos h0]
        exact h4
      have hut : gB t.1 28 q = nI e := (ht4.2.2.2.2 q (Nat.lt_succ_self _)).1.trans hu
      have hsp : x.2.2.1 = c'.length + 1 := hN.1
      have hnx : ∀ i', i + 1 + c'.length ≤ i' → i' < 10000 → nstc r0 (bx + 1) i' (i + 1 + c'.length - (bx + 1)) = 0 := fun i' h1 h2 => by
        obtain ⟨k, d', hWF, -⟩ := hW1
        rw [show i + 1 + c'.length - (bx + 1) = (i - (bx + 1)) + (1 + c'.length) by omega, nstc_add, nstc_add, hx2 i' (by omega) h2, show bx + 1 + (i - (bx + 1)) = i by omega, nstc_0 k hWF hr2.1 h1 h2]
        have e1 : nst1 r0 i' i = 0 := by rw [nst1_R hrx hN.2.2.1 ⟨h2, by omega, by omega⟩, if_neg (fun z => by omega)]
        show 0 + (0 + nst1 r0 i' i + 0) = 0
        rw [e1]
      obtain ⟨hany, h27⟩ := wit_any htl.2 (q + 1) i b
      have hwal1 : ∀ m, wal b (m + 1) i s = wal b m (i + 1) (wit t (q + 1) i b) := fun m => by rw [wal_s ht10, ht1]
      by_cases he0 : x.1 0 = 3 ∧ c' ≠ []
      · -- a box
        have hd3 := hd he0.1
        have hns : ¬ skpX F x := by
          unfold skpX
          rw [if_pos he0.1, hsp]
          intro z
          exact he0.2 (List.length_eq_zero_iff.mp (by omega))
        have hwx := wit_bx ht2 hrx hN he0.1 he0.2 (by omega) hC0 (q + 1)
        cases hm : mvW ws (rgO F x.1).toInt32 (dnO F x.1).toInt32 with
        | none =>
          rw [wb_mv hns hm]
          have h33 : gF (wit t (q + 1) i b).1 33 = 0 := by rw [hwx, wbx_33]; exact RX_mvN ht2 hm
          have hE : waE (wit t (q + 1) i b) := by
            have := hany.2.1
            rcases h27 with z | z
            · exact waE_of (z.trans ht3) (by omega) hany.1 (by omega)
            · exact waE_of z (by omega) hany.1 (by omega)
          rw [show c'.length + 1 + t'.length = (c'.length + t'.length) + 1 by omega, hwal1, wal_0 h33]
          exact ⟨Or.inr ⟨hwk, by rw [ht1]; exact waok_0 h33 hE _ _⟩, UX_tr ht4 hany.2.2, h33, hE⟩
        | some w1 =>
          have hms := mvW_sum hm
          have hRm := RX_mv ht2 hm (by omega)
          have hgl : (gtW t (rgO F x.1).toInt32 (dnO F x.1).toInt32).2 = F0.1 + wsum w1.2.2.2.2.2 := (RX_len hRm).1
          obtain ⟨k1, k2, k3⟩ := wbx_R (i := i) hRm (Q := q + 1) (by omega) (by omega) (by omega)
          rw [← hwx] at k1 k2 k3
          have k27 : gF (wit t (q + 1) i b).1 27 = nI (q + 1 + 1) := by rw [hwx]; exact wbx_27 _ _ _
          generalize hs1 : wit t (q + 1) i b = s1 at k1 k2 k3 k27 hany h27
          have hmz := bx_meas hrx hN he0.1
          have hu1 : gB s1.1 28 (q + 1) = nI (i + 1 + c'.length) := by
            rw [k2, hmz.2.2.2.1, nI_add]
            congr 1
            omega
          have hFRi : FRr r0 i (bgX F x) := ⟨hmz.2.2.2.2, hmz.1, hmz.2.1, hmz.2.2.1⟩
          have hsum1 : wsum (enW w1 (q + 1 + 1)).2.2.2.2.2 = wsum w1.2.2.2.2.2 + 1 := by
            show wsum (w1.2.2.2.2.2 ++ [(141, 1)]) = _
            rw [wsum_app]
            rfl
          have hsum1' : wsum (enW w1 (q + 2)).2.2.2.2.2 = wsum w1.2.2.2.2.2 + 1 := hsum1
          have h1 := ih (q := q + 1) (s := s1) (ws := enW w1 (q + 1 + 1)) hW1 (by omega) hr2.1 hFRi rfl (Nat.lt_succ_self _) (by omega) hu1 (Nat.le_refl _) (by omega) hP1 hC1 (fun i' a1 a2 => by rw [nst1_R hrx hN.2.2.1 ⟨by omega, by omega, by omega⟩, if_pos ⟨he0.1, by omega⟩]) (fun i' a1 a2 => by rw [Nat.sub_self]; rfl) (LZ_0 k1 k27 (by omega)) (by omega) (show max w1.2.2.2.2.1 (q + 1 + 1) ≤ 5000 by omega) (by omega)
          rw [wb_box hN hns hm he0.1]
          have hok1 : waok b 1 i s := Or.inr ⟨hwk, by
            rw [ht1, hs1]
            exact LZ_E (q := q + 1 + 1) (i := i) (LZ_0 k1 k27 (by omega)) (by omega)⟩
          have hw1 : wal b (1 + c'.length) i s = wal b c'.length (i + 1) s1 := by rw [Nat.add_comm 1, hwal1, hs1]
          cases hwb : wbF A n (q + 1) (bgX F x) c' (enW w1 (q + 2)) with
          | none =>
            rw [show q + 1 + 1 = q + 2 from rfl, hwb] at h1
            obtain ⟨a1, a2, a3, a4⟩ := h1
            rw [show c'.length + 1 + t'.length = (1 + c'.length) + t'.length by omega, wal_add, hw1, wal_0 a3]
            refine ⟨?_, UX_tr ht4 (UX_tr hany.2.2 (UX_le a2 (by omega))), a3, a4⟩
            have hz : waok b (1 + c'.length) i s := waok_add hok1 (by rw [show (1 : Nat) = 0 + 1 from rfl, hwal1, hs1]; exact a1)
            exact waok_add hz (by rw [hw1]; exact waok_0 a3 a4 _ _)
          | some w2 =>
            rw [show q + 1 + 1 = q + 2 from rfl, hwb] at h1
            obtain ⟨a1, a2, a3, a4, a5⟩ := h1
            generalize hs2 : wal b c'.length (i + 1) s1 = s2 at a2 a3
            have hU2 : UX (q + 1) s s2 := UX_tr ht4 (UX_tr hany.2.2 (UX_le a2 (by omega)))
            have hkp : ∀ j, j < 8 → gB s2.1 30 (8 * (q + 1) + j) = gB (gtW t (rgO F x.1).toInt32 (dnO F x.1).toInt32).1 31 j := fun j hj => ((a2.2.2.2.2 (q + 1) (by omega)).2 j hj).trans (k3 j hj)
            have hu2 : gB s2.1 28 (q + 1) = nI (i + 1 + c'.length) := ((a2.2.2.2.2 (q + 1) (by omega)).1).trans hu1
            have hsum2 : wsum (leW w2 w1.1 w1.2.1).2.2.2.2.2 = wsum w2.2.2.2.2.2 + 1 := by
              show wsum (w2.2.2.2.2.2 ++ [(142, 1)]) = _
              rw [wsum_app]
              rfl
            have hL2 : LZ A r0 F0 d0 s2 (i + 1 + c'.length) (q + 1) (leW w2 w1.1 w1.2.1) := by
              obtain ⟨m, l1, l2, l3, l4, l5⟩ := a3
              refine ⟨m + 1, by rw [l1]; congr 1; omega, by omega, fun e a1 a2 => ?_, l4, ?_⟩
              · by_cases hee : e = q + 1
                · rw [hee, hu2]; exact Int32.le_refl _
                · exact l3 e (by omega) (by omega)
              · rw [lvs_last]
                have hl5 := (RX_len l5).1
                refine RX_lea l5 (NWt_cg hRm.1.1 (by decide) (fun j hj => ?_)) (NWt_cg hRm.1.2 (by decide) (fun j hj => ?_)) (by omega)
                · rw [lvs_B (by decide) (by decide)]; exact hkp j hj
                · rw [lvs_B (by decide) (by decide)]; exact hkp j hj
            have h2 := ih (q := q) (s := s2) (ws := leW w2 w1.1 w1.2.1) hW2 (by omega) hr2.2 (⟨by rw [ad_n F x (by decide)]; exact hR.1, by rw [ad_n F x (by decide)]; exact hR.2.1, by rw [ad_n F x (by decide)]; exact hR.2.2.1, by rw [ad_n F x (by decide)]; exact hR.2.2.2⟩ : FRr r0 bx (advX F x)) ((ad_n F x (by decide)).trans hv) (by omega) hbb ((hU2.2.2.2.2 q (Nat.lt_succ_self _)).1.trans hu) (by omega) he1 hP2 hC2 (fun i' a1 a2 => hx1 i' (by omega) a2) hnx hL2 hq a5 (by omega)
            have hw2 : s2 = wal b (1 + c'.length) i s := by rw [hw1, hs2]
            rw [show c'.length + 1 + t'.length = (1 + c'.length) + t'.length by omega, wal_add, ← hw2]
            refine wR_step (ws1 := leW w2 w1.1 w1.2.1) hw2 (waok_add hok1 (by rw [show (1 : Nat) = 0 + 1 from rfl, hwal1, hs1]; exact a1)) hU2 (by omega) ?_
            rw [show i + (1 + c'.length) = i + 1 + c'.length by omega]
            exact h2
      · -- anything else
        have hc : c' = [] := by
          by_cases h3 : x.1 0 = 3
          · exact Classical.byContradiction fun z => he0 ⟨h3, z⟩
          · exact NK_nb hN h3
        have hwx := wit_nb ht2 hrx hN he0 hC0 (q + 1)
        have hcl : c'.length = 0 := by rw [hc]; rfl
        rw [hcl] at hC2 hnx
        have hFRa : FRr r0 bx (advX F x) := ⟨by rw [ad_n F x (by decide)]; exact hR.1, by rw [ad_n F x (by decide)]; exact hR.2.1, by rw [ad_n F x (by decide)]; exact hR.2.2.1, by rw [ad_n F x (by decide)]; exact hR.2.2.2⟩
        -- from the state behind the item on
        have hgo : ∀ ws1, RX A r0 F0 d0 ws1 (wit t (q + 1) i b) → gF (wit t (q + 1) i b).1 27 = nI (q + 1) → wsum ws1.2.2.2.2.2 ≤ wsum ws.2.2.2.2.2 + 30 → ws1.2.2.2.2.1 = ws.2.2.2.2.1 → wR A r0 F0 d0 b (c'.length + 1 + t'.length) i q ws s (wal b (c'.length + 1 + t'.length) i s) (wbF A n q (advX F x) t' ws1) := fun ws1 g1 g2 g3 g4 => by
          generalize hs1 : wit t (q + 1) i b = s1 at g1 g2 hany
          have hU1 : UX (q + 1) s s1 := UX_tr ht4 hany.2.2
          have h2 := ih (q := q) (s := s1) (ws := ws1) hW2 (by omega) (by have := hr2.2; rw [hcl] at this; exact this) hFRa ((ad_n F x (by decide)).trans hv) (by omega) hbb ((hU1.2.2.2.2 q (Nat.lt_succ_self _)).1.trans hu) (by omega) he1 hP2 hC2 (fun i' a1 a2 => hx1 i' (by omega) a2) hnx (LZ_0 g1 g2 (by omega)) hq (by omega) (by omega)
          have hw2 : s1 = wal b 1 i s := by rw [show (1 : Nat) = 0 + 1 from rfl, hwal1, hs1]; rfl
          rw [show c'.length + 1 + t'.length = 1 + t'.length by omega, wal_add, ← hw2]
          refine wR_step hw2 (Or.inr ⟨hwk, by rw [ht1, hs1]; exact LZ_E (q := q + 1) (i := i) (LZ_0 g1 g2 (by omega)) (by omega)⟩) hU1 (by omega) h2
        have hbad : gF (wit t (q + 1) i b).1 33 = 0 → gF (wit t (q + 1) i b).1 27 = nI (q + 1) → wR A r0 F0 d0 b (c'.length + 1 + t'.length) i q ws s (wal b (c'.length + 1 + t'.length) i s) none := fun h33 hz27 => by
          have hE : waE (wit t (q + 1) i b) := by
            have := hany.2.1
            exact waE_of hz27 (by omega) hany.1 (by omega)
          rw [show c'.length + 1 + t'.length = (c'.length + t'.length) + 1 by omega, hwal1, wal_0 h33]
          exact ⟨Or.inr ⟨hwk, by rw [ht1]; exact waok_0 h33 hE _ _⟩, UX_tr ht4 hany.2.2, h33, hE⟩
        by_cases h3 : x.1 0 = 3
        · have hsk : skpX F x := by unfold skpX; rw [if_pos h3, hsp, hcl]
          have hwt : wit t (q + 1) i b = t := by rw [hwx, if_neg (by rw [h3]; decide), if_neg (by rw [h3]; decide)]
          rw [wb_skip hN hsk]
          exact hgo ws (by rw [hwt]; exact ht2) (by rw [hwt]; exact ht3) (by omega) rfl
        · by_cases h0 : x.1 0 = 0
          · have hns : ¬ skpX F x := by unfold skpX iwn; rw [if_neg h3, if_pos h0]; decide
            have hv0 : v = 0 := Classical.byContradiction fun z => (hN.2.2.2.2.2.2.2.2.1 z).2.2 h0
            rw [if_pos h0] at hwx
            cases hm : mvW ws (rgO F x.1).toInt32 (dnO F x.1).toInt32 with
            | none =>
              rw [wb_mv hns hm]
              exact hbad (by rw [hwx]; exact wch_33 (RX_mvN ht2 hm) i) (by rw [hwx, wch_27]; exact (gt_F (by decide) (by decide) _ _ _ _ _).trans ht3)
            | some w1 =>
              obtain ⟨m, hm32, h4⟩ := hN.2.2.2.1
              have hms := mvW_sum hm
              have hcs := chW_sum A w1 x.1 m
              have hRm := RX_mv ht2 hm (by omega)
              have hgl : (gtW t (rgO F x.1).toInt32 (dnO F x.1).toInt32).2 = F0.1 + wsum w1.2.2.2.2.2 := (RX_len hRm).1
              rw [wb_chr hN hns hm h3 (by rw [h0]; decide), fmX_e hm32 h4]
              refine hgo _ ?_ ?_ (by omega) hms.2
              · rw [hwx]
                exact RX_ch hRm hrx hN.2.2 h0 hm32 h4 (hA m hm32) (by rw [(mvW_pl hm).1]; exact sz_ad hb (hv.trans hv0)) (by omega)
              · rw [hwx, wch_27]
                exact (gt_F (by decide) (by decide) _ _ _ _ _).trans ht3
          · rw [if_neg h0] at hwx
            by_cases h1 : x.1 0 = 1
            · rw [if_pos h1] at hwx
              have hbo : bxo t.1 b i (i - b) = bx := by
                rw [bxo_cg (ht2.2.2.2.2.2.2 1 (by decide) (by decide) (by decide) (by decide) (by decide)) (ht2.2.2.2.2.2.2 7 (by decide) (by decide) (by decide) (by decide) (by decide))]
                have := bxo_e hbb (hx1 i (Nat.le_refl _) (by omega)) (i - (bx + 1)) (hx2 i (Nat.le_refl _) (by omega))
                rw [show bx - b + 1 + (i - (bx + 1)) = i - b by omega] at this
                exact this
              rw [hbo] at hwx
              have hex : ¬ iszl (exO F x.1) = 0 := fun z => hb (Or.inr (by rw [if_neg h3]; unfold csn; rw [if_pos h1]; exact z))
              obtain ⟨r1, r2⟩ := RX_ru (b := b) ht2 hrx hv hN.2.2 h1 hR hex hC0 (fun hF => sz_ad hb hF) (by omega)
              have hskp : skpX F x ↔ iwn F x.1 = 0 := by unfold skpX; rw [if_neg h3]
              have h27r : gF (wit t (q + 1) i b).1 27 = nI (q + 1) := by rw [hwx, wru_27]; exact ht3
              by_cases hsk : skpX F x
              · have hwt : wit t (q + 1) i b = t := by rw [hwx]; exact r1 (hskp.mp hsk)
                rw [wb_skip hN hsk]
                exact hgo ws (by rw [hwt]; exact ht2) h27r (by omega) rfl
              · have r2 := r2 (fun z => hsk (hskp.mpr z))
                cases hm : mvW ws (rgO F x.1).toInt32 (dnO F x.1).toInt32 with
                | none =>
                  rw [wb_mv hsk hm]
                  exact hbad (by rw [hwx]; exact r2.1 hm) h27r
                | some w1 =>
                  have hms := mvW_sum hm
                  have hrs := ruW_sum F w1 x.1
                  rw [wb_rul hN hsk hm h1]
                  exact hgo _ (by rw [hwx]; exact r2.2 w1 hm) h27r (by omega) hms.2
            · have hsk : skpX F x := by unfold skpX iwn; rw [if_neg h3, if_neg h0, if_neg h1]
              have hwt : wit t (q + 1) i b = t := by rw [hwx, if_neg h1]
              rw [wb_skip hN hsk]
              exact hgo ws (by rw [hwt]; exact ht2) (by rw [hwt]; exact ht3) (by omega) rfl
