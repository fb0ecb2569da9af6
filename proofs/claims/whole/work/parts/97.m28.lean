/-! the reference places and writes a page -/
abbrev pgB (x : Rec) : Nat → Int32 := bgF x.2.1 (x.1 1) (x.1 2) (x.1 3) 0 (x.1 2)
def RU (r r' : RS) : Prop := (∀ k, k ≠ 27 → k ≠ 33 → gF r' k = gF r k) ∧ r'.2.1 = r.2.1 ∧ (∀ k, k ≠ 25 → k ≠ 26 → k ≠ 28 → k ≠ 30 → gB r' k = gB r k)
section pp
variable {r : RS} {b : Nat} {x : Rec} {c : List Rec}
theorem pl0_R (h : RW r b x) (hN : NK 0 (x, c)) (h3 : x.1 0 = 3) (hg : ¬ gF r 33 = 0) (hb : b + c.length + 1 ≤ 6200) : RU r (pl0 r b) ∧ gF (pl0 r b) 27 = nI 1 ∧ ¬ gF (pl0 r b) 33 = 0 ∧ FB (pl0 r b) b 0 b (pgB x) ∧ gB (pl0 r b) 28 0 = nI (b + 1 + c.length) := by
  have hm := bx_meas h hN h3
  have hB : ∀ k e, gB (sF (w1 (w1 r 25 0 0) 26 0 (gB r 3 b)) 27 (nI 0)) k e = if k = 26 ∧ e = 0 then gB r 3 b else if k = 25 ∧ e = 0 then 0 else gB r k e := fun k e => by rw [sF_BB, w1_BB, w1_BB]
  have hen : enat (sF (w1 (w1 r 25 0 0) 26 0 (gB r 3 b)) 27 (nI 0)) b b = 0 := by
    have z1 : gB (sF (w1 (w1 r 25 0 0) 26 0 (gB r 3 b)) 27 (nI 0)) 25 0 = 0 := by rw [hB, if_neg (by omega), if_pos ⟨rfl, rfl⟩]
    have z2 : gB (sF (w1 (w1 r 25 0 0) 26 0 (gB r 3 b)) 27 (nI 0)) 26 0 = gB r 3 b := by rw [hB, if_pos ⟨rfl, rfl⟩]
    have z3 : gB (sF (w1 (w1 r 25 0 0) 26 0 (gB r 3 b)) 27 (nI 0)) 3 b = gB r 3 b := by rw [hB, if_neg (by omega), if_neg (by omega)]
    unfold enat
    rw [Nat.sub_self, z1, z2, z3]
    split
    · rfl
    · exact Int64.sub_self _
  unfold pl0
  refine ⟨⟨fun k h1 h2 => ?_, rfl, fun k h1 h2 h4 h5 => ?_⟩, ent_27, ?_, ⟨?_, ⟨Nat.le_refl _, by omega, by omega⟩, ?_, ?_, ?_, ?_, ?_, ?_, ?_⟩, ?_⟩
  · rw [ent_F h1 h2, sF_ne _ _ h1]; rfl
  · funext e
    rw [ent_B, if_neg (fun z => h5 z.1), if_neg (fun z => h4 z.1), hB, if_neg (fun z => h2 z.1), if_neg (fun z => h1 z.1)]
  · rw [ent_33, hen]
    exact ⟨by rw [sF_ne _ _ (by decide)]; exact hg, by decide⟩
  · rw [ent_B, if_pos ⟨rfl, rfl⟩]
  · rw [ent_L, if_pos rfl, hen]
    show _ = (if x.2.1 = 0 then (0 : Int32) else x.1 2 - x.1 2).toInt64
    split
    · rfl
    · rw [Int32.sub_self]; rfl
  · rw [ent_B, if_neg (by omega), if_neg (by omega), hB, if_neg (by omega), if_pos ⟨rfl, Nat.sub_self _⟩]; rfl
  · rw [ent_B, if_neg (by omega), if_neg (by omega), hB, if_pos ⟨rfl, Nat.sub_self _⟩, hm.2.1]; rfl
  · rw [ent_B, if_neg (by omega), if_neg (by omega), hB, if_neg (by omega), if_neg (by omega), hm.2.2.2.2]; rfl
  · rw [ent_B, if_neg (by omega), if_neg (by omega), hB, if_neg (by omega), if_neg (by omega), hm.1]; rfl
  · rw [ent_B, if_neg (by omega), if_neg (by omega), hB, if_neg (by omega), if_neg (by omega), hm.2.1]; rfl
  · rw [ent_B, if_neg (by omega), if_neg (by omega), hB, if_neg (by omega), if_neg (by omega), hm.2.2.1]; rfl
  · rw [ent_B, if_neg (by omega), if_pos ⟨rfl, rfl⟩, hB, if_neg (by omega), if_neg (by omega), hm.2.2.2.1, nI_add]
    congr 1
    omega
theorem p_page (h : RW r b x) (hr : RWs r (b + 1) c) (hN : NK 0 (x, c)) (h3 : x.1 0 = 3) (hW : WFd x.2.1 c x.2.2.2) (hd : x.2.2.2 ≤ 99) (hg : ¬ gF r 33 = 0) (hb : b + c.length + 1 ≤ 6200) (hl : c.length ≤ 3000) : plok b c.length (b + 1) (pl0 r b) ∧ RU r (plr r b (c.length + 1)) ∧ (plO c.length (pgB x) c → ¬ gF (plr r b (c.length + 1)) 33 = 0 ∧ PLC (plr r b (c.length + 1)) b c.length (b + 1) (pgB x) c) ∧ (¬ plO c.length (pgB x) c → gF (plr r b (c.length + 1)) 33 = 0) ∧ gB (plr r b (c.length + 1)) 25 0 = 0 ∧ gB (plr r b (c.length + 1)) 26 0 = x.1 2 := by
  obtain ⟨a1, a2, a3, a4, a5⟩ := pl0_R h hN h3 hg hb
  have hr0 : RWs (pl0 r b) (b + 1) c := RWs_sh hr (fun e _ l h1 h7 => by rw [a1.2.2 l (by omega) (by omega) (by omega) (by omega)])
  have hp := p_real (b := b) c.length hW (Nat.le_refl _) hr0 a4 rfl (Nat.lt_succ_self b) a5 (Nat.le_refl _) (by omega) (by omega) ⟨1, a2, Nat.le_refl _, by decide, fun e h1 h2 => by omega⟩ (by omega) a3
  obtain ⟨p1, p2, p3, p4⟩ := hp
  have e : plr r b (c.length + 1) = pla b c.length (b + 1) (pl0 r b) := rfl
  rw [e]
  have e25 := p2.2.2.2.1 0 (Or.inl (by omega))
  refine ⟨p1, ⟨fun k h1 h2 => (p2.1 k h1 h2).trans (a1.1 k h1 h2), p2.2.1.trans a1.2.1, fun k h1 h2 h4 h5 => (p2.2.2.1 k h1 h2 h4 h5).trans (a1.2.2 k h1 h2 h4 h5)⟩, fun z => ⟨(p3 z).1, (p3 z).2.2.2⟩, p4, ?_, ?_⟩
  · rw [e25.1]
    have := a4.2.2.2.1
    rw [Nat.sub_self] at this
    exact this
  · rw [e25.2]
    have := a4.2.2.2.2.1
    rw [Nat.sub_self] at this
    exact this
end pp
/-! writing -/
theorem wfi_lvs : ∀ (Q : Nat) (s : FS), ¬ gF s.1 33 = 0 → wfi Q s = lvs 0 Q s := by
  intro Q
  induction Q with
  | zero => intro s _; rfl
  | succ Q ih =>
    intro s h
    show (if gF s.1 33 = 0 then s else wfi Q (lea s Q)) = lvs 0 Q (lea s (0 + Q))
    rw [if_neg h, Nat.zero_add]
    exact ih _ (by rw [lea_F (by decide) (by decide)]; exact h)
theorem wfi_0 {s : FS} (h : gF s.1 33 = 0) (Q : Nat) : wfi Q s = s := by
  cases Q with
  | zero => rfl
  | succ Q => exact if_pos h
def rPG (A : FD) (F1 : FI) (d0 : Int32) (S S' : FS) (K : Nat) : Option WS → Prop
  | some w3 => RX A S.1 F1 d0 w3 S' ∧ wsum w3.2.2.2.2.2 ≤ K
  | none => gF S'.1 33 = 0 ∧ okf S' ∧ S'.2 + 200 ≤ 320000
theorem w_page {A : FD} {F1 : FI} {d0 u : Int32} {S : FS} {b : Nat} {x : Rec} {c : List Rec} (hA : ∀ m, m < 32 → A 0 m = gB S.1 13 m ∧ A 1 m = gB S.1 14 m) (hR : RX A S.1 F1 d0 (wz u) S) (h27 : gF S.1 27 = nI 0) (h : RW S.1 b x) (hr : RWs S.1 (b + 1) c) (hN : NK 0 (x, c)) (h3 : x.1 0 = 3) (hW : WFd x.2.1 c x.2.2.2) (hd : x.2.2.2 ≤ 99) (hb : b + c.length + 1 ≤ 6200) (hl : c.length ≤ 3000) (h25 : gB S.1 25 0 = 0 ∧ gB S.1 26 0 = x.1 2) (hP : plO c.length (pgB x) c) (hC : PLC S.1 b c.length (b + 1) (pgB x) c) (hn : F1.1 + 30 * (c.length + 1) ≤ 318000) : waok b (c.length + 1) b S ∧ UX 0 S (war b (c.length + 1) b S) ∧ rPG A F1 d0 S (war b (c.length + 1) b S) (30 * (c.length + 1)) (pgF A x.2.1 (x.1 1) (x.1 2) (x.1 3) c u) := by
  have e0 : opq S.1 = 0 := by unfold opq; rw [h27]; rfl
  have hw0 : wan b S b = wit S 0 b b := by unfold wan; rw [e0]; rfl
  have hSl := RX_len hR
  have hS2 : S.2 = F1.1 := hSl.1
  have hg : ¬ gF S.1 33 = 0 := hR.2.2.2.2.2.1
  have hwk : wak S b := by
    refine ⟨by rw [e0]; exact h27, by rw [e0]; decide, hSl.2, by omega, by rw [e0]; exact RX_nwk hR, fun h1 => ?_⟩
    have h0 := (k3_R h hN.2.2.1).2.1.mp h1
    exact absurd (h0.symm.trans h3) (by decide)
  have hm := bx_meas h hN h3
  by_cases hc : c = []
  · subst hc
    have hwt : wit S 0 b b = S := by
      unfold wit
      rw [if_neg (fun z => absurd z.2 (by rw [hm.2.2.2.1]; decide)), if_neg (fun z => absurd (((k3_R h hN.2.2.1).2.1.mp z).symm.trans h3) (by decide)), if_neg (fun z => absurd (((k3_R h hN.2.2.1).2.2.mp z).symm.trans h3) (by decide))]
    have hwal : wal b (([] : List Rec).length + 1) b S = S := by
      rw [wal_s hg, hw0, hwt]
      rfl
    have hwar : war b (([] : List Rec).length + 1) b S = S := by
      unfold war
      rw [hwal, e0]
      rfl
    rw [hwar]
    unfold pgF
    rw [if_pos rfl]
    refine ⟨Or.inr ⟨hwk, ?_⟩, UX_rf _ _, hR, Nat.zero_le _⟩
    rw [hw0, hwt]
    exact waE_of h27 (by decide) hSl.2 (by omega)
  · have hl0 : c.length ≠ 0 := fun z => hc (List.length_eq_zero_iff.mp z)
    obtain ⟨w1, hmv⟩ := mvW_pg (u := u) (h := x.1 2) hN.2.2.2.2.1.2.1
    have hms := mvW_sum hmv
    have hwz : wsum (wz u).2.2.2.2.2 = 0 := rfl
    have hwd : (wz u).2.2.2.2.1 = 0 := rfl
    obtain ⟨e1, e2⟩ := mvW_pl hmv
    have hwx : wit S 0 b b = wbx (gtW S 0 (x.1 2)) 0 b := by
      unfold wit gts
      rw [if_pos ⟨by rw [isb_R h hN.2.2.1, if_pos h3]; decide, by rw [hm.2.2.2.1]; exact nI_lt (a := 1) (by omega) (by omega)⟩, Nat.sub_self, h25.1, h25.2]
    have hRm := RX_mv hR hmv (by omega)
    have hgl : (gtW S 0 (x.1 2)).2 = F1.1 + wsum w1.2.2.2.2.2 := (RX_len hRm).1
    obtain ⟨k1, k2, k3⟩ := wbx_R (i := b) hRm (Q := 0) (by decide) (by omega) (by omega)
    have hUx : UX 0 S (wbx (gtW S 0 (x.1 2)) 0 b) := UX_tr (UX_gt 0 S _ _ _ _) (UX_bx _ 0 b)
    have k27 : gF (wbx (gtW S 0 (x.1 2)) 0 b).1 27 = nI (0 + 1) := wbx_27 _ _ _
    have hs1 : wan b S b = wbx (gtW S 0 (x.1 2)) 0 b := hw0.trans hwx
    generalize wbx (gtW S 0 (x.1 2)) 0 b = s1 at k1 k2 k3 k27 hUx hs1
    have hu1 : gB s1.1 28 0 = nI (b + 1 + c.length) := by
      rw [k2, hm.2.2.2.1, nI_add]
      congr 1
      omega
    have hsum1 : wsum (enW w1 (0 + 1)).2.2.2.2.2 = wsum w1.2.2.2.2.2 + 1 := by
      show wsum (w1.2.2.2.2.2 ++ [(141, 1)]) = _
      rw [wsum_app]
      rfl
    have hsum1' : wsum (enW w1 1).2.2.2.2.2 = wsum w1.2.2.2.2.2 + 1 := hsum1
    have hFR : FRr S.1 b (pgB x) := ⟨hm.2.2.2.2, hm.1, hm.2.1, hm.2.2.1⟩
    have hsp : x.2.2.1 = c.length + 1 := hN.1
    have hL : LZ A S.1 F1 d0 s1 (b + 1) (0 + 1) (enW w1 (0 + 1)) := LZ_0 k1 k27 (by decide)
    have hw := w_real (b := b) hA c.length (q := 0) (s := s1) (ws := enW w1 (0 + 1)) hW (Nat.le_refl _) hr hFR rfl (Nat.lt_succ_self b) (Nat.le_refl b) hu1 (Nat.le_refl _) (by omega) hP hC (fun i' a1 a2 => by rw [nst1_R h hN.2.2.1 ⟨by omega, by omega, by omega⟩, if_pos ⟨h3, by omega⟩]) (fun i' a1 a2 => by rw [Nat.sub_self]; rfl) hL (by omega) (show max w1.2.2.2.2.1 (0 + 1) ≤ 5000 by omega) (by omega)
    have hpg : pgF A x.2.1 (x.1 1) (x.1 2) (x.1 3) c u = match wbF A c.length 0 (pgB x) c (enW w1 1) with
      | none => none
      | some w2 => some (leW w2 w1.1 w1.2.1) := by
      unfold pgF
      rw [if_neg hc, hmv]
      show (match abF A c.length 0 (bgF x.2.1 (x.1 1) (x.1 2) (x.1 3) w1.1.1 w1.2.1.1) c (enW w1 1) with
        | none => none
        | some w2 => some (leW w2 w1.1 w1.2.1)) = _
      rw [e1, e2, (ab_pw c.length (WFd_x hW) (Nat.le_refl _)).1 hP]
    rw [hpg]
    have hwal : wal b (c.length + 1) b S = wal b c.length (b + 1) s1 := by rw [wal_s hg, hs1]
    unfold war
    rw [hwal]
    cases hwb : wbF A c.length 0 (pgB x) c (enW w1 1) with
    | none =>
      rw [show (0 : Nat) + 1 = 1 from rfl, hwb] at hw
      obtain ⟨a1, a2, a3, a4⟩ := hw
      rw [wfi_0 a3]
      exact ⟨Or.inr ⟨hwk, by rw [hs1]; exact a1⟩, UX_tr hUx (UX_le a2 (Nat.zero_le _)), a3, a4.2.2.1, a4.2.2.2⟩
    | some w2 =>
      rw [show (0 : Nat) + 1 = 1 from rfl, hwb] at hw
      obtain ⟨a1, a2, a3, a4, a5⟩ := hw
      generalize wal b c.length (b + 1) s1 = s2 at a2 a3
      obtain ⟨m, l1, l2, l3, l4, l5⟩ := a3
      have eo : opq s2.1 = m + 1 := by unfold opq; rw [l1, nI_clamp (by omega)]; omega
      have hg2 : ¬ gF s2.1 33 = 0 := by rw [← lvs_33 1 m s2]; exact l5.2.2.2.2.2.1
      rw [eo, wfi_lvs _ _ hg2]
      refine ⟨Or.inr ⟨hwk, by rw [hs1]; exact a1⟩, UX_tr hUx (UX_tr (UX_le a2 (Nat.zero_le _)) (UX_lvs _ _ _ _)), ?_⟩
      have hsum2 : wsum (leW w2 w1.1 w1.2.1).2.2.2.2.2 = wsum w2.2.2.2.2.2 + 1 := by
        show wsum (w2.2.2.2.2.2 ++ [(142, 1)]) = _
        rw [wsum_app]
        rfl
      refine ⟨?_, by omega⟩
      rw [lvs_last]
      have hl5 := (RX_len l5).1
      have hkp : ∀ j, j < 8 → gB (lvs (0 + 1) m s2).1 30 (8 * 0 + j) = gB (gtW S 0 (x.1 2)).1 31 j := fun j hj => by
        rw [lvs_B (by decide) (by decide)]
        exact ((a2.2.2.2.2 0 (by omega)).2 j hj).trans (k3 j hj)
      exact RX_lea l5 (NWt_cg hRm.1.1 (by decide) hkp) (NWt_cg hRm.1.2 (by decide) hkp) (by omega)
