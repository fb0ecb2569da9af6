/-! the reference ships -/
def F1s (s : PS) : FI := fwr (xF s) (bgL (xF s).1 ++ hdL s)
def rSH (s : PS) (r R : RS) (y : Rec) : Option WS → Prop
  | some w3 => gF R 0 = 0 ∧ FIL (fadd (fwr (F1s s) w3.2.2.2.2.2) 140 1) R ∧ USD w3.2.2.2.1 (gB R 15) ∧ gF R 20 = gF r 20 + 1 ∧ gF R 21 = nI (fwr (xF s) (bgL (xF s).1)).1 ∧ R.2.1 = (if (y.1 2).toInt64 + (y.1 3).toInt64 ≤ r.2.1 then r.2.1 else (y.1 2).toInt64 + (y.1 3).toInt64) ∧ gF R 23 = (if y.1 1 ≤ gF r 23 then gF r 23 else y.1 1) ∧ gF R 24 = mxd (gF r 24) w3.2.2.2.2.1
  | none => gF R 0 = 2 ∧ gF R 18 = nI (xF s).1 ∧ (∀ k, k < (xF s).1 → gB R 17 k = gB r 17 k) ∧ (∀ m, m < 32 → gB R 15 m = gB r 15 m) ∧ gF R 20 = gF r 20 ∧ gF R 21 = gF r 21 ∧ gF R 23 = gF r 23 ∧ gF R 24 = gF r 24 ∧ R.2.1 = r.2.1
theorem pgF_bad {A : FD} {u : Int32} {y : Rec} {c : List Rec} (hW : WFd y.2.1 c y.2.2.2) (hh : sz4 (y.1 2)) (hp : ¬ plO c.length (pgB y) c) : pgF A y.2.1 (y.1 1) (y.1 2) (y.1 3) c u = none := by
  have hc : c ≠ [] := fun z => hp (by rw [z]; exact plO_nil _ _)
  obtain ⟨w1, hmv⟩ := mvW_pg (u := u) (h := y.1 2) hh
  obtain ⟨e1, e2⟩ := mvW_pl hmv
  unfold pgF
  rw [if_neg hc, hmv]
  show (match abF A c.length 0 (bgF y.2.1 (y.1 1) (y.1 2) (y.1 3) w1.1.1 w1.2.1.1) c (enW w1 1) with
        | none => none
        | some w2 => some (leW w2 w1.1 w1.2.1)) = _
  rw [e1, e2, (ab_pw c.length (WFd_x hW) (Nat.le_refl _)).2 hp]
theorem reg_R {r : RS} {g : Nat → List Rec} {ops : List (Int32 × List TRE)} (h : RR r g ops) {k : Nat} (hk : k < 8) {y : Rec} {c : List Rec} (hg : g k = y :: c) : RW r (3100 + (shf8 g k).length) y ∧ RWs r (3100 + (shf8 g k).length + 1) c ∧ 3100 + (shf8 g k).length + (c.length + 1) ≤ 3100 + (shf8 g 8).length ∧ (shf8 g 8).length ≤ 3000 := by
  have h8 := h.2.2.2.2.2.2.2
  have hle := shf8_le g hk
  rw [hg] at hle
  rw [shf8_8 g hk, hg, RWs_app, RWs_app] at h8
  exact ⟨h8.1.2.1, h8.1.2.2, by have : (y :: c).length = c.length + 1 := rfl; omega, h.2.1.2⟩
set_option maxHeartbeats 2000000 in
theorem r_ship {s : PS} {r : RS} {g : Nat → List Rec} {ops : List (Int32 × List TRE)} (hS : RST s r) (hR : RR r g ops) (hF : FOK (xF s)) {k : Nat} (hk : k < 8) {y : Rec} {c : List Rec} (hg : g k = y :: c) (hN : NK 0 (y, c)) (h3 : y.1 0 = 3) (hW : WFd y.2.1 c y.2.2.2) (hd : y.2.2.2 ≤ 99) (hn : (xF s).1 < 200000) :
    shk (shA r) (xF s).1 (3100 + (shf8 g k).length) (c.length + 1) (3100 + (shf8 g 8).length) k (gF r 24) ∧ ((∀ j, j ≠ 0 → j ≠ 18 → j ≠ 20 → j ≠ 21 → j ≠ 23 → j ≠ 24 → j ≠ 27 → j ≠ 32 → j ≠ 33 → gF (shE (shA r) (xF s).1 (3100 + (shf8 g k).length) (c.length + 1) (gF r 24)) j = gF r j) ∧ (∀ j, j ≠ 15 → j ≠ 16 → j ≠ 17 → j ≠ 25 → j ≠ 26 → j ≠ 28 → j ≠ 30 → j ≠ 31 → gB (shE (shA r) (xF s).1 (3100 + (shf8 g k).length) (c.length + 1) (gF r 24)) j = gB r j)) ∧ rSH s r (shE (shA r) (xF s).1 (3100 + (shf8 g k).length) (c.length + 1) (gF r 24)) y (pgF s.2.2.1 y.2.1 (y.1 1) (y.1 2) (y.1 3) c (s.1 30)) := by
  obtain ⟨hr1, hr2, hle, h8⟩ := reg_R hR hk hg
  obtain ⟨A1, A2, A3, A4, A5, A6⟩ := shA_R r (fun m hm => (hS.2.1 m hm).2)
  obtain ⟨hFN, hU, hFI, ⟨hs6, hs7, hs8, hs9, hs10, hs11⟩, -, -, -, h08, h010, -⟩ := hS
  have hst : ∀ j, j < 8 → gB r 12 j = nI (g j).length := hR.2.2.2.2.2.2.1
  generalize shA r = rA at A1 A2 A3 A4 A5 A6 ⊢
  generalize hp : 3100 + (shf8 g k).length = p at hr1 hr2 hle ⊢
  have hr1' : RW rA p y := fun j a b => by rw [A5 j (by omega)]; exact hr1 j a b
  have hr2' : RWs rA (p + 1) c := RWs_sh hr2 (fun e _ l a b => by rw [A5 l (by omega)])
  obtain ⟨q1, q2, q3, q4, q5, q6⟩ := p_page hr1' hr2' hN h3 hW hd A3 (by omega) (by omega)
  have e0 : sh0 rA (xF s).1 p (c.length + 1) = (plr rA p (c.length + 1), (xF s).1) := rfl
  generalize hP : plr rA p (c.length + 1) = P at q2 q3 q4 q5 q6 e0
  have PF : ∀ j, j ≠ 0 → j ≠ 27 → j ≠ 33 → gF P j = gF r j := fun j a b d => (q2.1 j b d).trans (A1 j a d)
  have P0 : gF P 0 = 0 := (q2.1 0 (by decide) (by decide)).trans A2
  have PB : ∀ j, j ≠ 16 → j ≠ 25 → j ≠ 26 → j ≠ 28 → j ≠ 30 → gB P j = gB r j := fun j a b d e f => (q2.2.2 j b d e f).trans (A5 j a)
  have P16 : ∀ m, m < 32 → gB P 16 m = gB r 15 m := fun m hm => by rw [q2.2.2 16 (by decide) (by decide) (by decide) (by decide)]; exact A6 m hm
  have PT : P.2.1 = r.2.1 := q2.2.1.trans A4
  have hFXP : FXL (xF s) (P, (xF s).1) := ⟨hF, rfl, (PF 18 (by decide) (by decide) (by decide)).trans hFI.1, fun j hj => by show _ = gB P 17 j; rw [PB 17 (by decide) (by decide) (by decide) (by decide) (by decide)]; exact hFI.2 j hj⟩
  have hbg := bg_b (xF s).1
  have e1 : sh1 rA (xF s).1 p (c.length + 1) = wpl (P, (xF s).1) (bgL (xF s).1) := by
    unfold sh1
    rw [e0, fin1_bg]
  have hF1 : FXL (fwr (xF s) (bgL (xF s).1)) (wpl (P, (xF s).1) (bgL (xF s).1)) := FX_wpl _ hFXP hbg.2 (by omega)
  have hU1 : UX 0 (P, (xF s).1) (wpl (P, (xF s).1) (bgL (xF s).1)) := UX_wpl 0 _ _
  have hpl : (sh1 rA (xF s).1 p (c.length + 1)).2 = (fwr (xF s) (bgL (xF s).1)).1 := by rw [e1]; exact hF1.2.1
  have hl1 : (fwr (xF s) (bgL (xF s).1)).1 ≤ 200015 := by rw [fwr_sum]; omega
  have e2 : shp (sh1 rA (xF s).1 p (c.length + 1)) = clS0 (wpl (wpl (P, (xF s).1) (bgL (xF s).1)) (hdL s)) := by
    rw [e1, shp_e]
    have : hdR (wpl (P, (xF s).1) (bgL (xF s).1)).1 = hdL s := by
      unfold hdR hdL
      rw [wpl_F (by decide), wpl_F (by decide), hs6, hs7]
      show (139, 1) :: (gF P 20 + 1, 4) :: (zr 9 ++ [(gF P 21, 4)]) = _
      rw [PF 20 (by decide) (by decide) (by decide), PF 21 (by decide) (by decide) (by decide)]
    rw [this]
  have hhd := hd_b (s.1 6 + 1) (s.1 7)
  generalize hTe : wpl (wpl (P, (xF s).1) (bgL (xF s).1)) (hdL s) = T at e2
  have hFT : FXL (F1s s) T := by
    rw [← hTe]
    unfold F1s
    rw [fwr_app]
    exact FX_wpl (hdL s) hF1 hhd.2 (by rw [show wsum (hdL s) = 45 from hhd.1]; omega)
  have hUT : UX 0 (P, (xF s).1) T := by rw [← hTe]; exact UX_tr hU1 (UX_wpl 0 _ _)
  have hlT : (F1s s).1 ≤ 200060 := by
    unfold F1s
    rw [fwr_sum, wsum_app, show wsum (hdL s) = 45 from hhd.1]
    omega
  have T33 : gF T.1 33 = gF P 33 := by rw [← hTe, wpl_F (by decide), wpl_F (by decide)]
  have T24 : gF T.1 24 = gF r 24 := by rw [← hTe, wpl_F (by decide), wpl_F (by decide)]; exact PF 24 (by decide) (by decide) (by decide)
  have TB : ∀ j, j ≠ 17 → gB T.1 j = gB P j := fun j a => by rw [← hTe, wpl_B a, wpl_B a]
  have hokT : okf T := by show gF T.1 18 = nI T.2; rw [hFT.2.1]; exact hFT.2.2.1
  clear hTe
  have c33 : gF (clS0 T).1 33 = gF P 33 := (clS0_F T (by decide)).trans T33
  -- the written page
  have key : ∃ S', sh3 rA (xF s).1 p (c.length + 1) = S' ∧ UX 0 (P, (xF s).1) S' ∧ okf S' ∧ S'.2 + 1 ≤ 320000 ∧ (¬ gF (shp (sh1 rA (xF s).1 p (c.length + 1))).1 33 = 0 → waok p (c.length + 1) p (sF (shp (sh1 rA (xF s).1 p (c.length + 1))).1 27 (nI 0), (shp (sh1 rA (xF s).1 p (c.length + 1))).2)) ∧ (match pgF s.2.2.1 y.2.1 (y.1 1) (y.1 2) (y.1 3) c (s.1 30) with
      | some w3 => ∃ r0, RX s.2.2.1 r0 (F1s s) (gF r 24) w3 S' ∧ ((F1s s).1 + wsum w3.2.2.2.2.2 + 1 ≤ 500000)
      | none => gF S'.1 33 = 0) := by
    refine ⟨sh3 rA (xF s).1 p (c.length + 1), rfl, ?_⟩
    unfold sh3
    rw [e2]
    unfold shw
    by_cases hb : gF P 33 = 0
    · rw [if_pos (c33.trans hb)]
      have hnp : ¬ plO c.length (pgB y) c := fun z => (q3 z).1 hb
      rw [pgF_bad hW hN.2.2.2.2.1.2.1 hnp]
      refine ⟨UX_tr hUT (UX_S0 T), ?_, ?_, fun z => absurd (c33.trans hb) z, c33.trans hb⟩
      · show gF (clS0 T).1 18 = nI (clS0 T).2
        rw [clS0_F T (by decide), clS0_2]
        exact hokT
      · rw [clS0_2, hFT.2.1]; omega
    · rw [if_neg (fun z => hb (c33.symm.trans z))]
      have hpO : plO c.length (pgB y) c := Classical.byContradiction fun z => hb (q4 z)
      obtain ⟨-, hPL⟩ := q3 hpO
      have hRX := RX_S (A := s.2.2.1) (u := s.1 30) hFT (by rw [T33]; exact hb) (by rw [TB 15 (by decide), PB 15 (by decide) (by decide) (by decide) (by decide) (by decide)]; exact hU) T24 (by rw [← hs10]; exact h010)
      have SB : ∀ j, j ≠ 17 → j ≠ 31 → gB (sF (clS0 T).1 27 (nI 0)) j = gB P j := fun j a b => by rw [sF_BB, clS0_B T b, TB j a]
      have SBr : ∀ j, j ≠ 16 → j ≠ 17 → j ≠ 25 → j ≠ 26 → j ≠ 28 → j ≠ 30 → j ≠ 31 → gB (sF (clS0 T).1 27 (nI 0)) j = gB r j := fun j a b d e f g h => (SB j b h).trans (PB j a d e f g)
      have hwp := w_page (b := p) (x := y) (c := c) (S := (sF (clS0 T).1 27 (nI 0), (clS0 T).2)) (fun m hm => by
          show s.2.2.1 0 m = gB (sF (clS0 T).1 27 (nI 0)) 13 m ∧ s.2.2.1 1 m = gB (sF (clS0 T).1 27 (nI 0)) 14 m
          rw [SBr 13 (by decide) (by decide) (by decide) (by decide) (by decide) (by decide) (by decide), SBr 14 (by decide) (by decide) (by decide) (by decide) (by decide) (by decide) (by decide)]
          exact hFN m hm) hRX (by show gF (sF _ 27 _) 27 = _; rw [sF_FF, if_pos rfl])
        (fun j a b => by show gB (sF (clS0 T).1 27 (nI 0)) j p = _; rw [SBr j (by omega) (by omega) (by omega) (by omega) (by omega) (by omega) (by omega)]; exact hr1 j a b)
        (RWs_sh hr2 (fun e _ l a b => by show gB (sF (clS0 T).1 27 (nI 0)) l _ = _; rw [SBr l (by omega) (by omega) (by omega) (by omega) (by omega) (by omega) (by omega)])) hN h3 hW hd (by omega) (by omega)
        ⟨by show gB (sF (clS0 T).1 27 (nI 0)) 25 0 = 0; rw [SB 25 (by decide) (by decide)]; exact q5, by show gB (sF (clS0 T).1 27 (nI 0)) 26 0 = _; rw [SB 26 (by decide) (by decide)]; exact q6⟩ hpO
        (PLC_cong c.length (WFd_x hW) (by omega) (fun e _ _ => ⟨by show gB (sF (clS0 T).1 27 (nI 0)) 25 e = _; rw [SB 25 (by decide) (by decide)], by show gB (sF (clS0 T).1 27 (nI 0)) 26 e = _; rw [SB 26 (by decide) (by decide)]⟩) hPL) (by omega)
      obtain ⟨b1, b2, b3⟩ := hwp
      have hU2 := UX_tr hUT (UX_tr (UX_S T) b2)
      cases hpg : pgF s.2.2.1 y.2.1 (y.1 1) (y.1 2) (y.1 3) c (s.1 30) with
      | none =>
        rw [hpg] at b3
        exact ⟨hU2, b3.2.1, by have := b3.2.2; omega, fun _ => b1, b3.1⟩
      | some w3 =>
        rw [hpg] at b3
        have hl := RX_len (A := s.2.2.1) b3.1
        have hws := b3.2
        exact ⟨hU2, hl.2, by rw [hl.1]; omega, fun _ => b1, _, b3.1, by omega⟩
  obtain ⟨S', hs3, hUS, hokS, hlS, hwa, hpg⟩ := key
  have hUW : UX 0 (P, (xF s).1) (wp S' 140 1) := UX_tr hUS (UX_wp 0 S' 140 1)
  have hshE : shE rA (xF s).1 p (c.length + 1) (gF r 24) = if gF S'.1 33 = 0 then shf (wp S' 140 1).1 (xF s).1 (gF r 24) else shg (wp S' 140 1).1 (fwr (xF s) (bgL (xF s).1)).1 p := by
    unfold shE she
    rw [hs3, hpl]
    have : gF (wp S' 140 1).1 33 = gF S'.1 33 := wrt_F (by decide) _ _ _ _
    rw [this]
  have WF : ∀ j, j ≠ 0 → j ≠ 18 → j ≠ 24 → j ≠ 27 → j ≠ 32 → j ≠ 33 → gF (wp S' 140 1).1 j = gF r j := fun j a0 a b d e f => (hUW.1 j a b d e f).trans (PF j a0 d f)
  have W0 : gF (wp S' 140 1).1 0 = 0 := (hUW.1 0 (by decide) (by decide) (by decide) (by decide) (by decide)).trans P0
  have WB : ∀ j, j ≠ 15 → j ≠ 16 → j ≠ 17 → j ≠ 25 → j ≠ 26 → j ≠ 28 → j ≠ 30 → j ≠ 31 → gB (wp S' 140 1).1 j = gB r j := fun j a0 a b d e f g h => (hUW.2.2.1 j a0 b f g h).trans (PB j a d e f g)
  have W17 : ∀ j, j < (xF s).1 → gB (wp S' 140 1).1 17 j = gB r 17 j := fun j hj => (hUW.2.2.2.1.2 j hj).trans (by show gB P 17 j = _; rw [PB 17 (by decide) (by decide) (by decide) (by decide) (by decide)])
  have W16 : ∀ m, m < 32 → gB (wp S' 140 1).1 16 m = gB r 15 m := fun m hm => by rw [hUW.2.2.1 16 (by decide) (by decide) (by decide) (by decide) (by decide)]; exact P16 m hm
  have WT : (wp S' 140 1).1.2.1 = r.2.1 := hUW.2.1.trans PT
  have hall : ((∀ j, j ≠ 0 → j ≠ 18 → j ≠ 20 → j ≠ 21 → j ≠ 23 → j ≠ 24 → j ≠ 27 → j ≠ 32 → j ≠ 33 → gF (shE rA (xF s).1 p (c.length + 1) (gF r 24)) j = gF r j) ∧ (∀ j, j ≠ 15 → j ≠ 16 → j ≠ 17 → j ≠ 25 → j ≠ 26 → j ≠ 28 → j ≠ 30 → j ≠ 31 → gB (shE rA (xF s).1 p (c.length + 1) (gF r 24)) j = gB r j)) ∧ rSH s r (shE rA (xF s).1 p (c.length + 1) (gF r 24)) y (pgF s.2.2.1 y.2.1 (y.1 1) (y.1 2) (y.1 3) c (s.1 30)) := by
    rw [hshE]
    have hm := bx_meas hr1 hN h3
    cases hpgc : pgF s.2.2.1 y.2.1 (y.1 1) (y.1 2) (y.1 3) c (s.1 30) with
    | none =>
      rw [hpgc] at hpg
      rw [if_pos hpg]
      obtain ⟨f1, f2, f3, f4, f5, f6, f7⟩ := shf_R (wp S' 140 1).1 (xF s).1 (gF r 24)
      refine ⟨⟨fun j a0 a18 a20 a21 a23 a24 a27 a32 a33 => (f1 j a0 a18 a24).trans (WF j a0 a18 a24 a27 a32 a33), fun j a b d e f g h i => (f6 j a).trans (WB j a b d e f g h i)⟩, f2, f3, fun j hj => by rw [f6 17 (by decide)]; exact W17 j hj, fun m hm2 => ?_, ?_, ?_, ?_, f4, f5.trans WT⟩
      · rw [f7 m hm2, W16 m hm2]
        exact nar01 (hU m hm2).2
      · rw [f1 20 (by decide) (by decide) (by decide)]; exact WF 20 (by decide) (by decide) (by decide) (by decide) (by decide) (by decide)
      · rw [f1 21 (by decide) (by decide) (by decide)]; exact WF 21 (by decide) (by decide) (by decide) (by decide) (by decide) (by decide)
      · rw [f1 23 (by decide) (by decide) (by decide)]; exact WF 23 (by decide) (by decide) (by decide) (by decide) (by decide) (by decide)
    | some w3 =>
      rw [hpgc] at hpg
      obtain ⟨r0, hRX, hln⟩ := hpg
      have hg33 : ¬ gF S'.1 33 = 0 := hRX.2.2.2.2.2.1
      rw [if_neg hg33]
      obtain ⟨f1, f2, f3, f4, f5, f6⟩ := shg_R (wp S' 140 1).1 (fwr (xF s) (bgL (xF s).1)).1 p
      have hfx := FX_wp hRX.2.2.2.2.1 140 (c := 1) (by rw [fwr_sum]; exact hln) (by decide)
      have w2 : gB (wp S' 140 1).1 2 p = y.1 1 := by rw [WB 2 (by decide) (by decide) (by decide) (by decide) (by decide) (by decide) (by decide) (by decide)]; exact hm.1
      have w3' : gB (wp S' 140 1).1 3 p = y.1 2 := by rw [WB 3 (by decide) (by decide) (by decide) (by decide) (by decide) (by decide) (by decide) (by decide)]; exact hm.2.1
      have w4 : gB (wp S' 140 1).1 4 p = y.1 3 := by rw [WB 4 (by decide) (by decide) (by decide) (by decide) (by decide) (by decide) (by decide) (by decide)]; exact hm.2.2.1
      have w23 : gF (wp S' 140 1).1 23 = gF r 23 := WF 23 (by decide) (by decide) (by decide) (by decide) (by decide) (by decide)
      have w20 : gF (wp S' 140 1).1 20 = gF r 20 := WF 20 (by decide) (by decide) (by decide) (by decide) (by decide) (by decide)
      refine ⟨⟨fun j a0 a18 a20 a21 a23 a24 a27 a32 a33 => (f1 j a20 a21 a23).trans (WF j a0 a18 a24 a27 a32 a33), fun j a b d e f g h i => (f6 j).trans (WB j a b d e f g h i)⟩, (f1 0 (by decide) (by decide) (by decide)).trans W0, ⟨(f1 18 (by decide) (by decide) (by decide)).trans hfx.2.2.1, fun j hj => by rw [f6]; exact hfx.2.2.2 j hj⟩, ?_, by rw [f2, w20], f3, by rw [f5, w3', w4, WT], by rw [f4, w2, w23], ?_⟩
      · rw [f6 15]
        have e15 : gB (wp S' 140 1).1 15 = gB S'.1 15 := wrt_B (by decide) _ _ _ _
        rw [e15]
        exact hRX.2.2.1
      · rw [f1 24 (by decide) (by decide) (by decide)]
        have e24 : gF (wp S' 140 1).1 24 = gF S'.1 24 := wrt_F (by decide) _ _ _ _
        rw [e24]
        exact hRX.2.2.2.1
  refine ⟨⟨Nat.succ_pos _, by omega, by omega, by omega, q1, ?_, hwa, ?_, ?_, ?_, ?_, ?_, by omega, by omega, hk⟩, hall⟩
  · rw [e0]
    show gF P 18 = nI (xF s).1
    exact hFXP.2.2.1
  · rw [hs3]; exact hokS
  · rw [hs3]; exact hlS
  · have hs := stt_R (r := shE rA (xF s).1 p (c.length + 1) (gF r 24)) (g := g) (fun j hj => by rw [hall.1.2 12 (by decide) (by decide) (by decide) (by decide) (by decide) (by decide) (by decide) (by decide)]; exact hst j hj) (k := k) (by omega)
    rw [hp] at hs
    exact hs
  · rw [hall.1.2 12 (by decide) (by decide) (by decide) (by decide) (by decide) (by decide) (by decide) (by decide), hst k hk, hg]
    rfl
  · have hv := shv_R (r := shE rA (xF s).1 p (c.length + 1) (gF r 24)) (g := g) (fun j hj => by rw [hall.1.2 12 (by decide) (by decide) (by decide) (by decide) (by decide) (by decide) (by decide) (by decide)]; exact hst j hj)
    rw [hv, show (3100 : Int32) = nI 3100 from rfl, nI_add]
