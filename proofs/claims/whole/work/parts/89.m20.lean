/-! the reference's places: all of a list -/
def WFd (v : Int32) (c : List Rec) (d : Nat) : Prop := ∃ k d', WF k v c d' ∧ d' ≤ d
theorem WFd_x {v : Int32} {c : List Rec} {d : Nat} (h : WFd v c d) : WFx v c := by
  obtain ⟨k, d', h, -⟩ := h
  exact ⟨k, d', h⟩
theorem WFd_cons {v : Int32} {x : Rec} {t : List Rec} {d : Nat} (h : WFd v (x :: t) d) : ∃ c' t', t = c' ++ t' ∧ NK v (x, c') ∧ WFd x.2.1 c' x.2.2.2 ∧ WFd v t' d ∧ (x.1 0 = 3 → x.2.2.2 + 1 ≤ d) := by
  obtain ⟨k, d', h, hd⟩ := h
  cases k with
  | zero => exact absurd h.1 (by simp)
  | succ k =>
    obtain ⟨ts, h1, h0, h2⟩ := h
    cases ts with
    | nil => cases h1
    | cons p ts =>
      have h1 : x :: t = p.1 :: (p.2 ++ flt ts) := h1
      injection h1 with h1 h3
      obtain ⟨h4, h5⟩ := h2 p List.mem_cons_self
      have h0 : d' = max (dm1 p) (dmx ts) := h0
      refine ⟨p.2, flt ts, h3, by rw [h1]; exact h4, by rw [h1]; exact ⟨k, _, h5, Nat.le_refl _⟩, ⟨k + 1, dmx ts, ⟨ts, rfl, rfl, fun q hq => h2 q (List.mem_cons_of_mem _ hq)⟩, by omega⟩, fun h6 => ?_⟩
      have : dm1 p = x.2.2.2 + 1 := by unfold dm1; rw [← h1, if_pos h6]
      omega
def PLC (r : RS) (b : Nat) : Nat → Nat → (Nat → Int32) → List Rec → Prop
  | 0, _, _, _ => True
  | _ + 1, _, _, [] => True
  | n + 1, i, F, x :: t => (gB r 25 (i - b) = (rgO F x.1).toInt32 ∧ gB r 26 (i - b) = (dnO F x.1).toInt32) ∧ PLC r b n (i + 1) (bgX F x) (t.take (x.2.2.1 - 1)) ∧ PLC r b n (i + x.2.2.1) (advX F x) (t.drop (x.2.2.1 - 1))
theorem PLC_nil (r : RS) (b n i : Nat) (F : Nat → Int32) : PLC r b n i F [] := by cases n <;> exact trivial
def adA : Nat → (Nat → Int32) → List Rec → Nat → Int32
  | 0, F, _ => F
  | _ + 1, F, [] => F
  | n + 1, F, x :: t => adA n (advX F x) (t.drop (x.2.2.1 - 1))
section pc
variable {r r' : RS} {b n i : Nat} {F : Nat → Int32} {x : Rec} {c' t' : List Rec} {v : Int32}
theorem PLC_c (h : NK v (x, c')) : PLC r b (n + 1) i F (x :: (c' ++ t')) ↔ (gB r 25 (i - b) = (rgO F x.1).toInt32 ∧ gB r 26 (i - b) = (dnO F x.1).toInt32) ∧ PLC r b n (i + 1) (bgX F x) c' ∧ PLC r b n (i + 1 + c'.length) (advX F x) t' := by
  show (gB r 25 (i - b) = (rgO F x.1).toInt32 ∧ gB r 26 (i - b) = (dnO F x.1).toInt32) ∧ PLC r b n (i + 1) (bgX F x) ((c' ++ t').take (x.2.2.1 - 1)) ∧ PLC r b n (i + x.2.2.1) (advX F x) ((c' ++ t').drop (x.2.2.1 - 1)) ↔ _
  rw [(sp_td h).1, (sp_td h).2, show x.2.2.1 = c'.length + 1 from h.1, show i + (c'.length + 1) = i + 1 + c'.length by omega]
theorem adA_c (h : NK v (x, c')) : adA (n + 1) F (x :: (c' ++ t')) = adA n (advX F x) t' := by
  show adA n (advX F x) ((c' ++ t').drop (x.2.2.1 - 1)) = _
  rw [(sp_td h).2]
end pc
theorem PLC_cong {r r' : RS} {b : Nat} : ∀ (n : Nat) {i : Nat} {F : Nat → Int32} {c : List Rec} {v : Int32}, WFx v c → b ≤ i → (∀ e, i - b ≤ e → e < i + c.length - b → gB r' 25 e = gB r 25 e ∧ gB r' 26 e = gB r 26 e) → PLC r b n i F c → PLC r' b n i F c := by
  intro n
  induction n with
  | zero => intro i F c v _ _ _ _; exact trivial
  | succ n ih =>
    intro i F c v hW hb he h
    cases c with
    | nil => exact trivial
    | cons x t =>
      obtain ⟨c', t', rfl, hN, hW1, hW2⟩ := WFx_cons hW
      have hlen : (x :: (c' ++ t')).length = c'.length + t'.length + 1 := by rw [List.length_cons, List.length_append]
      rw [hlen] at he
      obtain ⟨h1, h2, h3⟩ := (PLC_c hN).mp h
      have e0 := he (i - b) (Nat.le_refl _) (by omega)
      exact (PLC_c hN).mpr ⟨⟨e0.1.trans h1.1, e0.2.trans h1.2⟩, ih hW1 (by omega) (fun e a c => he e (by omega) (by omega)) h2, ih hW2 (by omega) (fun e a c => he e (by omega) (by omega)) h3⟩
theorem pla_0 {b : Nat} {r : RS} (h : gF r 33 = 0) (m i : Nat) : pla b m i r = r := by
  cases m with
  | zero => rfl
  | succ m => exact if_pos h
theorem pla_s {b m i : Nat} {r : RS} (h : ¬ gF r 33 = 0) : pla b (m + 1) i r = pla b m (i + 1) (pln b r i) := if_neg h
theorem pla_add (b m2 : Nat) : ∀ (m1 i : Nat) (r : RS), pla b (m1 + m2) i r = pla b m2 (i + m1) (pla b m1 i r) := by
  intro m1
  induction m1 with
  | zero => intro i r; rw [Nat.zero_add]; rfl
  | succ m1 ih =>
    intro i r
    by_cases h : gF r 33 = 0
    · rw [pla_0 h, pla_0 h, pla_0 h]
    · rw [show m1 + 1 + m2 = m1 + m2 + 1 by omega, pla_s h, pla_s h, ih, show i + 1 + m1 = i + (m1 + 1) by omega]
theorem plok_0 {b : Nat} {r : RS} (h : gF r 33 = 0) (m i : Nat) : plok b m i r := by
  cases m with
  | zero => exact trivial
  | succ m => exact Or.inl h
theorem plok_add {b m2 : Nat} : ∀ {m1 i : Nat} {r : RS}, plok b m1 i r → plok b m2 (i + m1) (pla b m1 i r) → plok b (m1 + m2) i r := by
  intro m1
  induction m1 with
  | zero => intro i r _ h; rw [Nat.zero_add]; exact h
  | succ m1 ih =>
    intro i r h h'
    rw [show m1 + 1 + m2 = m1 + m2 + 1 by omega]
    by_cases h0 : gF r 33 = 0
    · exact plok_0 h0 _ _
    · rcases h with h | h
      · exact absurd h h0
      · rw [pla_s h0, show i + (m1 + 1) = i + 1 + m1 by omega] at h'
        exact Or.inr ⟨h.1, ih h.2 h'⟩
theorem PU_any (b i j q : Nat) (r : RS) : PU b i j q r r := ⟨fun _ _ _ => rfl, rfl, fun _ _ _ _ _ => rfl, fun _ _ => ⟨rfl, rfl⟩, fun _ _ => ⟨rfl, rfl⟩, fun _ _ => rfl⟩
theorem RWs_PU {b i j q : Nat} {r r' : RS} (h : PU b i j q r r') {k : Nat} {L : List Rec} (hL : RWs r k L) : RWs r' k L := RWs_sh hL (fun e _ l h1 h7 => by rw [h.2.2.1 l (by omega) (by omega) (by omega) (by omega)])
theorem FB_PU {b i j q bx : Nat} {r r' : RS} {F : Nat → Int32} (h : PU b i j (q + 1) r r') (hB : FB r b q bx F) (hb : bx - b < i - b) : FB r' b q bx F := by
  refine FB_up hB (h.2.2.2.2.1 q (Nat.le_succ _)).2 ((h.2.2.2.2.2 q (Nat.lt_succ_self _)).trans hB.2.2.1) (h.2.2.2.1 _ (Or.inl hb)) ⟨?_, ?_, ?_, ?_⟩ (fun _ _ => rfl)
  · exact h.2.2.1 1 (by decide) (by decide) (by decide) (by decide)
  · exact h.2.2.1 2 (by decide) (by decide) (by decide) (by decide)
  · exact h.2.2.1 3 (by decide) (by decide) (by decide) (by decide)
  · exact h.2.2.1 4 (by decide) (by decide) (by decide) (by decide)
theorem pln_e {r : RS} {b q bx i : Nat} {F : Nat → Int32} {x : Rec} {v : Int32} (hv : F 5 = v) (h : RW r i x) (hI : IOK v x) (hB : FB r b q bx F) (hJ : JK r i q) (hu : nI i < gB r 28 q) : pln b r i = ple (pl1 r q i b F x) (q + 1) i b ∧ plk b r i := by
  obtain ⟨h1, h2, h3⟩ := plq_J hJ hu
  have e8 : 8 * (q + 1) - 8 = 8 * q := by omega
  have hb : plb r i = bx := by
    unfold plb
    rw [h1, e8, hB.1, nI_clamp (by have := hB.2.1; omega)]
  refine ⟨?_, h2, h3, by rw [h1]; omega, ?_, ?_, ?_, ?_⟩
  · unfold pln
    rw [h1, hb]
    exact pl1_e hv h hI hB
  · rw [hb, h1, e8]; exact hB.1
  · rw [hb]; exact hB.2.1.1
  · rw [hb]; exact hB.2.1.2.2
  · rw [hb]; exact hB.2.1.2.1
def pRs (b n len i q bx : Nat) (F : Nat → Int32) (c : List Rec) (r r' : RS) : Prop := plok b len i r ∧ PU b i (i + len) q r r' ∧ (plO n F c → ¬ gF r' 33 = 0 ∧ JK r' (i + len) q ∧ FB r' b q bx (adA n F c) ∧ PLC r' b n i F c) ∧ (¬ plO n F c → gF r' 33 = 0)
set_option maxHeartbeats 4000000 in
theorem p_real {b : Nat} : ∀ (n : Nat) {v : Int32} {c : List Rec} {d : Nat} {F : Nat → Int32} {r : RS} {i bx q e : Nat}, WFd v c d → c.length ≤ n → RWs r i c → FB r b q bx F → F 5 = v → bx < i → gB r 28 q = nI e → i + c.length ≤ e → e ≤ 6200 → e - b ≤ 3100 → JK r i q → q + d ≤ 100 → ¬ gF r 33 = 0 → pRs b n c.length i q bx F c r (pla b c.length i r) := by
  intro n
  induction n with
  | zero =>
    intro v c d F r i bx q e hW hl hr hB hv hbx hu he he1 he2 hJ hq hg
    have hc : c = [] := List.length_eq_zero_iff.mp (Nat.le_zero.mp hl)
    subst hc
    exact ⟨trivial, PU_rf _ _ _ _, fun _ => ⟨hg, hJ, hB, trivial⟩, fun z => absurd trivial z⟩
  | succ n ih =>
    intro v c d F r i bx q e hW hl hr hB hv hbx hu he he1 he2 hJ hq hg
    cases c with
    | nil => exact ⟨trivial, PU_rf _ _ _ _, fun _ => ⟨hg, hJ, hB, trivial⟩, fun z => absurd trivial z⟩
    | cons x t =>
      obtain ⟨c', t', rfl, hN, hW1, hW2, hd⟩ := WFd_cons hW
      have hlen : (x :: (c' ++ t')).length = c'.length + t'.length + 1 := by rw [List.length_cons, List.length_append]
      rw [hlen] at hl he ⊢
      have hrx : RW r i x := hr.1
      have hr2 : RWs r (i + 1) (c' ++ t') := hr.2
      have hui : nI i < gB r 28 q := by rw [hu]; exact nI_lt (by omega) (by omega)
      obtain ⟨hpn, hpk⟩ := pln_e hv hrx hN.2.2 hB hJ hui
      have hbb := hB.2.1
      unfold pRs
      rw [pla_s hg, plO_c hN, adA_c hN, PLC_c hN]
      by_cases he0 : x.1 0 = 3 ∧ c' ≠ []
      · have hd3 := hd he0.1
        obtain ⟨g1, g2, g3⟩ := p_it1 hrx hN hB hv hbx hg (by omega) hJ (by omega) ⟨by omega, by omega⟩ he0.1 he0.2
        rw [← hpn] at g1 g2 g3
        generalize hr1 : pln b r i = r1 at g1 g2 g3
        by_cases hb : badX F x
        · have h0 : gF r1 33 = 0 := Classical.byContradiction fun z => g2.mp z hb
          rw [pla_0 h0]
          exact ⟨Or.inr ⟨hpk, by rw [hr1]; exact plok_0 h0 _ _⟩, PU_tr g1 (PU_any b (i + 1) (i + (c'.length + t'.length + 1)) q r1) (by omega) (by omega) (Nat.le_refl _), fun z => absurd hb z.1, fun _ => h0⟩
        · obtain ⟨k1, k2, k3, k4⟩ := g3 hb
          have hgr := g2.mpr hb
          have hrr := (RWs_app r1 c' t' (i + 1)).mp (RWs_PU g1 hr2)
          have h1 := ih hW1 (by omega) hrr.1 k2 rfl (by omega) k3 (Nat.le_refl _) (by omega) (by omega) k4 (by omega) hgr
          obtain ⟨a1, a2, a3, a4⟩ := h1
          rw [pla_add]
          generalize hr2e : pla b c'.length (i + 1) r1 = r2 at a2 a3 a4
          have hPU2 : PU b i (i + 1 + c'.length) q r r2 := PU_tr g1 a2 (by omega) (by omega) (by omega)
          by_cases hp : plO n (bgX F x) c'
          · obtain ⟨b1, b2, b3, b4⟩ := a3 hp
            have hJ2 : JK r2 (i + 1 + c'.length) q := JK_pop b2 (by rw [(a2.2.2.2.2.1 (q + 1) (Nat.le_refl _)).1, k3]; exact Int32.le_refl _)
            have hB2 : FB r2 b q bx (advX F x) := FB_PU a2 k1 (by omega)
            have hu2 : gB r2 28 q = nI e := (hPU2.2.2.2.2.1 q (Nat.le_refl _)).1.trans hu
            have h2 := ih hW2 (by omega) (RWs_PU a2 hrr.2) hB2 ((ad_n F x (by decide)).trans hv) (by omega) hu2 (by omega) he1 he2 hJ2 hq b1
            obtain ⟨c1, c2, c3, c4⟩ := h2
            refine ⟨Or.inr ⟨hpk, by rw [hr1]; exact plok_add a1 (by rw [hr2e]; exact c1)⟩, ?_, fun z => ?_, fun z => c4 (fun y => z ⟨hb, hp, y⟩)⟩
            · rw [show i + (c'.length + t'.length + 1) = i + 1 + c'.length + t'.length by omega]
              exact PU_tr hPU2 c2 (by omega) (by omega) (Nat.le_refl _)
            · obtain ⟨d1, d2, d3, d4⟩ := c3 z.2.2
              refine ⟨d1, ?_, d3, ⟨?_, ?_⟩, ?_, d4⟩
              · rw [show i + (c'.length + t'.length + 1) = i + 1 + c'.length + t'.length by omega]
                exact d2
              · rw [(c2.2.2.2.1 (i - b) (Or.inl (by omega))).1, (a2.2.2.2.1 (i - b) (Or.inl (by omega))).1]; exact k2.2.2.2.1
              · rw [(c2.2.2.2.1 (i - b) (Or.inl (by omega))).2, (a2.2.2.2.1 (i - b) (Or.inl (by omega))).2]; exact k2.2.2.2.2.1
              · exact PLC_cong n (WFd_x hW1) (by omega) (fun e x y => c2.2.2.2.1 e (Or.inl (by omega))) b4
          · have h0 := a4 hp
            rw [pla_0 h0]
            refine ⟨Or.inr ⟨hpk, by rw [hr1]; exact plok_add a1 (by rw [hr2e]; exact plok_0 h0 _ _)⟩, PU_tr hPU2 (PU_any b (i + 1 + c'.length) (i + (c'.length + t'.length + 1)) q r2) (by omega) (by omega) (Nat.le_refl _), fun z => absurd z.2.1 hp, fun _ => h0⟩
      · obtain ⟨g1, g2, g3⟩ := p_it0 hrx hN hB hv hbx hg (by omega) hJ (by omega) he0
        have hc : c' = [] := by
          by_cases h3 : x.1 0 = 3
          · exact Classical.byContradiction fun z => he0 ⟨h3, z⟩
          · exact NK_nb hN h3
        have hple : ple (pl1 r q i b F x) (q + 1) i b = pl1 r q i b F x := by
          unfold ple
          refine if_neg (fun z => he0 ?_)
          have hisb := z.1
          rw [isb_R (RW_p1 hrx) hN.2.2.1, i01] at hisb
          refine ⟨hisb, fun y => ?_⟩
          have h7 := z.2.1
          rw [(bx_meas (RW_p1 hrx) hN hisb).2.2.2.1, y] at h7
          exact absurd h7 (by decide)
        have e25 : gB (pl1 r q i b F x) 25 (i - b) = (rgO F x.1).toInt32 := by rw [pl1_B, if_pos ⟨rfl, rfl⟩]
        have e26 : gB (pl1 r q i b F x) 26 (i - b) = (dnO F x.1).toInt32 := by rw [pl1_B, if_neg (by omega), if_pos ⟨rfl, rfl⟩]
        rw [hple] at hpn
        rw [← hpn] at g1 g2 g3 e25 e26
        generalize hr1 : pln b r i = r1 at g1 g2 g3 e25 e26
        subst hc
        have e0 : ([] : List Rec).length + t'.length = t'.length := Nat.zero_add _
        have e1 : ([] : List Rec).length = 0 := rfl
        rw [e0, e1]
        by_cases hb : badX F x
        · have h0 : gF r1 33 = 0 := Classical.byContradiction fun z => g2.mp z hb
          rw [pla_0 h0]
          exact ⟨Or.inr ⟨hpk, by rw [hr1]; exact plok_0 h0 _ _⟩, PU_tr g1 (PU_any b (i + 1) (i + (t'.length + 1)) q r1) (by omega) (by omega) (Nat.le_refl _), fun z => absurd hb z.1, fun _ => h0⟩
        · obtain ⟨k1, k4⟩ := g3 hb
          have hgr := g2.mpr hb
          have hu2 : gB r1 28 q = nI e := (g1.2.2.2.2.1 q (Nat.le_refl _)).1.trans hu
          have h2 := ih hW2 (by omega) (RWs_PU g1 hr2) k1 ((ad_n F x (by decide)).trans hv) (by omega) hu2 (by omega) he1 he2 k4 hq hgr
          obtain ⟨c1, c2, c3, c4⟩ := h2
          refine ⟨Or.inr ⟨hpk, by rw [hr1]; exact c1⟩, ?_, fun z => ?_, fun z => c4 (fun y => z ⟨hb, plO_nil _ _, y⟩)⟩
          · rw [show i + (t'.length + 1) = i + 1 + t'.length by omega]
            exact PU_tr g1 c2 (by omega) (by omega) (Nat.le_refl _)
          · obtain ⟨d1, d2, d3, d4⟩ := c3 z.2.2
            refine ⟨d1, ?_, d3, ⟨?_, ?_⟩, PLC_nil _ _ _ _ _, d4⟩
            · rw [show i + (t'.length + 1) = i + 1 + t'.length by omega]
              exact d2
            · rw [(c2.2.2.2.1 (i - b) (Or.inl (by omega))).1]; exact e25
            · rw [(c2.2.2.2.1 (i - b) (Or.inl (by omega))).2]; exact e26
