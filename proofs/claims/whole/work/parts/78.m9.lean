/-! character, space, rule -/
theorem S_aok {s : PS} {Z : MP} {r : RS} {g : Nat → List Rec} {v : Int32} {ts : List TRE} {o : List (Int32 × List TRE)} (h : SIM s Z r g ((v, ts) :: o)) (b : Int32) : aok r b ↔ ¬ b = 0 ∧ s.1 5 < 3000 := by
  show (¬ b = 0 ∧ ¬ gF r 8 = 0 ∧ ¬ hrm r 1 = 0) ↔ _
  rw [S_rm h]
  exact ⟨fun z => ⟨z.1, z.2.2⟩, fun z => ⟨z.1, S_L h, z.2⟩⟩
theorem ite_01 {p : Prop} [Decidable p] : ¬ (if p then (1 : Int32) else 0) = 0 ↔ p := by
  by_cases h : p
  · rw [if_pos h]; exact ⟨fun _ => h, fun _ => by decide⟩
  · rw [if_neg h]; exact ⟨fun z => absurd rfl z, fun z => absurd z h⟩
theorem S_chr {s : PS} {Z : MP} {r : RS} {g : Nat → List Rec} {v : Int32} {ts : List TRE} {o : List (Int32 × List TRE)} (h : SIM s Z r g ((v, ts) :: o)) (f c w h' d : Int32) : chc s v f c w h' d ↔ aok r (chb r (o.length + 1) f c w h' d) := by
  rw [S_aok h]
  unfold chb
  rw [ite_01]
  show (v = 0 ∧ s.1 5 < 3000 ∧ ¬ ifn f = 0 ∧ ¬ c < 0 ∧ ¬ 256 ≤ c ∧ ¬ asz w.toInt64 h'.toInt64 d.toInt64 = 0) ↔ ((isv r (o.length + 1) = 0 ∧ ¬ f < 0 ∧ ¬ 32 ≤ f ∧ ¬ c < 0 ∧ ¬ 256 ≤ c ∧ sz4 w ∧ sz4 h' ∧ sz4 d) ∧ s.1 5 < 3000)
  rw [S_isv h, ifn_0, asz_l, Classical.not_not]
  have hv : (if v = 0 then (0 : Int32) else 1) = 0 ↔ v = 0 := by
    by_cases hv : v = 0
    · rw [if_pos hv]; exact ⟨fun _ => hv, fun _ => rfl⟩
    · rw [if_neg hv]; exact ⟨fun z => absurd z (by decide), fun z => absurd z hv⟩
  rw [hv]
  exact ⟨fun z => ⟨⟨z.1, z.2.2.1.1, z.2.2.1.2, z.2.2.2.1, z.2.2.2.2.1, z.2.2.2.2.2⟩, z.2.1⟩, fun z => ⟨z.1.1, z.2, ⟨z.1.2.1, z.1.2.2.1⟩, z.1.2.2.2.1, z.1.2.2.2.2.1, z.1.2.2.2.2.2⟩⟩
theorem rC_2 (x : Rec) : rC x 2 = run1 (x.1 6) 1 (x.1 1) := by unfold rC; simp
theorem rC_3 (x : Rec) : rC x 3 = run1 (x.1 6) 2 (x.1 2) := by unfold rC; simp
theorem rC_4 (x : Rec) : rC x 4 = run1 (x.1 6) 4 (x.1 3) := by unfold rC; simp
theorem I_chr {s : PS} {v f c w h' d : Int32} (h : chc s v f c w h' d) : ¬ (itI 0 w h' d f c 0 0) 0 = 3 ∧ IOK v (itI 0 w h' d f c 0 0, 0, 1, 0) ∧ (rC (itI 0 w h' d f c 0 0, 0, 1, 0) 1 = 1 ∧ rC (itI 0 w h' d f c 0 0, 0, 1, 0) 2 = w ∧ rC (itI 0 w h' d f c 0 0, 0, 1, 0) 3 = h' ∧ rC (itI 0 w h' d f c 0 0, 0, 1, 0) 4 = d ∧ rC (itI 0 w h' d f c 0 0, 0, 1, 0) 5 = f ∧ rC (itI 0 w h' d f c 0 0, 0, 1, 0) 6 = c ∧ rC (itI 0 w h' d f c 0 0, 0, 1, 0) 7 = 1) := by
  obtain ⟨hv, -, hf, -, -, hs⟩ := h
  obtain ⟨m, hm, rfl⟩ := ifn_ex hf
  have hs' : sz4 w ∧ sz4 h' ∧ sz4 d := Classical.not_not.mp (fun z => hs ((asz_l w h' d).mpr z))
  refine ⟨show ¬ (0 : Int32) = 3 by decide, ⟨Or.inl rfl, ⟨m, hm, rfl⟩, ⟨hs'.1, hs'.2.1, hs'.2.2, show sz4 0 by decide⟩, fun _ => rfl, fun _ => rfl, fun _ => show (0 : Int32) &&& 1 = 0 by decide, fun z => absurd hv z, fun z => absurd (show (0 : Int32) = 2 from z) (by decide), fun z => absurd (show (0 : Int32) &&& 1 = 0 by decide) z, fun z => absurd (show (0 : Int32) &&& 2 = 0 by decide) z, fun z => absurd (show (0 : Int32) &&& 4 = 0 by decide) z⟩, ⟨rfl, ?_, ?_, ?_, rfl, rfl, rfl⟩⟩
  · rw [rC_2]; exact run1_0 (by decide) (show (0 : Int32) &&& 1 = 0 by decide)
  · rw [rC_3]; exact run1_0 (by decide) (show (0 : Int32) &&& 2 = 0 by decide)
  · rw [rC_4]; exact run1_0 (by decide) (show (0 : Int32) &&& 4 = 0 by decide)
theorem S_spc {s : PS} {Z : MP} {r : RS} {g : Nat → List Rec} {v : Int32} {ts : List TRE} {o : List (Int32 × List TRE)} (h : SIM s Z r g ((v, ts) :: o)) (x : Int32) : spc s x ↔ aok r (isz x) := by
  rw [S_aok h]
  show (s.1 5 < 3000 ∧ ¬ iszl x.toInt64 = 0) ↔ _
  rw [isz_l]
  exact ⟨fun z => ⟨z.2, z.1⟩, fun z => ⟨z.2, z.1⟩⟩
theorem I_spc {s : PS} {v x : Int32} (h : spc s x) : ¬ (itI 2 x 0 0 0 0 0 0) 0 = 3 ∧ IOK v (itI 2 x 0 0 0 0 0 0, 0, 1, 0) ∧ (rC (itI 2 x 0 0 0 0 0 0, 0, 1, 0) 1 = 3 ∧ rC (itI 2 x 0 0 0 0 0 0, 0, 1, 0) 2 = x ∧ rC (itI 2 x 0 0 0 0 0 0, 0, 1, 0) 3 = 0 ∧ rC (itI 2 x 0 0 0 0 0 0, 0, 1, 0) 4 = 0 ∧ rC (itI 2 x 0 0 0 0 0 0, 0, 1, 0) 5 = 0 ∧ rC (itI 2 x 0 0 0 0 0 0, 0, 1, 0) 6 = 0 ∧ rC (itI 2 x 0 0 0 0 0 0, 0, 1, 0) 7 = 1) := by
  have hs : sz4 x := by have := h.2; rw [isz_l] at this; exact this
  refine ⟨show ¬ (2 : Int32) = 3 by decide, ⟨Or.inr (Or.inr (Or.inl rfl)), ⟨0, by decide, rfl⟩, ⟨hs, show sz4 0 by decide, show sz4 0 by decide, show sz4 0 by decide⟩, fun _ => rfl, fun _ => rfl, fun _ => show (0 : Int32) &&& 1 = 0 by decide, fun _ => ⟨show (0 : Int32) &&& 2 = 0 by decide, show (0 : Int32) &&& 4 = 0 by decide, show ¬ (2 : Int32) = 0 by decide⟩, fun _ => ⟨rfl, rfl⟩, fun z => absurd (show (0 : Int32) &&& 1 = 0 by decide) z, fun z => absurd (show (0 : Int32) &&& 2 = 0 by decide) z, fun z => absurd (show (0 : Int32) &&& 4 = 0 by decide) z⟩, ⟨rfl, ?_, ?_, ?_, rfl, rfl, rfl⟩⟩
  · rw [rC_2]; exact run1_0 (by decide) (show (0 : Int32) &&& 1 = 0 by decide)
  · rw [rC_3]; exact run1_0 (by decide) (show (0 : Int32) &&& 2 = 0 by decide)
  · rw [rC_4]; exact run1_0 (by decide) (show (0 : Int32) &&& 4 = 0 by decide)
/-- the bits that a rule may have -/
theorem msk_eq {x m : Int32} (h : x &&& (m ^^^ (-1)) = 0) : x = x &&& m := by
  have h1 := congrArg Int32.toBitVec h
  rw [Int32.toBitVec_and, Int32.toBitVec_xor] at h1
  apply Int32.toBitVec_inj.mp
  rw [Int32.toBitVec_and]
  apply BitVec.eq_of_getLsbD_eq
  intro i hi
  have h2 := congrArg (fun b => b.getLsbD i) h1
  simp only [BitVec.getLsbD_and, BitVec.getLsbD_xor] at h2 ⊢
  have h3 : (-1 : Int32).toBitVec.getLsbD i = true := by
    rw [show (-1 : Int32).toBitVec = BitVec.allOnes 32 by decide, BitVec.getLsbD_allOnes]
    exact decide_eq_true hi
  have h4 : (0 : Int32).toBitVec.getLsbD i = false := by
    rw [show (0 : Int32).toBitVec = 0#32 by decide]
    exact BitVec.getLsbD_zero
  rw [h3, h4] at h2
  revert h2
  cases x.toBitVec.getLsbD i <;> cases m.toBitVec.getLsbD i <;> simp
theorem and_or_d (x a b : Int32) : x &&& (a ||| b) = (x &&& a) ||| (x &&& b) := by
  apply Int32.toBitVec_inj.mp
  rw [Int32.toBitVec_and, Int32.toBitVec_or, Int32.toBitVec_or, Int32.toBitVec_and, Int32.toBitVec_and, BitVec.and_or_distrib_left]
theorem msk_1 (x : Int32) : x &&& (1 ^^^ (-1)) = 0 ↔ x = 0 ∨ x = 1 := by
  constructor
  · intro h
    have h1 := msk_eq h
    rcases bit1_1 x with z | z
    · exact Or.inl (h1.trans z)
    · exact Or.inr (h1.trans z)
  · rintro (rfl | rfl) <;> decide
theorem msk_6 (x : Int32) : x &&& (6 ^^^ (-1)) = 0 ↔ x = 0 ∨ x = 2 ∨ x = 4 ∨ x = 6 := by
  constructor
  · intro h
    have h1 := msk_eq h
    rw [show (6 : Int32) = 2 ||| 4 by decide, and_or_d] at h1
    rcases bit1_2 x with z | z <;> rcases bit1_4 x with y | y <;> rw [z, y] at h1
    · exact Or.inl (h1.trans (by decide))
    · exact Or.inr (Or.inr (Or.inl (h1.trans (by decide))))
    · exact Or.inr (Or.inl (h1.trans (by decide)))
    · exact Or.inr (Or.inr (Or.inr (h1.trans (by decide))))
  · rintro (rfl | rfl | rfl | rfl) <;> decide
theorem S_rul {s : PS} {Z : MP} {r : RS} {g : Nat → List Rec} {v : Int32} {ts : List TRE} {o : List (Int32 × List TRE)} (h : SIM s Z r g ((v, ts) :: o)) (w h' d x : Int32) : rlc s v w h' d x ↔ aok r (rlb (rmay (isv r (o.length + 1)) x) w h' d) := by
  rw [S_aok h, S_isv h]
  unfold rlb
  rw [ite_01]
  show (s.1 5 < 3000 ∧ ¬ asz w.toInt64 h'.toInt64 d.toInt64 = 0 ∧ x &&& ((if v = 0 then 6 else 1) ^^^ (-1)) = 0) ↔ ((¬ rmay (if v = 0 then 0 else 1) x = 0 ∧ sz4 w ∧ sz4 h' ∧ sz4 d) ∧ s.1 5 < 3000)
  have hm : ¬ rmay (if v = 0 then 0 else 1) x = 0 ↔ x &&& ((if v = 0 then 6 else 1) ^^^ (-1)) = 0 := by
    unfold rmay
    by_cases hv : v = 0
    · rw [if_pos hv, if_pos hv, if_neg (fun z => z rfl), ite_01, msk_6]
    · rw [if_neg hv, if_neg hv, if_pos (by decide), ite_01, msk_1]
  rw [asz_l, Classical.not_not, hm]
  exact ⟨fun z => ⟨⟨z.2.2, z.2.1⟩, z.1⟩, fun z => ⟨z.2, z.1.2, z.1.1⟩⟩
theorem slf_run {x bit w : Int32} (h : bit1 x bit) (hb : ¬ (0 : Int32) = bit) : run1 x bit (slf x bit w) = run1 x bit w := by
  by_cases hx : x &&& bit = 0
  · unfold slf; rw [if_pos hx]
  · rw [run1_1 h hx, run1_1 h hx]
theorem slf_sz {x bit w : Int32} (h : sz4 w) : sz4 (slf x bit w) := by
  unfold slf
  split
  · exact h
  · decide
theorem I_rul {s : PS} {v w h' d x : Int32} (h : rlc s v w h' d x) : ¬ (itI 1 (slf x 1 w) (slf x 2 h') (slf x 4 d) 0 0 x 0) 0 = 3 ∧ IOK v (itI 1 (slf x 1 w) (slf x 2 h') (slf x 4 d) 0 0 x 0, 0, 1, 0) ∧ (rC (itI 1 (slf x 1 w) (slf x 2 h') (slf x 4 d) 0 0 x 0, 0, 1, 0) 1 = 2 ∧ rC (itI 1 (slf x 1 w) (slf x 2 h') (slf x 4 d) 0 0 x 0, 0, 1, 0) 2 = run1 x 1 w ∧ rC (itI 1 (slf x 1 w) (slf x 2 h') (slf x 4 d) 0 0 x 0, 0, 1, 0) 3 = run1 x 2 h' ∧ rC (itI 1 (slf x 1 w) (slf x 2 h') (slf x 4 d) 0 0 x 0, 0, 1, 0) 4 = run1 x 4 d ∧ rC (itI 1 (slf x 1 w) (slf x 2 h') (slf x 4 d) 0 0 x 0, 0, 1, 0) 5 = 0 ∧ rC (itI 1 (slf x 1 w) (slf x 2 h') (slf x 4 d) 0 0 x 0, 0, 1, 0) 6 = 0 ∧ rC (itI 1 (slf x 1 w) (slf x 2 h') (slf x 4 d) 0 0 x 0, 0, 1, 0) 7 = 1) := by
  obtain ⟨-, hs, hx⟩ := h
  have hs' : sz4 w ∧ sz4 h' ∧ sz4 d := Classical.not_not.mp (fun z => hs ((asz_l w h' d).mpr z))
  refine ⟨show ¬ (1 : Int32) = 3 by decide, ⟨Or.inr (Or.inl rfl), ⟨0, by decide, rfl⟩, ⟨slf_sz hs'.1, slf_sz hs'.2.1, slf_sz hs'.2.2, show sz4 0 by decide⟩, fun z => absurd rfl z, fun _ => rfl, fun hv => ?_, fun hv => ?_, fun z => absurd (show (1 : Int32) = 2 from z) (by decide), fun z => if_neg z, fun z => if_neg z, fun z => if_neg z⟩, ⟨rfl, slf_run (bit1_1 x) (by decide), slf_run (bit1_2 x) (by decide), slf_run (bit1_4 x) (by decide), rfl, rfl, rfl⟩⟩
  · show x &&& 1 = 0
    have hx : x &&& ((if v = 0 then 6 else 1) ^^^ (-1)) = 0 := hx
    rw [if_pos hv, msk_6] at hx
    rcases hx with rfl | rfl | rfl | rfl <;> decide
  · show x &&& 2 = 0 ∧ x &&& 4 = 0 ∧ ¬ (1 : Int32) = 0
    have hx : x &&& ((if v = 0 then 6 else 1) ^^^ (-1)) = 0 := hx
    rw [if_neg hv, msk_1] at hx
    rcases hx with rfl | rfl <;> decide
/-! byteAt, count, size -/
theorem S_byt {s : PS} {Z : MP} {r : RS} {g : Nat → List Rec} {ops : List (Int32 × List TRE)} (h : SIM s Z r g ops) (x : Int32) : byg (xF s).2.2 (xF s).1 x = bya r (xF s).1 x := by
  obtain ⟨-, -, -, -, -, -, hF, -, hl, -⟩ := h
  unfold byg bya
  by_cases hx : ¬ x < 0 ∧ x < nI (xF s).1
  · rw [if_pos hx, if_pos hx]
    obtain ⟨m, hm, rfl⟩ := nI_n (by omega) hx.1 hx.2
    rw [nI_clamp (by omega), hF.2 m hm]
  · rw [if_neg hx, if_neg hx]
theorem S_cnt {s : PS} {Z : MP} {r : RS} {g : Nat → List Rec} {ops : List (Int32 × List TRE)} (h : SIM s Z r g ops) (x : Int32) : pcn s (nI ops.length) x = cnt r x := by
  obtain ⟨⟨Zf, fp, -, h2, -⟩, hR, ht, h5, -, -, hF, hS, -⟩ := h
  unfold pcn cnt
  have e2 : lvV (s.2.1 8) (nI ops.length) = gF r 8 := by
    rw [hR.2.2.1]
    cases ops with
    | nil => rw [h2.1]; rfl
    | cons vt o => obtain ⟨b, oo, as, fp', e1, -⟩ := h2; rw [e1]; rfl
  have e3 : s.1 5 = gF r 11 + shv r := by rw [h5, hR.2.2.2.1, shv_R hR.2.2.2.2.2.2.1, nI_add]; rfl
  rw [hF.1, hS.1, e2, e3]
  by_cases he : s.1 11 = 0
  · rw [if_pos he, if_pos (hS.2.2.2.2.2.mp he)]
  · rw [if_neg he, if_neg (fun z => he (hS.2.2.2.2.2.mpr z))]
theorem S_reg {s : PS} {Z : MP} {r : RS} {g : Nat → List Rec} {ops : List (Int32 × List TRE)} (h : SIM s Z r g ops) {k : Nat} (hk : k < 8) : (g k = [] ∧ s.2.1 k = none ∧ isf r (nI k) = 0) ∨ ∃ x c q Zf, g k = x :: c ∧ s.2.1 k = some q ∧ isf r (nI k) = 1 ∧ x.1 = itI 3 (x.1 1) (x.1 2) (x.1 3) 0 0 0 0 ∧ (∀ a e, Zf a = some e → Z a = some e) ∧ itm (PX Zf) Zf 0 (x, c) (some q) := by
  obtain ⟨⟨Zf, fp, h1, h2, h3, h4, h5⟩, hR, ht, -⟩ := h
  have h12 := hR.2.2.2.2.2.2.1 k hk
  have hle := shf8_le g hk
  have hb := hR.2.1.2
  have hrg := irg_nI hk
  rw [irg_0] at hrg
  rcases h5 k hk with ⟨e1, e2⟩ | ⟨x, c, q, e1, e2, e3, e4⟩
  · refine Or.inl ⟨e1, e2, ?_⟩
    unfold isf
    rw [nI_clamp (by omega), h12, e1, if_neg (fun z => absurd z.2.2 (by decide))]
  · refine Or.inr ⟨x, c, q, Zf, e1, e2, ?_, e3, h1, e4⟩
    have hlen : (g k).length = c.length + 1 := by rw [e1]; rfl
    have hpos : (0 : Int32) < nI (g k).length := (nI_ltI (a := 0) (by decide) (by omega)).mpr (by omega)
    unfold isf
    rw [nI_clamp (by omega), h12, if_pos ⟨hrg.1, hrg.2, hpos⟩]
/-- the register that a number names -/
theorem S_boV {s : PS} {Z : MP} {r : RS} {g : Nat → List Rec} {ops : List (Int32 × List TRE)} (h : SIM s Z r g ops) (x : Int32) : (boV s x = none ∧ isf r x = 0) ∨ ∃ k y c q Zf, k < 8 ∧ x = nI k ∧ g k = y :: c ∧ boV s x = some q ∧ s.2.1 k = some q ∧ isf r x = 1 ∧ y.1 = itI 3 (y.1 1) (y.1 2) (y.1 3) 0 0 0 0 ∧ (∀ a e, Zf a = some e → Z a = some e) ∧ itm (PX Zf) Zf 0 (y, c) (some q) := by
  by_cases hx : irg x = 0
  · refine Or.inl ⟨by unfold boV; rw [if_pos hx], ?_⟩
    unfold isf
    rw [if_neg (fun z => (irg_0 x).mpr ⟨z.1, z.2.1⟩ hx)]
  · obtain ⟨k, hk, rfl⟩ := irg_ex hx
    rcases S_reg h hk with ⟨e1, e2, e3⟩ | ⟨y, c, q, Zf, e1, e2, e3, e4, e5, e6⟩
    · exact Or.inl ⟨by rw [boV_nI s hk]; exact e2, e3⟩
    · exact Or.inr ⟨k, y, c, q, Zf, hk, rfl, e1, by rw [boV_nI s hk]; exact e2, e2, e3, e4, e5, e6⟩
