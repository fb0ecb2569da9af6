/-! both write the same bytes -/
def FXL (F : FI) (s : FS) : Prop := FOK F ∧ s.2 = F.1 ∧ FIL F s.1
theorem wrt_17 : ∀ (c : Nat) (r : RS) (n : Nat) (v : Int32), gB (wrt c r n v) 17 = bwr c (gB r 17) n v := by
  intro c
  induction c with
  | zero => intro r n v; rfl
  | succ c ih =>
    intro r n v
    show gB (wrt c (wb1 r n (byt v c)) (n + 1) v) 17 = bwr c (upd (gB r 17) n (byt v c)) (n + 1) v
    rw [ih]
    show bwr c (gB (w1 r 17 n (byt v c)) 17) (n + 1) v = _
    rw [w1_self]
theorem bwr_ag : ∀ (c : Nat) {f g : Nat → Int32} {n : Nat} {v : Int32}, (∀ k, k < n → f k = g k) → ∀ k, k < n + c → bwr c f n v k = bwr c g n v k := by
  intro c
  induction c with
  | zero => intro f g n v h k hk; exact h k hk
  | succ c ih =>
    intro f g n v h k hk
    refine ih (fun j hj => ?_) k (by omega)
    show (if j = n then _ else f j) = (if j = n then _ else g j)
    by_cases hjn : j = n
    · rw [if_pos hjn, if_pos hjn]
    · rw [if_neg hjn, if_neg hjn]; exact h j (by omega)
theorem bfun_lo {cap n c : Nat} {f : Nat → Int32} (h : n ≤ cap) {k : Nat} (hk : k < n) : bfun cap n c f k = f k := by
  unfold bfun
  split
  · unfold va_cpy
    rw [if_pos ⟨Nat.zero_le _, by omega⟩]
    congr 1
    omega
  · rfl
theorem FX_wp {F : FI} {s : FS} (h : FXL F s) (v : Int32) {c : Nat} (hn : F.1 + c ≤ 500000) (hc : c ≤ 4) : FXL (fadd F v c) (wp s v c) := by
  obtain ⟨h1, h2, h3, h4⟩ := h
  refine ⟨fadd_ok h1 v hn hc, ?_, ?_, fun k hk => ?_⟩
  · show s.2 + c = F.1 + c; rw [h2]
  · show gF (wrt c s.1 s.2 v) 18 = nI (F.1 + c)
    rw [h2]
    exact wrt_len c h3
  · show bwr c (bfun (256 * 2 ^ F.2.1) F.1 c F.2.2) F.1 v k = gB (wrt c s.1 s.2 v) 17 k
    rw [wrt_17, h2]
    exact bwr_ag c (fun j hj => (bfun_lo h1.2.1 hj).trans (h4 j hj)) k hk
theorem fadd_0 (F : FI) (v : Int32) : fadd F v 0 = F := by
  unfold fadd bfun
  rw [if_neg (Nat.not_lt_zero _), if_neg (Nat.not_lt_zero _)]
  rfl
theorem FX_wpl : ∀ (L : List (Int32 × Nat)) {F : FI} {s : FS}, FXL F s → (∀ p ∈ L, p.2 ≤ 4) → F.1 + wsum L ≤ 500000 → FXL (fwr F L) (wpl s L) := by
  intro L
  induction L with
  | nil => intro F s h _ _; exact h
  | cons p L ih =>
    intro F s h h4 hn
    have hn : F.1 + (p.2 + wsum L) ≤ 500000 := hn
    exact ih (FX_wp h p.1 (by omega) (h4 p List.mem_cons_self)) (fun q hq => h4 q (List.mem_cons_of_mem _ hq)) (by show F.1 + p.2 + wsum L ≤ 500000; omega)
/-- only 17 and 18 matter -/
theorem FX_cg {F : FI} {s s' : FS} (h : FXL F s) (h1 : gB s'.1 17 = gB s.1 17) (h2 : gF s'.1 18 = gF s.1 18) (h3 : s'.2 = s.2) : FXL F s' := ⟨h.1, h3.trans h.2.1, h2.trans h.2.2.1, fun k hk => by rw [h1]; exact h.2.2.2 k hk⟩
/-! which fonts are used -/
theorem sh1_b : ∀ l : Fin 32, ((1 : Int32) <<< (nI l.val &&& 31)).toBitVec = BitVec.twoPow 32 l.val := by decide +kernel
theorem sm_b : ∀ l : Fin 32, ((nI l.val &&& 31).toBitVec.smod 32).toNat = l.val := by decide +kernel
theorem sbit (u : Int32) {m : Nat} (hm : m < 32) : (u >>> (nI m &&& 31)) &&& 1 = 0 ↔ u.toBitVec.getLsbD m = false := by
  have h := sm_b ⟨m, hm⟩
  have e1 : (u >>> (nI m &&& 31) &&& 1).toBitVec = if u.toBitVec.getLsbD m then BitVec.twoPow 32 0 else 0#32 := by
    rw [Int32.toBitVec_and, Int32.toBitVec_shiftRight, show (1 : Int32).toBitVec = BitVec.twoPow 32 0 from rfl, BitVec.and_twoPow, BitVec.sshiftRight_eq', h, BitVec.getLsbD_sshiftRight]
    simp only [Nat.add_zero, hm, if_true]
    simp
  constructor
  · intro h0
    have h2 := congrArg Int32.toBitVec h0
    rw [e1] at h2
    by_cases hb : u.toBitVec.getLsbD m = true
    · rw [hb] at h2; exact absurd h2 (by decide)
    · simpa using hb
  · intro h0
    rw [h0] at e1
    exact Int32.toBitVec_inj.mp e1
theorem fus_b (u : Int32) {m : Nat} (hm : m < 32) : fus u (nI m) = 0 ↔ u.toBitVec.getLsbD m = false := by
  unfold fus
  have hi : ¬ ifn (nI m) = 0 := by
    unfold ifn
    rw [i01]
    exact ⟨nI_nlt (b := 0) (Nat.zero_le _) (by omega), Int32.not_le.mpr (nI_lt (b := 32) hm (by decide))⟩
  rw [← sbit u hm]
  by_cases h : (u >>> (nI m &&& 31)) &&& 1 = 0
  · rw [if_neg (fun z => z.2 h)]; exact ⟨fun _ => h, fun _ => rfl⟩
  · rw [if_pos ⟨hi, h⟩]; exact ⟨fun z => absurd z (by decide), fun z => absurd z h⟩
theorem USD_or {u : Int32} {f : Nat → Int32} (h : USD u f) {m : Nat} (hm : m < 32) : USD (u ||| 1 <<< (nI m &&& 31)) (upd f m 1) := by
  intro k hk
  obtain ⟨h0, h9⟩ := h k hk
  rw [fus_b _ hk] at h0 ⊢
  rw [Int32.toBitVec_or, sh1_b ⟨m, hm⟩, BitVec.getLsbD_or, BitVec.getLsbD_twoPow]
  show (_ ↔ (if k = m then (1 : Int32) else f k) = 0) ∧ ((if k = m then (1 : Int32) else f k) = 0 ∨ (if k = m then (1 : Int32) else f k) = 1)
  by_cases hkm : k = m
  · rw [if_pos hkm]
    subst hkm
    refine ⟨?_, Or.inr rfl⟩
    simp [hm]
  · rw [if_neg hkm]
    refine ⟨?_, h9⟩
    rw [← h0]
    simp [show ¬ m = k from fun z => hkm z.symm]
