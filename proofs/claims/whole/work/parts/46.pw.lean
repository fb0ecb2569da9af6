/-! THE CLASS's state: s : PS, its world PW: fixed places 0 PageFile, 1 PageWriter, 2 Bytes, 3 Fonts, 4 across, 5 down, 6 registers, 7 sizes, 8 designs, 9 + 3 i frame i and its two saved tracks; the row (somewhere); Z: what else is kept. -/
abbrev TR : Type := Int32 × Int32 × Int32 × Bool
abbrev FR : Type := (Nat → Int32) × Option Nat × TR × TR
/-- length, doublings, bytes -/
abbrev FI : Type := Nat × Nat × (Nat → Int32)
/-- ints (5 to 11 PageFile's, 25 to 27 the writer's, 30 the fonts'), refs (0 to 7 registers, 8 innermost), font sizes (0) and designs (1), tracks (0, 1), frames, how many frames, file -/
abbrev PS : Type := (Nat → Int32) × (Nat → Option Nat) × (Nat → Nat → Int32) × (Nat → TR) × (Nat → FR) × Nat × FI
abbrev xT (s : PS) : Nat → TR := s.2.2.2.1
abbrev xG (s : PS) : Nat → FR := s.2.2.2.2.1
abbrev xN (s : PS) : Nat := s.2.2.2.2.2.1
abbrev xF (s : PS) : FI := s.2.2.2.2.2.2
abbrev uI (s : PS) (k : Nat) (v : Int32) : PS := (va_up s.1 k v, s.2)
abbrev uR (s : PS) (k : Nat) (v : Option Nat) : PS := (s.1, va_up s.2.1 k v, s.2.2)
abbrev uA (s : PS) (k : Nat) (f : Nat → Int32) : PS := (s.1, s.2.1, va_up s.2.2.1 k f, s.2.2.2)
abbrev uT (s : PS) (k : Nat) (t : TR) : PS := (s.1, s.2.1, s.2.2.1, va_up s.2.2.2.1 k t, s.2.2.2.2)
abbrev uG (s : PS) (i : Nat) (g : FR) : PS := (s.1, s.2.1, s.2.2.1, s.2.2.2.1, va_up s.2.2.2.2.1 i g, s.2.2.2.2.2)
abbrev uF (s : PS) (F : FI) : PS := (s.1, s.2.1, s.2.2.1, s.2.2.2.1, s.2.2.2.2.1, s.2.2.2.2.2.1, F)
def bI (b : Bool) : Int32 := if b = true then 1 else 0
theorem bI_z (b : Bool) : isz1 (bI b) := by cases b <;> exact ⟨rfl, rfl⟩
abbrev tre (c : Int32) (t : TR) : va_E := .inr (8, trv c t.1 t.2.1 t.2.2.1 (bI t.2.2.2))
def frO (adr : Nat → Nat) : Nat → Value
  | 0 => .null
  | i + 1 => .ref (adr (9 + 3 * i))
def frN (adr : Nat → Nat) (nf i : Nat) : Value := if i + 1 < nf then .ref (adr (9 + 3 * (i + 1))) else .null
/-- a frame's ints, its level among them -/
def frF (i : Nat) (F : Nat → Int32) : Nat → Int32 := fun k => if k = 1 then nI (i + 1) else F k
def frE (adr : Nat → Nat) (nf i : Nat) (g : FR) : va_E := .inr (4, frv (frF i g.1) (frO adr i) (adr (10 + 3 * i)) (adr (11 + 3 * i)) (frN adr nf i) (va_rf g.2.1))
def pfv (adr : Nat → Nat) (s : PS) : List Value := [.ref (adr 6), .ref (adr 1), .ref (adr 2), .ref (adr 3), va_rf (s.2.1 8), .int (s.1 5), .int (s.1 6), .int (s.1 7), .int (s.1 8), .int (s.1 9), .int (s.1 10), .int (s.1 11)]
def pwv (adr : Nat → Nat) (s : PS) : List Value := [.ref (adr 2), .ref (adr 3), .ref (adr 4), .ref (adr 5), .ref (adr 9), .int (s.1 25), .int (s.1 26), .int (s.1 27)]
def rg8 (f : Nat → Option Nat) : Nat → Option Nat := fun k => if k < 8 then f k else none
def pC (ac : Nat → ClassId) (adr : Nat → Nat) (ra : Nat) (s : PS) : Nat → va_E
  | 0 => .inr (0, pfv adr s)
  | 1 => .inr (7, pwv adr s)
  | 2 => byO ra (xF s).1
  | 3 => .inr (3, [.ref (adr 7), .ref (adr 8), .int (s.1 30)])
  | 4 => tre 147 (xT s 0)
  | 5 => tre 161 (xT s 1)
  | 6 => .inl (ac 4, 8, .inr (.inr (.inr (.inr (rg8 s.2.1)))))
  | 7 => .inl (ac 0, 32, .inl (s.2.2.1 0))
  | 8 => .inl (ac 0, 32, .inl (s.2.2.1 1))
  | p + 9 => if p % 3 = 0 then frE adr (xN s) (p / 3) (xG s (p / 3)) else if p % 3 = 1 then tre 147 (xG s (p / 3)).2.2.1 else tre 161 (xG s (p / 3)).2.2.2
def fw (j : Nat) : Nat := 512 * 2 ^ j
def fadd (F : FI) (v : Int32) (c : Nat) : FI := (F.1 + c, if 256 * 2 ^ F.2.1 - F.1 < c then F.2.1 + 1 else F.2.1, bwr c (bfun (256 * 2 ^ F.2.1) F.1 c F.2.2) F.1 v)
def fwr (F : FI) : List (Int32 × Nat) → FI
  | [] => F
  | w :: L => fwr (fadd F w.1 w.2) L
theorem fwr_app (F : FI) (L1 L2 : List (Int32 × Nat)) : fwr F (L1 ++ L2) = fwr (fwr F L1) L2 := by
  induction L1 generalizing F with
  | nil => rfl
  | cons w L ih => exact ih _
theorem fadd_j (F : FI) (v : Int32) (c : Nat) : F.2.1 ≤ (fadd F v c).2.1 := by
  show F.2.1 ≤ (if 256 * 2 ^ F.2.1 - F.1 < c then F.2.1 + 1 else F.2.1)
  split <;> omega
theorem fwr_j (F : FI) (L : List (Int32 × Nat)) : F.2.1 ≤ (fwr F L).2.1 := by
  induction L generalizing F with
  | nil => exact Nat.le_refl _
  | cons w L ih => exact Nat.le_trans (fadd_j F w.1 w.2) (ih _)
theorem fwr_n (F : FI) (L : List (Int32 × Nat)) : F.1 ≤ (fwr F L).1 := by
  induction L generalizing F with
  | nil => exact Nat.le_refl _
  | cons w L ih => exact Nat.le_trans (show F.1 ≤ (fadd F w.1 w.2).1 from Nat.le_add_right _ _) (ih _)
def wsum : List (Int32 × Nat) → Nat
  | [] => 0
  | w :: L => w.2 + wsum L
theorem fwr_sum (F : FI) (L : List (Int32 × Nat)) : (fwr F L).1 = F.1 + wsum L := by
  induction L generalizing F with
  | nil => rfl
  | cons w L ih =>
    show (fwr (fadd F w.1 w.2) L).1 = F.1 + (w.2 + wsum L)
    rw [ih, ← Nat.add_assoc]
    rfl
theorem fw_mono {i j : Nat} (h : i ≤ j) : fw i ≤ fw j := Nat.mul_le_mul_left _ (Nat.pow_le_pow_right (by decide) h)
def FOK (F : FI) : Prop := fitb F.2.2 ∧ F.1 ≤ 256 * 2 ^ F.2.1 ∧ F.2.1 ≤ 11
theorem p2_11 {j : Nat} (h : j ≤ 11) : 2 ^ j ≤ 2048 := Nat.pow_le_pow_right (n := 2) (by decide) h
theorem p2_1 (j : Nat) : 1 ≤ 2 ^ j := Nat.one_le_two_pow
theorem p2_10 {j : Nat} (h : 256 * 2 ^ j < 500000) : j ≤ 10 := by
  rcases Nat.lt_or_ge 10 j with z | z
  · have : 2 ^ 11 ≤ 2 ^ j := Nat.pow_le_pow_right (by decide) z
    omega
  · exact z
theorem cpy_fit {f : Nat → Int32} (h : fitb f) (n : Nat) : fitb (va_cpy f (fun _ => 0) 0 0 n) := by
  intro j
  unfold va_cpy
  split
  · exact h _
  · exact rfl
theorem fadd_ok {F : FI} (h : FOK F) (v : Int32) {c : Nat} (hn : F.1 + c ≤ 500000) (hc : c ≤ 4) : FOK (fadd F v c) := by
  obtain ⟨h1, h2, h3⟩ := h
  have g1 := p2_1 F.2.1
  refine ⟨?_, ?_, ?_⟩
  · refine bwr_fit _ _ _ ?_
    unfold bfun
    split
    · exact cpy_fit h1 _
    · exact h1
  · show F.1 + c ≤ 256 * 2 ^ (if 256 * 2 ^ F.2.1 - F.1 < c then F.2.1 + 1 else F.2.1)
    split
    · rw [Nat.pow_succ]; omega
    · omega
  · show (if 256 * 2 ^ F.2.1 - F.1 < c then F.2.1 + 1 else F.2.1) ≤ 11
    split
    · have := p2_10 (j := F.2.1) (by omega); omega
    · exact h3
theorem fadd_cap (F : FI) (v : Int32) (c : Nat) : bcap (256 * 2 ^ F.2.1) F.1 c = 256 * 2 ^ (fadd F v c).2.1 := by
  show (if 256 * 2 ^ F.2.1 - F.1 < c then 2 * (256 * 2 ^ F.2.1) else 256 * 2 ^ F.2.1) = 256 * 2 ^ (if 256 * 2 ^ F.2.1 - F.1 < c then F.2.1 + 1 else F.2.1)
  split
  · rw [Nat.pow_succ]; omega
  · rfl
theorem fadd_cel (F : FI) (v : Int32) (c : Nat) : (fadd F v c).2.1 = F.2.1 + bcel (256 * 2 ^ F.2.1) F.1 c := by
  show (if 256 * 2 ^ F.2.1 - F.1 < c then F.2.1 + 1 else F.2.1) = F.2.1 + (if 256 * 2 ^ F.2.1 - F.1 < c then 1 else 0)
  split <;> rfl
theorem fadd_slo (F : FI) (v : Int32) (c : Nat) : fw (fadd F v c).2.1 = fw F.2.1 + bslo (256 * 2 ^ F.2.1) F.1 c := by
  show 512 * 2 ^ (if 256 * 2 ^ F.2.1 - F.1 < c then F.2.1 + 1 else F.2.1) = 512 * 2 ^ F.2.1 + (if 256 * 2 ^ F.2.1 - F.1 < c then 2 * (256 * 2 ^ F.2.1) else 0)
  split
  · rw [Nat.pow_succ]; omega
  · rfl
/-- L may still be written: in the room up to jE doublings, and in length -/
def FE (F : FI) (L : List (Int32 × Nat)) (jE : Nat) : Prop := (fwr F L).2.1 ≤ jE ∧ (fwr F L).1 ≤ 500000
def bk (jE : Nat) (F : FI) (x : Nat) : Nat := jE - F.2.1 + x
def bs (jE : Nat) (F : FI) (y : Nat) : Nat := fw jE - fw F.2.1 + y
def PW (ac : Nat → ClassId) (adr : Nat → Nat) (s : PS) (Z M : MP) : Prop := ∃ ra N, pOK (List.range (9 + 3 * xN s)) adr N ∧ N ra = some (byR ac (256 * 2 ^ (xF s).2.1) (xF s).2.2) ∧ (∀ a e, Z a = some e → a ≠ ra ∧ N a = some e) ∧ FOK (xF s) ∧ M = pM (List.range (9 + 3 * xN s)) adr (pC ac adr ra s) N
section PWs
variable {ac : Nat → ClassId} {adr : Nat → Nat} {s s' : PS} {Z M : MP}
theorem PW_z (h : PW ac adr s Z M) {a : Nat} {e : va_E} (hz : Z a = some e) : M a = some e := by
  obtain ⟨ra, N, h0, _, hZ, _, rfl⟩ := h
  exact pM_n h0 (hZ a e hz).2
theorem PW_c (h : PW ac adr s Z M) {p : Nat} (hp : p < 9 + 3 * xN s) {e : va_E} (he : ∀ ra, pC ac adr ra s p = e) : M (adr p) = some e := by
  obtain ⟨ra, N, h0, _, hZ, _, rfl⟩ := h
  rw [pM_p h0 (List.mem_range.mpr hp), he]
theorem PW_len (h : PW ac adr s Z M) : ∃ ra, M (adr 2) = some (byO ra (xF s).1) := by
  obtain ⟨ra, N, h0, _, hZ, _, rfl⟩ := h
  exact ⟨ra, pM_p h0 (List.mem_range.mpr (by omega))⟩
theorem PW_ok (h : PW ac adr s Z M) : FOK (xF s) := by
  obtain ⟨ra, N, h0, _, hZ, hF, rfl⟩ := h
  exact hF
theorem PW_set (h : PW ac adr s Z M) {p : Nat} (hp : p < 9 + 3 * xN s) {e : va_E} (hs : ∀ ra, va_up (pC ac adr ra s) p e = pC ac adr ra s') (hn : xN s' = xN s) (hF : xF s' = xF s) : PW ac adr s' Z (mu M (adr p) e) := by
  obtain ⟨ra, N, h0, hR, hZ, hk, rfl⟩ := h
  refine ⟨ra, N, by rw [hn]; exact h0, by rw [hF]; exact hR, hZ, by rw [hF]; exact hk, ?_⟩
  rw [pM_set h0 (List.mem_range.mpr hp), hs, hn]
/-- what is kept may be known less -/
theorem PW_less (h : PW ac adr s Z M) {Z' : MP} (hz : ∀ a e, Z' a = some e → Z a = some e) : PW ac adr s Z' M := by
  obtain ⟨ra, N, h0, hR, hZ, hk, rfl⟩ := h
  exact ⟨ra, N, h0, hR, fun a e ha => hZ a e (hz a e ha), hk, rfl⟩
/-- a new thing -/
theorem PW_new (h : PW ac adr s Z M) {q : Nat} (hq : M q = none) (e : va_E) : PW ac adr s (mu Z q e) (mu M q e) ∧ Z q = none := by
  obtain ⟨ra, N, h0, hR, hZ, hk, rfl⟩ := h
  obtain ⟨h1, h2⟩ := pM_none h0 hq
  have hqr : ra ≠ q := fun z => by rw [z, h2] at hR; cases hR
  refine ⟨⟨ra, mu N q e, pOK_mu h0 h1 e, by rw [mu_ne _ _ hqr]; exact hR, fun a x ha => ?_, hk, pM_mu h1 e⟩, ?_⟩
  · by_cases haq : a = q
    · subst haq
      rw [mu_self] at ha ⊢
      exact ⟨hqr.symm, ha⟩
    · rw [mu_ne _ _ haq] at ha ⊢
      exact hZ a x ha
  · cases hz : Z q with
    | none => rfl
    | some x => rw [(hZ q x hz).2] at h2; cases h2
/-- a kept thing is written -/
theorem PW_put (h : PW ac adr s Z M) {q : Nat} {e0 : va_E} (hq : Z q = some e0) (e : va_E) : PW ac adr s (mu Z q e) (mu M q e) := by
  obtain ⟨ra, N, h0, hR, hZ, hk, rfl⟩ := h
  have hqr := (hZ q e0 hq).1
  have h1 := pOK_ne h0 (hZ q e0 hq).2
  refine ⟨ra, mu N q e, pOK_mu h0 h1 e, by rw [mu_ne _ _ hqr.symm]; exact hR, fun a x ha => ?_, hk, pM_mu h1 e⟩
  by_cases haq : a = q
  · subst haq
    rw [mu_self] at ha ⊢
    exact ⟨hqr, ha⟩
  · rw [mu_ne _ _ haq] at ha ⊢
    exact hZ a x ha
end PWs
section PCs
variable {ac : Nat → ClassId} {adr : Nat → Nat} {ra : Nat} {s : PS}
theorem pC_t0 (t : TR) : va_up (pC ac adr ra s) 4 (tre 147 t) = pC ac adr ra (uT s 0 t) := by
  funext p
  match p with
  | 0 => exact if_neg (by decide)
  | 1 => exact if_neg (by decide)
  | 2 => exact if_neg (by decide)
  | 3 => exact if_neg (by decide)
  | 4 => exact if_pos rfl
  | 5 => exact if_neg (by decide)
  | 6 => exact if_neg (by decide)
  | 7 => exact if_neg (by decide)
  | 8 => exact if_neg (by decide)
  | p + 9 => exact if_neg (by omega)
theorem pC_t1 (t : TR) : va_up (pC ac adr ra s) 5 (tre 161 t) = pC ac adr ra (uT s 1 t) := by
  funext p
  match p with
  | 0 => exact if_neg (by decide)
  | 1 => exact if_neg (by decide)
  | 2 => exact if_neg (by decide)
  | 3 => exact if_neg (by decide)
  | 4 => exact if_neg (by decide)
  | 5 => exact if_pos rfl
  | 6 => exact if_neg (by decide)
  | 7 => exact if_neg (by decide)
  | 8 => exact if_neg (by decide)
  | p + 9 => exact if_neg (by omega)
theorem pC_us (v : Int32) : va_up (pC ac adr ra s) 3 (.inr (3, [.ref (adr 7), .ref (adr 8), .int v])) = pC ac adr ra (uI s 30 v) := by
  funext p
  match p with
  | 0 => exact if_neg (by decide)
  | 1 => exact if_neg (by decide)
  | 2 => exact if_neg (by decide)
  | 3 => exact if_pos rfl
  | 4 => exact if_neg (by decide)
  | 5 => exact if_neg (by decide)
  | 6 => exact if_neg (by decide)
  | 7 => exact if_neg (by decide)
  | 8 => exact if_neg (by decide)
  | p + 9 => exact if_neg (by omega)
theorem pC_w25 (v : Int32) : va_up (pC ac adr ra s) 1 (.inr (7, (pwv adr s).set 5 (.int v))) = pC ac adr ra (uI s 25 v) := by
  funext p
  match p with
  | 0 => exact if_neg (by decide)
  | 1 => exact if_pos rfl
  | 2 => exact if_neg (by decide)
  | 3 => exact if_neg (by decide)
  | 4 => exact if_neg (by decide)
  | 5 => exact if_neg (by decide)
  | 6 => exact if_neg (by decide)
  | 7 => exact if_neg (by decide)
  | 8 => exact if_neg (by decide)
  | p + 9 => exact if_neg (by omega)
theorem pC_w26 (v : Int32) : va_up (pC ac adr ra s) 1 (.inr (7, (pwv adr s).set 6 (.int v))) = pC ac adr ra (uI s 26 v) := by
  funext p
  match p with
  | 0 => exact if_neg (by decide)
  | 1 => exact if_pos rfl
  | 2 => exact if_neg (by decide)
  | 3 => exact if_neg (by decide)
  | 4 => exact if_neg (by decide)
  | 5 => exact if_neg (by decide)
  | 6 => exact if_neg (by decide)
  | 7 => exact if_neg (by decide)
  | 8 => exact if_neg (by decide)
  | p + 9 => exact if_neg (by omega)
theorem pC_w27 (v : Int32) : va_up (pC ac adr ra s) 1 (.inr (7, (pwv adr s).set 7 (.int v))) = pC ac adr ra (uI s 27 v) := by
  funext p
  match p with
  | 0 => exact if_neg (by decide)
  | 1 => exact if_pos rfl
  | 2 => exact if_neg (by decide)
  | 3 => exact if_neg (by decide)
  | 4 => exact if_neg (by decide)
  | 5 => exact if_neg (by decide)
  | 6 => exact if_neg (by decide)
  | 7 => exact if_neg (by decide)
  | 8 => exact if_neg (by decide)
  | p + 9 => exact if_neg (by omega)
theorem pC_i5 (v : Int32) : va_up (pC ac adr ra s) 0 (.inr (0, (pfv adr s).set 5 (.int v))) = pC ac adr ra (uI s 5 v) := by
  funext p
  match p with
  | 0 => exact if_pos rfl
  | 1 => exact if_neg (by decide)
  | 2 => exact if_neg (by decide)
  | 3 => exact if_neg (by decide)
  | 4 => exact if_neg (by decide)
  | 5 => exact if_neg (by decide)
  | 6 => exact if_neg (by decide)
  | 7 => exact if_neg (by decide)
  | 8 => exact if_neg (by decide)
  | p + 9 => exact if_neg (by omega)
theorem pC_i6 (v : Int32) : va_up (pC ac adr ra s) 0 (.inr (0, (pfv adr s).set 6 (.int v))) = pC ac adr ra (uI s 6 v) := by
  funext p
  match p with
  | 0 => exact if_pos rfl
  | 1 => exact if_neg (by decide)
  | 2 => exact if_neg (by decide)
  | 3 => exact if_neg (by decide)
  | 4 => exact if_neg (by decide)
  | 5 => exact if_neg (by decide)
  | 6 => exact if_neg (by decide)
  | 7 => exact if_neg (by decide)
  | 8 => exact if_neg (by decide)
  | p + 9 => exact if_neg (by omega)
theorem pC_i7 (v : Int32) : va_up (pC ac adr ra s) 0 (.inr (0, (pfv adr s).set 7 (.int v))) = pC ac adr ra (uI s 7 v) := by
  funext p
  match p with
  | 0 => exact if_pos rfl
  | 1 => exact if_neg (by decide)
  | 2 => exact if_neg (by decide)
  | 3 => exact if_neg (by decide)
  | 4 => exact if_neg (by decide)
  | 5 => exact if_neg (by decide)
  | 6 => exact if_neg (by decide)
  | 7 => exact if_neg (by decide)
  | 8 => exact if_neg (by decide)
  | p + 9 => exact if_neg (by omega)
theorem pC_i8 (v : Int32) : va_up (pC ac adr ra s) 0 (.inr (0, (pfv adr s).set 8 (.int v))) = pC ac adr ra (uI s 8 v) := by
  funext p
  match p with
  | 0 => exact if_pos rfl
  | 1 => exact if_neg (by decide)
  | 2 => exact if_neg (by decide)
  | 3 => exact if_neg (by decide)
  | 4 => exact if_neg (by decide)
  | 5 => exact if_neg (by decide)
  | 6 => exact if_neg (by decide)
  | 7 => exact if_neg (by decide)
  | 8 => exact if_neg (by decide)
  | p + 9 => exact if_neg (by omega)
theorem pC_i9 (v : Int32) : va_up (pC ac adr ra s) 0 (.inr (0, (pfv adr s).set 9 (.int v))) = pC ac adr ra (uI s 9 v) := by
  funext p
  match p with
  | 0 => exact if_pos rfl
  | 1 => exact if_neg (by decide)
  | 2 => exact if_neg (by decide)
  | 3 => exact if_neg (by decide)
  | 4 => exact if_neg (by decide)
  | 5 => exact if_neg (by decide)
  | 6 => exact if_neg (by decide)
  | 7 => exact if_neg (by decide)
  | 8 => exact if_neg (by decide)
  | p + 9 => exact if_neg (by omega)
theorem pC_i10 (v : Int32) : va_up (pC ac adr ra s) 0 (.inr (0, (pfv adr s).set 10 (.int v))) = pC ac adr ra (uI s 10 v) := by
  funext p
  match p with
  | 0 => exact if_pos rfl
  | 1 => exact if_neg (by decide)
  | 2 => exact if_neg (by decide)
  | 3 => exact if_neg (by decide)
  | 4 => exact if_neg (by decide)
  | 5 => exact if_neg (by decide)
  | 6 => exact if_neg (by decide)
  | 7 => exact if_neg (by decide)
  | 8 => exact if_neg (by decide)
  | p + 9 => exact if_neg (by omega)
theorem pC_i11 (v : Int32) : va_up (pC ac adr ra s) 0 (.inr (0, (pfv adr s).set 11 (.int v))) = pC ac adr ra (uI s 11 v) := by
  funext p
  match p with
  | 0 => exact if_pos rfl
  | 1 => exact if_neg (by decide)
  | 2 => exact if_neg (by decide)
  | 3 => exact if_neg (by decide)
  | 4 => exact if_neg (by decide)
  | 5 => exact if_neg (by decide)
  | 6 => exact if_neg (by decide)
  | 7 => exact if_neg (by decide)
  | 8 => exact if_neg (by decide)
  | p + 9 => exact if_neg (by omega)
theorem pC_fs (f : Nat → Int32) : va_up (pC ac adr ra s) 7 (.inl (ac 0, 32, .inl f)) = pC ac adr ra (uA s 0 f) := by
  funext p
  match p with
  | 0 => exact if_neg (by decide)
  | 1 => exact if_neg (by decide)
  | 2 => exact if_neg (by decide)
  | 3 => exact if_neg (by decide)
  | 4 => exact if_neg (by decide)
  | 5 => exact if_neg (by decide)
  | 6 => exact if_neg (by decide)
  | 7 => exact if_pos rfl
  | 8 => exact if_neg (by decide)
  | p + 9 => exact if_neg (by omega)
theorem pC_fd (f : Nat → Int32) : va_up (pC ac adr ra s) 8 (.inl (ac 0, 32, .inl f)) = pC ac adr ra (uA s 1 f) := by
  funext p
  match p with
  | 0 => exact if_neg (by decide)
  | 1 => exact if_neg (by decide)
  | 2 => exact if_neg (by decide)
  | 3 => exact if_neg (by decide)
  | 4 => exact if_neg (by decide)
  | 5 => exact if_neg (by decide)
  | 6 => exact if_neg (by decide)
  | 7 => exact if_neg (by decide)
  | 8 => exact if_pos rfl
  | p + 9 => exact if_neg (by omega)
theorem rg8_up (f : Nat → Option Nat) {k : Nat} (hk : k < 8) (v : Option Nat) : va_up (rg8 f) k v = rg8 (va_up f k v) := by
  funext j
  by_cases hj : j = k
  · subst hj
    rw [va_up_self, rg8, if_pos hk, va_up_self]
  · rw [va_up_ne _ _ hj, rg8, rg8, va_up_ne _ _ hj]
theorem rg8_8 (f : Nat → Option Nat) (v : Option Nat) : rg8 (va_up f 8 v) = rg8 f := by
  funext j
  by_cases hj : j < 8
  · rw [rg8, rg8, if_pos hj, if_pos hj, va_up_ne _ _ (by omega)]
  · rw [rg8, rg8, if_neg hj, if_neg hj]
theorem pC_r {k : Nat} (hk : k < 8) (v : Option Nat) : va_up (pC ac adr ra s) 6 (.inl (ac 4, 8, .inr (.inr (.inr (.inr (va_up (rg8 s.2.1) k v)))))) = pC ac adr ra (uR s k v) := by
  rw [rg8_up _ hk]
  funext p
  match p with
  | 0 =>
    refine (if_neg (by decide)).trans ?_
    show Sum.inr (0, pfv adr s) = Sum.inr (0, pfv adr (uR s k v))
    unfold pfv
    rw [show (uR s k v).2.1 8 = s.2.1 8 from va_up_ne _ _ (by omega)]
  | 1 => exact if_neg (by decide)
  | 2 => exact if_neg (by decide)
  | 3 => exact if_neg (by decide)
  | 4 => exact if_neg (by decide)
  | 5 => exact if_neg (by decide)
  | 6 => exact if_pos rfl
  | 7 => exact if_neg (by decide)
  | 8 => exact if_neg (by decide)
  | p + 9 => exact if_neg (by omega)
theorem pC_in (v : Option Nat) : va_up (pC ac adr ra s) 0 (.inr (0, (pfv adr s).set 4 (va_rf v))) = pC ac adr ra (uR s 8 v) := by
  funext p
  match p with
  | 0 => exact if_pos rfl
  | 1 => exact if_neg (by decide)
  | 2 => exact if_neg (by decide)
  | 3 => exact if_neg (by decide)
  | 4 => exact if_neg (by decide)
  | 5 => exact if_neg (by decide)
  | 6 =>
    refine (if_neg (by decide)).trans ?_
    show (Sum.inl (ac 4, 8, .inr (.inr (.inr (.inr (rg8 s.2.1))))) : va_E) = .inl (ac 4, 8, .inr (.inr (.inr (.inr (rg8 (va_up s.2.1 8 v))))))
    rw [rg8_8]
  | 7 => exact if_neg (by decide)
  | 8 => exact if_neg (by decide)
  | p + 9 => exact if_neg (by omega)
theorem pC_fl {ra' : Nat} (F : FI) : va_up (pC ac adr ra s) 2 (byO ra' F.1) = pC ac adr ra' (uF s F) := by
  funext p
  match p with
  | 0 => exact if_neg (by decide)
  | 1 => exact if_neg (by decide)
  | 2 => exact if_pos rfl
  | 3 => exact if_neg (by decide)
  | 4 => exact if_neg (by decide)
  | 5 => exact if_neg (by decide)
  | 6 => exact if_neg (by decide)
  | 7 => exact if_neg (by decide)
  | 8 => exact if_neg (by decide)
  | p + 9 => exact if_neg (by omega)
theorem pC_g (i : Nat) : pC ac adr ra s (9 + 3 * i) = frE adr (xN s) i (xG s i) := by
  rw [Nat.add_comm]
  show (if 3 * i % 3 = 0 then frE adr (xN s) (3 * i / 3) (xG s (3 * i / 3)) else _) = _
  rw [if_pos (by omega), show 3 * i / 3 = i by omega]
theorem pC_ga (i : Nat) : pC ac adr ra s (10 + 3 * i) = tre 147 (xG s i).2.2.1 := by
  rw [show 10 + 3 * i = 3 * i + 1 + 9 by omega]
  show (if (3 * i + 1) % 3 = 0 then _ else if (3 * i + 1) % 3 = 1 then tre 147 (xG s ((3 * i + 1) / 3)).2.2.1 else _) = _
  rw [if_neg (by omega), if_pos (by omega), show (3 * i + 1) / 3 = i by omega]
theorem pC_gd (i : Nat) : pC ac adr ra s (11 + 3 * i) = tre 161 (xG s i).2.2.2 := by
  rw [show 11 + 3 * i = 3 * i + 2 + 9 by omega]
  show (if (3 * i + 2) % 3 = 0 then _ else if (3 * i + 2) % 3 = 1 then _ else tre 161 (xG s ((3 * i + 2) / 3)).2.2.2) = _
  rw [if_neg (by omega), if_neg (by omega), show (3 * i + 2) / 3 = i by omega]
theorem pC_gall {s' : PS} {i : Nat} (h1 : s'.1 = s.1) (h2 : s'.2.1 = s.2.1) (h3 : s'.2.2.1 = s.2.2.1) (h4 : xT s' = xT s) (h5 : xF s' = xF s) (h6 : xN s' = xN s) (h7 : ∀ j, j ≠ i → xG s' j = xG s j) {p : Nat} (hp : p ≠ 9 + 3 * i ∧ p ≠ 10 + 3 * i ∧ p ≠ 11 + 3 * i) : pC ac adr ra s p = pC ac adr ra s' p := by
  match p, hp with
  | 0, _ => show Sum.inr (0, pfv adr s) = Sum.inr (0, pfv adr s'); unfold pfv; rw [h1, h2]
  | 1, _ => show Sum.inr (7, pwv adr s) = Sum.inr (7, pwv adr s'); unfold pwv; rw [h1]
  | 2, _ => show byO ra _ = byO ra _; rw [h5]
  | 3, _ => show (Sum.inr (3, [.ref (adr 7), .ref (adr 8), .int (s.1 30)]) : va_E) = .inr (3, [.ref (adr 7), .ref (adr 8), .int (s'.1 30)]); rw [h1]
  | 4, _ => show tre 147 (xT s 0) = tre 147 (xT s' 0); rw [h4]
  | 5, _ => show tre 161 (xT s 1) = tre 161 (xT s' 1); rw [h4]
  | 6, _ => show (Sum.inl (ac 4, 8, .inr (.inr (.inr (.inr (rg8 s.2.1))))) : va_E) = .inl (ac 4, 8, .inr (.inr (.inr (.inr (rg8 s'.2.1))))); rw [h2]
  | 7, _ => show (Sum.inl (ac 0, 32, .inl (s.2.2.1 0)) : va_E) = .inl (ac 0, 32, .inl (s'.2.2.1 0)); rw [h3]
  | 8, _ => show (Sum.inl (ac 0, 32, .inl (s.2.2.1 1)) : va_E) = .inl (ac 0, 32, .inl (s'.2.2.1 1)); rw [h3]
  | p + 9, hp =>
    have hj : p / 3 ≠ i := by omega
    show (if p % 3 = 0 then frE adr (xN s) (p / 3) (xG s (p / 3)) else if p % 3 = 1 then tre 147 (xG s (p / 3)).2.2.1 else tre 161 (xG s (p / 3)).2.2.2) = (if p % 3 = 0 then frE adr (xN s') (p / 3) (xG s' (p / 3)) else if p % 3 = 1 then tre 147 (xG s' (p / 3)).2.2.1 else tre 161 (xG s' (p / 3)).2.2.2)
    rw [h6, h7 _ hj]
theorem pC_ug (i : Nat) (F : Nat → Int32) (nx : Option Nat) : va_up (pC ac adr ra s) (9 + 3 * i) (frE adr (xN s) i (F, nx, (xG s i).2.2)) = pC ac adr ra (uG s i (F, nx, (xG s i).2.2)) := by
  funext p
  by_cases hp : p = 9 + 3 * i
  · subst hp
    rw [va_up_self, pC_g]
    show _ = frE adr (xN s) i (va_up (xG s) i _ i)
    rw [va_up_self]
  · rw [va_up_ne _ _ hp]
    by_cases h1 : p = 10 + 3 * i
    · subst h1
      rw [pC_ga, pC_ga]
      show _ = tre 147 (va_up (xG s) i _ i).2.2.1
      rw [va_up_self]
    · by_cases h2 : p = 11 + 3 * i
      · subst h2
        rw [pC_gd, pC_gd]
        show _ = tre 161 (va_up (xG s) i _ i).2.2.2
        rw [va_up_self]
      · exact pC_gall (s := s) (s' := uG s i (F, nx, (xG s i).2.2)) (i := i) rfl rfl rfl rfl rfl rfl (fun j hj => va_up_ne _ _ hj) ⟨hp, h1, h2⟩
theorem pC_uga (i : Nat) (t : TR) : va_up (pC ac adr ra s) (10 + 3 * i) (tre 147 t) = pC ac adr ra (uG s i ((xG s i).1, (xG s i).2.1, t, (xG s i).2.2.2)) := by
  funext p
  by_cases hp : p = 10 + 3 * i
  · subst hp
    rw [va_up_self, pC_ga]
    show _ = tre 147 (va_up (xG s) i _ i).2.2.1
    rw [va_up_self]
  · rw [va_up_ne _ _ hp]
    by_cases h1 : p = 9 + 3 * i
    · subst h1
      rw [pC_g, pC_g]
      show frE adr (xN s) i (xG s i) = frE adr (xN s) i (va_up (xG s) i _ i)
      rw [va_up_self]
      rfl
    · by_cases h2 : p = 11 + 3 * i
      · subst h2
        rw [pC_gd, pC_gd]
        show _ = tre 161 (va_up (xG s) i _ i).2.2.2
        rw [va_up_self]
      · exact pC_gall (s := s) (s' := uG s i ((xG s i).1, (xG s i).2.1, t, (xG s i).2.2.2)) (i := i) rfl rfl rfl rfl rfl rfl (fun j hj => va_up_ne _ _ hj) ⟨h1, hp, h2⟩
theorem pC_ugd (i : Nat) (t : TR) : va_up (pC ac adr ra s) (11 + 3 * i) (tre 161 t) = pC ac adr ra (uG s i ((xG s i).1, (xG s i).2.1, (xG s i).2.2.1, t)) := by
  funext p
  by_cases hp : p = 11 + 3 * i
  · subst hp
    rw [va_up_self, pC_gd]
    show _ = tre 161 (va_up (xG s) i _ i).2.2.2
    rw [va_up_self]
  · rw [va_up_ne _ _ hp]
    by_cases h1 : p = 9 + 3 * i
    · subst h1
      rw [pC_g, pC_g]
      show frE adr (xN s) i (xG s i) = frE adr (xN s) i (va_up (xG s) i _ i)
      rw [va_up_self]
      rfl
    · by_cases h2 : p = 10 + 3 * i
      · subst h2
        rw [pC_ga, pC_ga]
        show _ = tre 147 (va_up (xG s) i _ i).2.2.1
        rw [va_up_self]
      · exact pC_gall (s := s) (s' := uG s i ((xG s i).1, (xG s i).2.1, (xG s i).2.2.1, t)) (i := i) rfl rfl rfl rfl rfl rfl (fun j hj => va_up_ne _ _ hj) ⟨h1, h2, hp⟩
end PCs
section VWs
variable {l : Launch} {D : va_G} {ac : Nat → ClassId} {t t' : MT} {k n pc i : Nat} {lv : List (Nat × Value)} {rest : List Value} {M Z : MP} {Q : Option Value → MP → Prop} {adr : Nat → Nat} {s s' : PS}
theorem VW_put {p kf ci : Nat} {FT : FieldType} {own : String} {fs : List Value} {v : Value} (hW : PW ac adr s Z M) (hp : p < 9 + 3 * xN s) (hd : decode t.2.1 pc = .ok (.putfield i, 3)) (hf : FL t.1.cls i ci kf FT false own) (hC : ∀ ra, pC ac adr ra s p = .inr (ci, fs)) (hn9 : narrow FT v = v) (hfit : fits FT v = true) (hlen : kf < fs.length) (hs : ∀ ra, va_up (pC ac adr ra s) p (.inr (ci, fs.set kf v)) = pC ac adr ra s') (hn : xN s' = xN s) (hF : xF s' = xF s) (h : ∀ M', PW ac adr s' Z M' → V l D (tyl ac) t k n (pc + 3) lv rest M' Q) : V l D (tyl ac) t k n pc lv (v :: .ref (adr p) :: rest) M Q := V_putf hd hf (PW_c hW hp hC) hn9 hfit hlen (h _ (PW_set hW hp hs hn hF))
theorem VW_putN {p kf ci : Nat} {FT : FieldType} {own : String} {fs : List Value} {v : Value} (hW : PW ac adr s Z M) (hp : p < 9 + 3 * xN s) (hd : decode t.2.1 pc = .ok (.putfield i, 3)) (hf : FLN t.1.cls i ci kf FT false own) (hC : ∀ ra, pC ac adr ra s p = .inr (ci, fs)) (hn9 : narrow FT v = v) (hfit : fits FT v = true) (hlen : kf < fs.length) (hs : ∀ ra, va_up (pC ac adr ra s) p (.inr (ci, fs.set kf v)) = pC ac adr ra s') (hn : xN s' = xN s) (hF : xF s' = xF s) (h : ∀ M', PW ac adr s' Z M' → V l D (tyl ac) t k n (pc + 3) lv rest M' Q) : V l D (tyl ac) t k n pc lv (v :: .ref (adr p) :: rest) M Q := V_putfN hd hf (PW_c hW hp hC) hn9 hfit hlen (h _ (PW_set hW hp hs hn hF))
/-- Bytes.add in this world -/
theorem PW_add (hW : PW ac adr s Z M) {c : Nat} (hc : c ≤ 4) (hn : (xF s).1 + c ≤ 500000) (v : Int32) : Ct l D (tyl ac) t_Byt_add (bcel (256 * 2 ^ (xF s).2.1) (xF s).1 c) (bslo (256 * 2 ^ (xF s).2.1) (xF s).1 c) [.ref (adr 2), .int v, .int (nI c)] M (fun x M' => x = none ∧ PW ac adr (uF s (fadd (xF s) v c)) Z M') := by
  obtain ⟨ra, N, h0, hR, hZ, hk, rfl⟩ := hW
  have g1 := p2_1 (xF s).2.1
  have g2 := p2_11 hk.2.2
  refine Ct_mono (Byt_add h0 (p := 2) (n := (xF s).1) (ra := ra) (List.mem_range.mpr (by omega)) rfl hR hk.1 hk.2.1 hc (by omega) (by omega) v) (fun x M' hq => ?_)
  obtain ⟨rfl, ra', N', q1, q2, q3, rfl⟩ := hq
  refine ⟨rfl, ra', N', q1, ?_, fun a e ha => q3 a e (hZ a e ha).1 (hZ a e ha).2, fadd_ok hk v hn hc, ?_⟩
  · rw [q2, fadd_cap _ v]; rfl
  · exact congrArg (fun C => pM (List.range (9 + 3 * xN s)) adr C N') (pC_fl (fadd (xF s) v c))
theorem VW_add (hW : PW ac adr s Z M) {v : Int32} {c jE x y : Nat} (L : List (Int32 × Nat)) (hE : FE (xF s) ((v, c) :: L) jE) (hc : c ≤ 4) (hd : decode t.2.1 pc = .ok (.invokevirtual i, 3)) (ok : OKV t.1.cls i t_Byt_add 2) (hR : rmf t t_Byt_add) (hW9 : (rest.map fun v => v.category).sum ≤ 8) (h : ∀ M', PW ac adr (uF s (fadd (xF s) v c)) Z M' → V l D (tyl ac) t (bk jE (fadd (xF s) v c) x) (bs jE (fadd (xF s) v c) y) (pc + 3) lv rest M' Q) : V l D (tyl ac) t (bk jE (xF s) x) (bs jE (xF s) y) pc lv (.int (nI c) :: .int v :: .ref (adr 2) :: rest) M Q := by
  obtain ⟨ra, hb⟩ := PW_len hW
  have e1 : (fadd (xF s) v c).2.1 ≤ jE := Nat.le_trans (fwr_j _ L) hE.1
  have e2 : (xF s).1 + c ≤ 500000 := Nat.le_trans (fwr_n (fadd (xF s) v c) L) hE.2
  have e3 := fadd_cel (xF s) v c
  have e4 := fadd_slo (xF s) v c
  have e5 := fw_mono e1
  exact V_callV (As := [.int v, .int (nI c)]) (rest := rest) (k' := bk jE (fadd (xF s) v c) x) (n' := bs jE (fadd (xF s) v c) y) hb rfl hd ok hR rfl rfl hW9 (by unfold bk; omega) (by unfold bs; omega) (PW_add hW hc e2 v) (fun r M' hq => by obtain ⟨rfl, hq⟩ := hq; exact h M' hq)
/-- a call that writes L1 -/
theorem VW_call {na b : Nat} {As st : List Value} {ci Nn : Nat} {T' : u_T} {fs : List Value} {L1 : List (Int32 × Nat)} (L2 : List (Int32 × Nat)) {jE x y : Nat} {F : FI} {Q' : Option Value → MP → Prop} (hE : FE F (L1 ++ L2) jE) (ha : M b = some (.inr (ci, fs))) (hcl : cls[ci]? = some (t'.1.cls, T', Nn)) (hd : decode t.2.1 pc = .ok (.invokevirtual i, 3)) (ok : OKV t.1.cls i t' na) (hR : rmf t t') (hna : As.length = na) (hst : st = As.reverse ++ .ref b :: rest) (hW9 : (rest.map fun v => v.category).sum ≤ 8) (ct : FE F L1 (fwr F L1).2.1 → Ct l D (tyl ac) t' (bk (fwr F L1).2.1 F 0) (bs (fwr F L1).2.1 F 0) (.ref b :: As) M Q') (h : ∀ r M', Q' r M' → FE (fwr F L1) L2 jE → V l D (tyl ac) t (bk jE (fwr F L1) x) (bs jE (fwr F L1) y) (pc + 3) lv (r.toList ++ rest) M' Q) : V l D (tyl ac) t (bk jE F x) (bs jE F y) pc lv st M Q := by
  have e0 : FE (fwr F L1) L2 jE := by unfold FE at hE ⊢; rw [fwr_app] at hE; exact hE
  have e1 := fwr_j F L1
  have e2 := Nat.le_trans (fwr_j (fwr F L1) L2) e0.1
  have e3 := fw_mono e1
  have e4 := fw_mono e2
  exact V_callV (As := As) (rest := rest) (k' := bk jE (fwr F L1) x) (n' := bs jE (fwr F L1) y) ha hcl hd ok hR hna hst hW9 (by unfold bk; omega) (by unfold bs; omega) (ct ⟨Nat.le_refl _, Nat.le_trans (fwr_n _ L2) e0.2⟩) (fun r M' hq => h r M' hq e0)
end VWs
