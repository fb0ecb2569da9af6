/-! the law's world, and its calls one by one -/
def LX (ac : Nat → ClassId) (o : Nat) (ad : Nat → Nat) (x0 ol j N : Nat) (M : MP) : Prop := ∃ (adr : Nat → Nat) (s : PS) (r : RS) (Z : MP) (g : Nat → List Rec) (ops : List (Int32 × List TRE)) (f : Nat → Int64), adr 0 = x0 ∧ rAD o ad ∧ PW ac adr s (rM ac o ad r Z) M ∧ DJ o ad Z ∧ SIM s Z r g ops ∧ Z ol = some (oLg ac f) ∧ (xF s).2.1 = j ∧ xN s = N
/-- a call of the class, and the same of the reference: one answer, and post behind both -/
def OPR (l : Launch) (D : va_G) (ac : Nat → ClassId) (ad : Nat → Nat) (tC tM : MT) (K n0 x0 o : Nat) (As : List Value) (M : MP) (post : MP → Prop) : Prop := ∃ Q1, Ct l D (tyl ac) tC K n0 (.ref x0 :: As) M Q1 ∧ ∀ r M1, Q1 r M1 → ∃ (v : Int32) (fs : List Value) (r' : RS), r = some (.int v) ∧ M1 o = some (.inr (9, fs)) ∧ Ct l D (tyl ac) tM 0 0 (.ref o :: As) M1 (fun x M' => x = some (.int v) ∧ M' = rM ac o ad r' M1) ∧ ∀ r2 M2, (r2 = some (Value.int v) ∧ M2 = rM ac o ad r' M1) → r2 = some (.int v) ∧ post M2
section op
variable {l : Launch} {D : va_G} {ac : Nat → ClassId} {adr : Nat → Nat} {o : Nat} {ad : Nat → Nat} {s : PS} {r r' : RS} {Z M : MP} {tM : MT} {As : List Value} {v : Int32}
theorem ref_do (hA : rAD o ad) (hW : PW ac adr s (rM ac o ad r Z) M) (h : RCi l D ac o ad tM As r v r') : (∃ fs, M o = some (.inr (9, fs))) ∧ Ct l D (tyl ac) tM 0 0 (.ref o :: As) M (fun x M' => x = some (.int v) ∧ M' = rM ac o ad r' M) ∧ PW ac adr s (rM ac o ad r' Z) (rM ac o ad r' M) := by
  have h1 := h M
  rw [PW_rM hA hW] at h1
  exact ⟨⟨_, PW_z hW rM_o⟩, h1, PW_rM' hA hW r'⟩
/-- the class leaves the world as it is: the reference's answer is the same -/
theorem OP_rd {tC : MT} {x0 ol j N : Nat} {g : Nat → List Rec} {ops : List (Int32 × List TRE)} {f : Nat → Int64} (h0 : adr 0 = x0) (hA : rAD o ad) (hW : PW ac adr s (rM ac o ad r Z) M) (hD : DJ o ad Z) (ho : Z ol = some (oLg ac f)) (hj : (xF s).2.1 = j) (hN : xN s = N) (hC : Ct l D (tyl ac) tC 0 0 (.ref (adr 0) :: As) M (PQ (some (.int v)) M)) (hR : RCi l D ac o ad tM As r v r') (hS : SIM s Z r' g ops) : OPR l D ac ad tC tM 0 0 x0 o As M (LX ac o ad x0 ol j N) := by
  subst h0
  refine ⟨_, hC, fun r1 M1 hq => ?_⟩
  obtain ⟨rfl, rfl⟩ := hq
  obtain ⟨⟨fs, k1⟩, k2, k3⟩ := ref_do hA hW hR
  exact ⟨v, fs, _, rfl, k1, k2, fun r2 M2 hq2 => ⟨hq2.1, by rw [hq2.2]; exact ⟨adr, s, r', Z, g, ops, f, rfl, hA, k3, hD, hS, ho, hj, hN⟩⟩⟩
end op
section ops
variable {l : Launch} {D : va_G} {ac : Nat → ClassId} {o : Nat} {ad : Nat → Nat} {x0 ol j N : Nat} {M : MP}
theorem op_font (h : LX ac o ad x0 ol j N M) (x y z : Int32) : OPR l D ac ad t_PF_font t_Mod_font 0 0 x0 o [.int x, .int y, .int z] M (LX ac o ad x0 ol j N) := by
  obtain ⟨adr, s, r, Z, g, ops, f, rfl, hA, hW, hD, hS, ho, hj, hN⟩ := h
  obtain ⟨s1, s2⟩ := S_font hS x y z
  refine ⟨_, PF_font hW x y z, fun r1 M1 hq => ?_⟩
  obtain ⟨rfl, hW1⟩ := hq
  obtain ⟨⟨fs, k1⟩, k2, k3⟩ := ref_do hA hW1 (Mod_font (l := l) (D := D) hA x y z)
  have e1 : xF (foS s x y z) = xF s := by unfold foS; split <;> rfl
  have e2 : xN (foS s x y z) = xN s := by unfold foS; split <;> rfl
  have e3 : (if fok x y z then (1 : Int32) else 0) = if foc x y z then 1 else 0 := by
    by_cases hf : foc x y z
    · rw [if_pos hf, if_pos (s1.mp hf)]
    · rw [if_neg hf, if_neg (fun w => hf (s1.mpr w))]
  rw [e3] at k2
  exact ⟨_, fs, _, rfl, k1, k2, fun r2 M2 hq2 => ⟨hq2.1, by rw [hq2.2]; exact ⟨adr, _, _, Z, g, ops, f, rfl, hA, k3, hD, s2, ho, by rw [e1]; exact hj, by rw [e2]; exact hN⟩⟩⟩
theorem op_open (h : LX ac o ad x0 ol j N M) {v : Int32} (hz : isz1 v) (hn : vp_nar .boolean v = v) : OPR l D ac ad t_PF_open t_Mod_open 1 10 x0 o [.int v] M (LX ac o ad x0 ol j N) := by
  obtain ⟨adr, s, r, Z, g, ops, f, rfl, hA, hW, hD, hS, ho, hj, hN⟩ := h
  have hlev : ∀ q, s.2.1 8 = some q → ∃ fs, rM ac o ad r Z q = some (.inr (6, fs)) ∧ fs[2]? = some (.int (nI ops.length)) := fun q hq => by
    obtain ⟨fs, h1, h2⟩ := S_lev hS q hq
    exact ⟨fs, rM_get hD h1, h2⟩
  have hR := hS.2.1
  have hm := Mod_open (l := l) (D := D) (ac := ac) hA hR.2.2.1 hR.1 v
  refine ⟨_, PF_open hW hz hlev, fun r1 M1 hq => ?_⟩
  unfold opQ at hq
  by_cases hc : opc s (nI ops.length)
  · rw [if_pos hc] at hq
    obtain ⟨q, hq0, rfl, hW1⟩ := hq
    have hl := (S_opc hS).mp hc
    obtain ⟨nq, hq1⟩ := rM_none hA hq0
    rw [rM_mu nq] at hW1
    rw [if_neg hl] at hm
    obtain ⟨⟨fs, k1⟩, k2, k3⟩ := ref_do hA hW1 hm
    have s2 := S_open hS hz hn hl hq1
    exact ⟨1, fs, _, rfl, k1, k2, fun r2 M2 hq2 => ⟨hq2.1, by rw [hq2.2]; exact ⟨adr, _, _, _, g, _, f, rfl, hA, k3, DJ_mu hD nq _, s2, by rw [mu_ne _ _ (fun z => by rw [z, hq1] at ho; cases ho)]; exact ho, hj, hN⟩⟩⟩
  · rw [if_neg hc] at hq
    obtain ⟨rfl, hW1⟩ := hq
    have hl : ops.length = 100 := Classical.byContradiction fun z => hc ((S_opc hS).mpr z)
    rw [if_pos hl] at hm
    have e : opn r ops.length v = sF r 0 0 := if_pos hl
    rw [e] at hm
    obtain ⟨⟨fs, k1⟩, k2, k3⟩ := ref_do hA hW1 hm
    exact ⟨0, fs, _, rfl, k1, k2, fun r2 M2 hq2 => ⟨hq2.1, by rw [hq2.2]; exact ⟨adr, _, _, _, g, _, f, rfl, hA, k3, hD, SIM_0 hS 0, ho, hj, hN⟩⟩⟩
/-! items that join -/
theorem jnM_rM {r : RS} {Z : MP} (hD : DJ o ad Z) {lo : Option Nat} {q : Nat} {Ic : Nat → Int32} {bc : Value} (hlo : ∀ c, lo = some c → ∃ nc, Z c = some (.inr (5, itv Ic bc nc))) {q2 : Nat} (nq : ¬ rfa o ad q2) (e : va_E) : jnM (mu (rM ac o ad r Z) q2 e) lo q Ic bc = rM ac o ad r (jnM (mu Z q2 e) lo q Ic bc) := by
  rw [rM_mu nq]
  cases lo with
  | none => rfl
  | some c =>
    obtain ⟨nc, hc⟩ := hlo c rfl
    exact rM_mu (hD c _ hc) _
theorem adZ_rM {r : RS} {Z : MP} (hD : DJ o ad Z) {lo bo : Option Nat} {a q : Nat} {I Ic : Nat → Int32} {bc ou fi : Value} {v le it ne bi bn : Int32} {t : T3} {e0 : va_E} (ha : Z a = some e0) (nq : ¬ rfa o ad q) (hlo : ∀ c, lo = some c → ∃ nc, Z c = some (.inr (5, itv Ic bc nc))) : adZ (rM ac o ad r Z) a q I bo lo Ic bc v ou le fi it ne bi bn t = rM ac o ad r (adZ Z a q I bo lo Ic bc v ou le fi it ne bi bn t) := by
  unfold adZ
  rw [jnM_rM hD hlo nq, rM_mu (hD a _ ha)]
theorem adZ_DJ {Z : MP} (hD : DJ o ad Z) {lo bo : Option Nat} {a q : Nat} {I Ic : Nat → Int32} {bc ou fi : Value} {v le it ne bi bn : Int32} {t : T3} {e0 : va_E} (ha : Z a = some e0) (nq : ¬ rfa o ad q) (hlo : ∀ c, lo = some c → ∃ nc, Z c = some (.inr (5, itv Ic bc nc))) : DJ o ad (adZ Z a q I bo lo Ic bc v ou le fi it ne bi bn t) := by
  unfold adZ
  refine DJ_mu ?_ (hD a _ ha) _
  cases lo with
  | none => exact DJ_mu hD nq _
  | some c =>
    obtain ⟨nc, hc⟩ := hlo c rfl
    exact DJ_mu (DJ_mu hD nq _) (hD c _ hc) _
theorem adZ_get {Z : MP} {lo bo : Option Nat} {a q : Nat} {I Ic : Nat → Int32} {bc ou fi : Value} {v le it ne bi bn : Int32} {t : T3} {e0 : Nat × List Value} (ha : Z a = some (.inr e0)) (hq : Z q = none) (hlo : ∀ c, lo = some c → ∃ nc, Z c = some (.inr (5, itv Ic bc nc))) {p : Nat} {w : ClassId × vp_A} (hp : Z p = some (.inl w)) : adZ Z a q I bo lo Ic bc v ou le fi it ne bi bn t p = some (.inl w) := by
  have n1 : p ≠ a := fun z => by rw [z, ha] at hp; cases hp
  have n2 : p ≠ q := fun z => by rw [z, hq] at hp; cases hp
  unfold adZ
  rw [mu_ne _ _ n1]
  cases lo with
  | none => exact (mu_ne _ _ n2).trans hp
  | some c =>
    obtain ⟨nc, hc⟩ := hlo c rfl
    have n3 : p ≠ c := fun z => by rw [z, hc] at hp; cases hp
    exact (mu_ne _ _ n3).trans ((mu_ne _ _ n2).trans hp)
end ops
