/-! both worlds in one -/
def rfa (o : Nat) (ad : Nat → Nat) (a : Nat) : Prop := a = o ∨ ∃ q ∈ rt, ad q.1 = a
def DJ (o : Nat) (ad : Nat → Nat) (Z : MP) : Prop := ∀ a e, Z a = some e → ¬ rfa o ad a
section ZR
variable {ac : Nat → ClassId} {o : Nat} {ad : Nat → Nat} {r r' : RS} {Z M : MP}
theorem rM_n {a : Nat} (h : ¬ rfa o ad a) : rM ac o ad r Z a = Z a := by
  unfold rM
  rw [if_neg (fun z => h (Or.inl z))]
  have hf : rt.find? (fun q => ad q.1 == a) = none := List.find?_eq_none.mpr (fun q hq z => h (Or.inr ⟨q, hq, by simpa using z⟩))
  rw [hf]
theorem rM_y (hA : rAD o ad) {a : Nat} (h : rfa o ad a) : ∃ e, ∀ Z : MP, rM ac o ad r Z a = some e := by
  rcases h with rfl | ⟨q, hq, rfl⟩
  · exact ⟨_, fun _ => rM_o⟩
  · exact ⟨_, fun _ => rM_a hA hq⟩
theorem rM_get (hD : DJ o ad Z) {a : Nat} {e : va_E} (h : Z a = some e) : rM ac o ad r Z a = some e := by rw [rM_n (hD a e h)]; exact h
theorem rM_none (hA : rAD o ad) {q : Nat} (h : rM ac o ad r Z q = none) : ¬ rfa o ad q ∧ Z q = none := by
  by_cases hq : rfa o ad q
  · obtain ⟨e, he⟩ := rM_y (ac := ac) (r := r) hA hq
    rw [he Z] at h; cases h
  · rw [rM_n hq] at h; exact ⟨hq, h⟩
theorem rM_mu {q : Nat} (hq : ¬ rfa o ad q) (e : va_E) : mu (rM ac o ad r Z) q e = rM ac o ad r (mu Z q e) := by
  funext a
  by_cases h : a = q
  · subst h; rw [mu_self, rM_n hq, mu_self]
  · rw [mu_ne _ _ h]
    unfold rM
    split
    · rfl
    · split
      · rfl
      · rw [mu_ne _ _ h]
theorem DJ_mu (hD : DJ o ad Z) {q : Nat} (hq : ¬ rfa o ad q) (e : va_E) : DJ o ad (mu Z q e) := fun a x ha => by
  by_cases h : a = q
  · rw [h]; exact hq
  · rw [mu_ne _ _ h] at ha; exact hD a x ha
variable {adr : Nat → Nat} {s : PS}
theorem PW_rM (hA : rAD o ad) (hW : PW ac adr s (rM ac o ad r Z) M) : rM ac o ad r M = M := by
  funext a
  by_cases ha : rfa o ad a
  · obtain ⟨e, he⟩ := rM_y (ac := ac) (r := r) hA ha
    rw [he M, PW_z hW (he Z)]
  · exact rM_n ha
theorem PW_rM' (hA : rAD o ad) (hW : PW ac adr s (rM ac o ad r Z) M) (r' : RS) : PW ac adr s (rM ac o ad r' Z) (rM ac o ad r' M) := by
  obtain ⟨ra, N, h0, hR, hZ, hk, rfl⟩ := hW
  have hin : ∀ a, rfa o ad a → a ≠ ra ∧ N a ≠ none := fun a ha => by
    obtain ⟨e, he⟩ := rM_y (ac := ac) (r := r) hA ha
    have := hZ a e (he Z)
    exact ⟨this.1, fun z => by rw [this.2] at z; cases z⟩
  have hpl : ∀ p ∈ List.range (9 + 3 * xN s), ¬ rfa o ad (adr p) := fun p hp z => (hin _ z).2 (h0.2 p hp)
  have hra : ¬ rfa o ad ra := fun z => (hin _ z).1 rfl
  refine ⟨ra, rM ac o ad r' N, ⟨h0.1, fun p hp => by rw [rM_n (hpl p hp)]; exact h0.2 p hp⟩, by rw [rM_n hra]; exact hR, fun a e ha => ?_, hk, ?_⟩
  · by_cases hr : rfa o ad a
    · obtain ⟨e', he⟩ := rM_y (ac := ac) (r := r') hA hr
      rw [he Z] at ha
      exact ⟨(hin a hr).1, by rw [he N]; exact ha⟩
    · rw [rM_n hr] at ha
      have := hZ a e (by rw [rM_n hr]; exact ha)
      exact ⟨this.1, by rw [rM_n hr]; exact this.2⟩
  · funext a
    by_cases hr : rfa o ad a
    · obtain ⟨e', he⟩ := rM_y (ac := ac) (r := r') hA hr
      have hout : ∀ p ∈ List.range (9 + 3 * xN s), adr p ≠ a := fun p hp z => hpl p hp (by rw [z]; exact hr)
      rw [he _, pM_out hout, he N]
    · rw [rM_n hr]
      unfold pM
      cases (List.range (9 + 3 * xN s)).find? (fun p => adr p == a) with
      | none => simp only; rw [rM_n hr]
      | some p => rfl
end ZR
/-! THE SIMULATION -/
def FNE (s : PS) (r : RS) : Prop := ∀ m, m < 32 → s.2.2.1 0 m = gB r 13 m ∧ s.2.2.1 1 m = gB r 14 m
def USD (u : Int32) (f : Nat → Int32) : Prop := ∀ m, m < 32 → (fus u (nI m) = 0 ↔ f m = 0) ∧ (f m = 0 ∨ f m = 1)
def FIL (F : FI) (r : RS) : Prop := gF r 18 = nI F.1 ∧ ∀ k, k < F.1 → F.2.2 k = gB r 17 k
def SCA (s : PS) (r : RS) : Prop := s.1 6 = gF r 20 ∧ s.1 7 = gF r 21 ∧ (s.1 8).toInt64 = r.2.1 ∧ s.1 9 = gF r 23 ∧ s.1 10 = gF r 24 ∧ (s.1 11 = 0 ↔ gF r 19 = 0)
def RST (s : PS) (r : RS) : Prop := FNE s r ∧ USD (s.1 30) (gB r 15) ∧ FIL (xF s) r ∧ SCA s r ∧ (xF s).1 ≤ 300000 ∧ 1 ≤ xN s ∧ xN s ≤ 3100 ∧ (0 ≤ s.1 8 ∧ 0 ≤ s.1 10 ∧ (s.1 11 = 0 → (xF s).1 ≤ 299000))
theorem RST_cong {s s' : PS} {r r' : RS} (h : RST s r) (h1 : ∀ j, (6 ≤ j ∧ j ≤ 11) ∨ j = 30 → s'.1 j = s.1 j) (h2 : s'.2.2 = s.2.2) (h3 : ∀ j, 18 ≤ j ∧ j ≤ 24 → gF r' j = gF r j) (h4 : ∀ j, 13 ≤ j ∧ j ≤ 17 → gB r' j = gB r j) (h5 : r'.2.1 = r.2.1) : RST s' r' := by
  obtain ⟨a1, a2, a3, a4, a5, a6, a7, a8⟩ := h
  have e : xF s' = xF s := by show s'.2.2.2.2.2.2 = _; rw [h2]
  have e2 : xN s' = xN s := by show s'.2.2.2.2.2.1 = _; rw [h2]
  refine ⟨fun m hm => ?_, fun m hm => ?_, ?_, ?_, by rw [e]; exact a5, by rw [e2]; exact a6, by rw [e2]; exact a7, ?_⟩
  · rw [h2, h4 13 (by omega), h4 14 (by omega)]; exact a1 m hm
  · rw [h1 30 (Or.inr rfl), h4 15 (by omega)]; exact a2 m hm
  · rw [e]; exact ⟨(h3 18 (by omega)).trans a3.1, fun k hk => by rw [h4 17 (by omega)]; exact a3.2 k hk⟩
  · obtain ⟨b1, b2, b3, b4, b5, b6⟩ := a4
    refine ⟨?_, ?_, ?_, ?_, ?_, ?_⟩
    · rw [h1 6 (by omega), h3 20 (by omega)]; exact b1
    · rw [h1 7 (by omega), h3 21 (by omega)]; exact b2
    · rw [h1 8 (by omega), h5]; exact b3
    · rw [h1 9 (by omega), h3 23 (by omega)]; exact b4
    · rw [h1 10 (by omega), h3 24 (by omega)]; exact b5
    · rw [h1 11 (by omega), h3 19 (by omega)]; exact b6
  · have e9 : xF s' = xF s := congrArg (fun z => z.2.2.2.2) h2
    rw [h1 8 (by omega), h1 10 (by omega), h1 11 (by omega), e9]; exact a8
def RGS (i : Option Nat) (Zf : MP) (L : List Rec) : Prop := (L = [] ∧ i = none) ∨ ∃ x c q, L = x :: c ∧ i = some q ∧ x.1 = itI 3 (x.1 1) (x.1 2) (x.1 3) 0 0 0 0 ∧ itm (PX Zf) Zf 0 (x, c) (some q)
def CLS (s : PS) (Z : MP) (g : Nat → List Rec) (ops : List (Int32 × List TRE)) : Prop := ∃ Zf fp, (∀ a e, Zf a = some e → Z a = some e) ∧ OLS Zf Z (s.2.1 8) ops fp ∧ fp.Nodup ∧ (∀ a ∈ fp, Zf a = none) ∧ ∀ k, k < 8 → RGS (s.2.1 k) Zf (g k)
def toI (g : Nat → List Rec) (ops : List (Int32 × List TRE)) : Nat := (cat ops).length + (shf8 g 8).length
def SIM (s : PS) (Z : MP) (r : RS) (g : Nat → List Rec) (ops : List (Int32 × List TRE)) : Prop := CLS s Z g ops ∧ RR r g ops ∧ toI g ops ≤ 3000 ∧ s.1 5 = nI (toI g ops) ∧ RST s r
theorem RGS_mono {i : Option Nat} {Zf Zf' : MP} {L : List Rec} (hZ : ∀ a e, Zf a = some e → Zf' a = some e) (h : RGS i Zf L) : RGS i Zf' L := by
  rcases h with h | ⟨x, c, q, h1, h2, h3, h4⟩
  · exact Or.inl h
  · exact Or.inr ⟨x, c, q, h1, h2, h3, itm_mono hZ (fun _ _ _ _ z => by obtain ⟨n, z⟩ := z; exact ⟨n, CH_mono hZ n z⟩) h4⟩
/-- nothing happens but that the reference's mark is set -/
theorem SIM_0 {s : PS} {Z : MP} {r : RS} {g : Nat → List Rec} {ops : List (Int32 × List TRE)} (h : SIM s Z r g ops) (v : Int32) : SIM s Z (sF r 0 v) g ops := by
  obtain ⟨h1, h2, h3, h4, h5⟩ := h
  exact ⟨h1, RR_0 h2 v, h3, h4, RST_cong h5 (fun _ _ => rfl) rfl (fun j hj => by rw [sF_FF, if_neg (by omega)]) (fun _ _ => rfl) rfl⟩
/-- the kept map may grow -/
theorem OLS_sub {Zf Z Z' : MP} {q : Option Nat} {ops : List (Int32 × List TRE)} {fp : List Nat} (h : OLS Zf Z q ops fp) (hZ : ∀ a e, Z a = some e → Z' a = some e) : OLS Zf Z' q ops fp := OLS_cong (fun _ _ z => z) (fun a ha => by obtain ⟨e, he⟩ := OLS_some h a ha; rw [he, hZ a e he]) h
/-- what a call that adds an item finds -/
theorem SIM_in {s : PS} {Z : MP} {r : RS} {g : Nat → List Rec} {v : Int32} {ts : List TRE} {o : List (Int32 × List TRE)} (h : SIM s Z r g ((v, ts) :: o)) : ∃ (b : Nat) (oo : Option Nat) (as : List Nat) (Ic : Nat → Int32) (bc : Value) (Zf : MP) (fp' : List Nat), s.2.1 8 = some b ∧ Z b = some (.inr (6, olv v (va_rf oo) (nI (o.length + 1)) (va_rf as.head?) (va_rf as.getLast?) (nI (flt ts).length) (nI (dmx ts)) (mea v ts (0, 0, 0)))) ∧ isz1 v ∧ (∀ c, as.getLast? = some c → ∃ nc, Z c = some (.inr (5, itv Ic bc nc))) ∧ (∀ a e, Zf a = some e → Z a = some e) ∧ lkn Zf Z v as ts ∧ OLS Zf Z oo o fp' ∧ (b :: (as ++ fp')).Nodup ∧ (∀ a ∈ b :: (as ++ fp'), Zf a = none) ∧ ∀ k, k < 8 → RGS (s.2.1 k) Zf (g k) := by
  obtain ⟨⟨Zf, fp, h1, h2, h3, h4, h5⟩, -⟩ := h
  obtain ⟨b, oo, as, fp', e1, e2, e3, e4, rfl, e6⟩ := h2
  cases hgl : as.getLast? with
  | none => exact ⟨b, oo, as, fun _ => 0, .null, Zf, fp', e1, by rw [hgl] at e2; rw [hgl]; exact e2, e3, (fun c hc => by rw [hgl] at hc; cases hc), h1, e4, e6, h3, h4, h5⟩
  | some c =>
    obtain ⟨bs, has⟩ := gl_split hgl
    have e4' := e4
    rw [has] at e4'
    obtain ⟨I, b1, hI⟩ := lkn_last e4'
    exact ⟨b, oo, as, I, va_rf b1, Zf, fp', e1, e2, e3, (fun c' hc => by rw [hgl] at hc; cases hc; exact ⟨_, hI⟩), h1, e4, e6, h3, h4, h5⟩
/-- an item has joined -/
theorem CLS_join {s s' : PS} {Z : MP} {g g' : Nat → List Rec} {v : Int32} {ts : List TRE} {o : List (Int32 × List TRE)} {b q : Nat} {oo : Option Nat} {as fp' : List Nat} {Ic : Nat → Int32} {bc : Value} {Zf : MP} {p : TRE} {bo : Option Nat} {bi bn : Int32} (e2 : Z b = some (.inr (6, olv v (va_rf oo) (nI (o.length + 1)) (va_rf as.head?) (va_rf as.getLast?) (nI (flt ts).length) (nI (dmx ts)) (mea v ts (0, 0, 0))))) (hz : isz1 v) (hlo : ∀ c, as.getLast? = some c → ∃ nc, Z c = some (.inr (5, itv Ic bc nc))) (hs : ∀ a e, Zf a = some e → Z a = some e) (hl : lkn Zf Z v as ts) (ho : OLS Zf Z oo o fp') (hnd : (b :: (as ++ fp')).Nodup) (hnf : ∀ a ∈ b :: (as ++ fp'), Zf a = none) (hr : ∀ k, k < 8 → RGS (s'.2.1 k) Zf (g' k)) (h8 : s'.2.1 8 = some b) (hq : Z q = none) (hp : itm (PX Zf) Zf v p bo) (hbi : ∀ y, bo = some y → bi = nI p.1.2.2.1 ∧ bn = nI (p.1.2.2.2 + 1)) (hlt : p.1.2.2.2 < 10000 ∧ dmx ts < 10000) : CLS s' (adZ Z b q p.1.1 bo as.getLast? Ic bc v (va_rf oo) (nI (o.length + 1)) (va_rf as.head?) (nI (flt ts).length) (nI (dmx ts)) bi bn (mea v ts (0, 0, 0))) g' ((v, ts ++ [p]) :: o) := by
  have hj := OLS_join e2 hz hl ho hnd hq hp hlo hbi hlt
  have hfr : ∀ a ∈ b :: (as ++ fp'), a ≠ q := fun a ha z => by
    have hall : OLS Zf Z (some b) ((v, ts) :: o) (b :: (as ++ fp')) := ⟨b, oo, as, fp', rfl, e2, hz, hl, rfl, ho⟩
    obtain ⟨e, he⟩ := OLS_some hall a ha
    rw [z, hq] at he; cases he
  refine ⟨Zf, b :: (as ++ [q] ++ fp'), fun a e ha => ?_, by rw [h8]; exact hj, ?_, ?_, hr⟩
  · have ha1 := hs a e ha
    have hab : a ≠ b := fun z => by rw [z, hnf b List.mem_cons_self] at ha; cases ha
    have haq : a ≠ q := fun z => by rw [z, hq] at ha1; cases ha1
    unfold adZ
    rw [mu_ne _ _ hab]
    cases hgl : as.getLast? with
    | none => show mu Z q _ a = _; rw [mu_ne _ _ haq]; exact ha1
    | some c =>
      have hcm : c ∈ as := by obtain ⟨bs, has⟩ := gl_split hgl; rw [has]; exact List.mem_append_right _ List.mem_cons_self
      have hac : a ≠ c := fun z => by rw [z, hnf c (List.mem_cons_of_mem _ (List.mem_append_left _ hcm))] at ha; cases ha
      show mu (mu Z q _) c _ a = _
      rw [mu_ne _ _ hac, mu_ne _ _ haq]; exact ha1
  · have h1 := List.nodup_cons.mp hnd
    have h2 := List.nodup_append.mp h1.2
    refine List.nodup_cons.mpr ⟨fun z => ?_, List.nodup_append.mpr ⟨List.nodup_append.mpr ⟨h2.1, List.nodup_cons.mpr ⟨fun z => (by cases z), List.nodup_nil⟩, fun x hx y hy => ?_⟩, h2.2.1, fun x hx y hy => ?_⟩⟩
    · rcases List.mem_append.mp z with z | z
      · rcases List.mem_append.mp z with z | z
        · exact h1.1 (List.mem_append_left _ z)
        · exact hfr b List.mem_cons_self (List.mem_singleton.mp z)
      · exact h1.1 (List.mem_append_right _ z)
    · rw [List.mem_singleton.mp hy]; exact hfr x (List.mem_cons_of_mem _ (List.mem_append_left _ hx))
    · rcases List.mem_append.mp hx with hx | hx
      · exact h2.2.2 x hx y hy
      · rw [List.mem_singleton.mp hx]; exact (hfr y (List.mem_cons_of_mem _ (List.mem_append_right _ hy))).symm
  · intro a ha
    rcases List.mem_cons.mp ha with rfl | ha
    · exact hnf a List.mem_cons_self
    · rcases List.mem_append.mp ha with ha | ha
      · rcases List.mem_append.mp ha with ha | ha
        · exact hnf a (List.mem_cons_of_mem _ (List.mem_append_left _ ha))
        · rw [List.mem_singleton.mp ha]
          cases hz : Zf q with
          | none => rfl
          | some e => have := hs q e hz; rw [hq] at this; cases this
      · exact hnf a (List.mem_cons_of_mem _ (List.mem_append_right _ ha))
