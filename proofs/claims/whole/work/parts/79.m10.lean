/-! put and close -/
theorem nI_sub {a b : Nat} (h : b ≤ a) : nI a - nI b = nI (a - b) := by
  rw [show nI a = nI (a - b) + nI b by rw [nI_add, Nat.sub_add_cancel h], Int32.add_sub_cancel]
/-- a register's record, put with a shift -/
def shR (y : Rec) (sh : Int32) : Rec := (itI 3 (y.1 1) (y.1 2) (y.1 3) 0 0 0 sh, y.2)
theorem shR_itm {Zf : MP} {v sh : Int32} {y : Rec} {c : List Rec} {q : Nat} (hy : y.1 = itI 3 (y.1 1) (y.1 2) (y.1 3) 0 0 0 0) (h : itm (PX Zf) Zf 0 (y, c) (some q)) (hs : sz4 sh) : itm (PX Zf) Zf v (shR y sh, c) (some q) ∧ ∀ j, 1 ≤ j → j ≤ 7 → rC (shR y sh) j = if j = 5 then sh else rC y j := by
  obtain ⟨⟨n1, n2, n3⟩, h2⟩ := h
  have h0 : y.1 0 = 3 := by rw [hy]; rfl
  obtain ⟨-, -, ⟨s1, s2, s3, -⟩, -⟩ := n3
  constructor
  · refine ⟨⟨n1, ?_, ?_⟩, ?_⟩
    · rcases n2 with z | z
      · exact Or.inl ⟨rfl, z.2⟩
      · exact absurd h0 z.1
    · exact ⟨Or.inr (Or.inr (Or.inr rfl)), ⟨0, by decide, rfl⟩, ⟨s1, s2, s3, hs⟩, fun _ => rfl, fun z => absurd rfl z, fun _ => show (0 : Int32) &&& 1 = 0 by decide, fun _ => ⟨show (0 : Int32) &&& 2 = 0 by decide, show (0 : Int32) &&& 4 = 0 by decide, show ¬ (3 : Int32) = 0 by decide⟩, fun z => absurd (show (3 : Int32) = 2 from z) (by decide), fun z => absurd (show (0 : Int32) &&& 1 = 0 by decide) z, fun z => absurd (show (0 : Int32) &&& 2 = 0 by decide) z, fun z => absurd (show (0 : Int32) &&& 4 = 0 by decide) z⟩
    · rcases h2 with z | ⟨z, b, fo, z2, z3, z4⟩
      · exact absurd h0 z.1
      · exact Or.inr ⟨rfl, b, fo, z2, z3, z4⟩
  · intro j h1 h7
    have hj : j = 1 ∨ j = 2 ∨ j = 3 ∨ j = 4 ∨ j = 5 ∨ j = 6 ∨ j = 7 := by omega
    have r6 : y.1 6 = 0 := by rw [hy]; rfl
    rcases hj with rfl | rfl | rfl | rfl | rfl | rfl | rfl
    · rw [if_neg (by decide), rC1_b _ h0, rC1_b _ (show (shR y sh).1 0 = 3 from rfl)]; rfl
    · rw [if_neg (by decide), rC_2, rC_2, r6]; rfl
    · rw [if_neg (by decide), rC_3, rC_3, r6]; rfl
    · rw [if_neg (by decide), rC_4, rC_4, r6]; rfl
    · rw [if_pos rfl]; rfl
    · rw [if_neg (by decide)]; show (0 : Int32) = y.1 5; rw [hy]; rfl
    · rw [if_neg (by decide)]; rfl
theorem S_ptc {s : PS} {Z : MP} {r : RS} {g : Nat → List Rec} {v : Int32} {ts : List TRE} {o : List (Int32 × List TRE)} (h : SIM s Z r g ((v, ts) :: o)) {k : Nat} (hk : k < 8) (hf : isf r (nI k) = 1) (sh cp : Int32) : ptc s (nI (g k).length) sh cp ↔ pok r (nI k) sh cp := by
  have hL := S_L h
  obtain ⟨-, hR, ht, h5, -⟩ := h
  have h12 := hR.2.2.2.2.2.2.1 k hk
  have hle := shf8_le g hk
  have hb := hR.2.1.2
  show (¬ iszl sh.toInt64 = 0 ∧ (cp = 0 ∨ s.1 5 + nI (g k).length ≤ 3000)) ↔ (¬ gF r 8 = 0 ∧ ¬ isf r (nI k) = 0 ∧ ¬ isz sh = 0 ∧ (cp = 0 ∨ ¬ hrm r (gB r 12 (nI k).toNatClampNeg) = 0))
  rw [isz_l, nI_clamp (by omega), h12, hrm_R hR (by omega), ite_01, h5, nI_add, hf]
  have e : nI (toI g ((v, ts) :: o) + (g k).length) ≤ 3000 ↔ (cat ((v, ts) :: o)).length + (shf8 g 8).length + (g k).length ≤ 3000 := by
    show nI _ ≤ nI 3000 ↔ _
    rw [nI_leI (by omega) (by decide)]
    exact Iff.rfl
  rw [e]
  exact ⟨fun z => ⟨hL, by decide, z.1, z.2⟩, fun z => ⟨z.2.2.1, z.2.2.2⟩⟩
theorem S_pty {s : PS} {Z : MP} {r : RS} {g : Nat → List Rec} {ops : List (Int32 × List TRE)} (h : SIM s Z r g ops) {k : Nat} (hk : k < 8) : nI k = nI k ∧ k < 8 ∧ stt r k = nI (3100 + (shf8 g k).length) ∧ gB r 12 k = nI (g k).length ∧ 3100 + shv r = nI (3100 + (shf8 g 8).length) ∧ 3100 + (shf8 g k).length + (g k).length ≤ 3100 + (shf8 g 8).length ∧ 3100 + (shf8 g 8).length ≤ 6100 ∧ gF r 11 = nI (cat ops).length ∧ (cat ops).length + (g k).length ≤ 3100 := by
  obtain ⟨-, hR, ht, -⟩ := h
  have hle := shf8_le g hk
  unfold toI at ht
  exact ⟨rfl, hk, stt_R hR.2.2.2.2.2.2.1 (by omega), hR.2.2.2.2.2.2.1 k hk, by rw [shv_R hR.2.2.2.2.2.2.1, show (3100 : Int32) = nI 3100 by decide, nI_add], by omega, by omega, hR.2.2.2.1, by omega⟩
theorem puts1_RST {s s' : PS} {r : RS} (h : RST s r) (h1 : ∀ j, (6 ≤ j ∧ j ≤ 11) ∨ j = 30 → s'.1 j = s.1 j) (h2 : s'.2.2 = s.2.2) (p n e : Nat) (sh : Int32) : RST s' (puts1 r p n e sh) := by
  refine RST_cong h h1 h2 (fun j hj => ?_) (fun j hj => ?_) ?_
  · unfold puts1; rw [sF_FF, if_neg (by omega), w1_FF, mvc_FF, sF_FF, if_neg (by omega)]
  · funext i; unfold puts1; rw [sF_BB, w1_BB, if_neg (by omega), mvc_B2 (by omega)]; rfl
  · unfold puts1; show (mvc _ _ _ _ _).2.1 = _; rw [mvc_T]; rfl
theorem emp_RST {s : PS} {r : RS} (h : RST s r) (p n q k : Nat) : RST s (emp r p n q k) := by
  refine RST_cong h (fun _ _ => rfl) rfl (fun j hj => ?_) (fun j hj => ?_) ?_
  · unfold emp; rw [w1_FF, mvd_FF]
  · funext i; unfold emp; rw [w1_BB, if_neg (by omega), mvd_BB (by omega)]
  · unfold emp; show (mvd _ _ _ _).2.1 = _; rw [mvd_T]
theorem S_put {s : PS} {Z : MP} {r : RS} {g : Nat → List Rec} {v : Int32} {ts : List TRE} {o : List (Int32 × List TRE)} (h : SIM s Z r g ((v, ts) :: o)) {b q : Nat} {oo : Option Nat} {as fp' : List Nat} {Ic : Nat → Int32} {bc : Value} {Zf : MP} (e2 : Z b = some (.inr (6, olv v (va_rf oo) (nI (o.length + 1)) (va_rf as.head?) (va_rf as.getLast?) (nI (flt ts).length) (nI (dmx ts)) (mea v ts (0, 0, 0))))) (hz : isz1 v) (hlo : ∀ c, as.getLast? = some c → ∃ nc, Z c = some (.inr (5, itv Ic bc nc))) (hs : ∀ a e, Zf a = some e → Z a = some e) (hl : lkn Zf Z v as ts) (ho : OLS Zf Z oo o fp') (hnd : (b :: (as ++ fp')).Nodup) (hnf : ∀ a ∈ b :: (as ++ fp'), Zf a = none) (hr : ∀ k, k < 8 → RGS (s.2.1 k) Zf (g k)) (h8 : s.2.1 8 = some b) (hq : Z q = none) {k : Nat} (hk : k < 8) {y : Rec} {c : List Rec} {qb : Nat} (hg : g k = y :: c) (hy : y.1 = itI 3 (y.1 1) (y.1 2) (y.1 3) 0 0 0 0) (hi : itm (PX Zf) Zf 0 (y, c) (some qb)) {sh cp : Int32} (hc : ptc s (nI (g k).length) sh cp) :
    SIM (ptE s k (nI (g k).length) cp) (adZ Z b q (itI 3 (y.1 1) (y.1 2) (y.1 3) 0 0 0 sh) (some qb) as.getLast? Ic bc v (va_rf oo) (nI (o.length + 1)) (va_rf as.head?) (nI (flt ts).length) (nI (dmx ts)) (nI y.2.2.1) (nI (y.2.2.2 + 1)) (mea v ts (0, 0, 0))) (puts r k (3100 + (shf8 g k).length) (g k).length (3100 + (shf8 g 8).length) (cat ((v, ts) :: o)).length sh cp) (if cp = 0 then va_up g k [] else g) ((v, ts ++ [(shR y sh, c)]) :: o) := by
  have hsz : sz4 sh := by have := hc.1; rw [isz_l] at this; exact this
  obtain ⟨hi2, hx⟩ := shR_itm (v := v) hy hi hsz
  have hgl : (g k).length = c.length + 1 := by rw [hg]; rfl
  have hle := shf8_le g hk
  have hcl := cat_len v ts o
  have hdl := S_dl hl
  obtain ⟨-, hR, ht, h5, hS⟩ := h
  unfold toI at ht h5
  have hti : ∀ g' : Nat → List Rec, toI g' ((v, ts ++ [(shR y sh, c)]) :: o) = (cat ((v, ts) :: o)).length + (g k).length + (shf8 g' 8).length := fun g' => by
    show (cat o ++ flt (ts ++ [(shR y sh, c)])).length + _ = _
    rw [flt_app, List.length_append, List.length_append, hcl, hgl]
    show _ + (_ + ((c ++ []).length + 1)) + _ = _
    rw [List.append_nil]
    omega
  have hR2 := RR_put hR hk hg hx (by omega)
  have he : y.2.2.2 < 10000 := by
    rcases hi.2 with ⟨z, -⟩ | ⟨-, b9, fo, -, -, n, z⟩
    · exact absurd (show y.1 0 = 3 by rw [hy]; rfl) z
    · have h9 : y.2.2.2 ≤ c.length := WF_dl n (CH_WF n z)
      omega
  have hbi : ∀ y9, some qb = some y9 → nI y.2.2.1 = nI (shR y sh, c).1.2.2.1 ∧ nI (y.2.2.2 + 1) = nI ((shR y sh, c).1.2.2.2 + 1) := fun _ _ => ⟨rfl, rfl⟩
  have hS2 : shf8 (va_up g k []) 8 = shf8 g k ++ shb8 g k (7 - k) := by have := shf8_up g hk []; rw [List.append_nil] at this; exact this
  have hlen : (shf8 g 8).length = (shf8 g k).length + (g k).length + (shb8 g k (7 - k)).length := by rw [shf8_8 g hk, List.length_append, List.length_append]
  have hlen2 : (shf8 (va_up g k []) 8).length = (shf8 g k).length + (shb8 g k (7 - k)).length := by rw [hS2, List.length_append]
  by_cases hcp : cp = 0
  · rw [if_pos hcp]
    have hE : ptE s k (nI (g k).length) cp = uR (uI (uI s 5 (s.1 5 - nI (g k).length)) 5 (s.1 5 - nI (g k).length + nI (g k).length)) k none := by
      unfold ptE ptS
      rw [if_pos hcp]
      show (va_up (va_up s.1 5 _) 5 (va_up s.1 5 (s.1 5 - nI (g k).length) 5 + nI (g k).length), _) = _
      rw [va_up_self]
      rfl
    rw [hE]
    have hPU : puts r k (3100 + (shf8 g k).length) (g k).length (3100 + (shf8 g 8).length) (cat ((v, ts) :: o)).length sh cp = emp (puts1 r (3100 + (shf8 g k).length) (g k).length (cat ((v, ts) :: o)).length sh) (3100 + (shf8 g k).length) (g k).length (3100 + (shf8 g 8).length) k := if_pos hcp
    rw [hPU]
    refine ⟨CLS_join (s := s) (g := g) (p := (shR y sh, c)) e2 hz hlo hs hl ho hnd hnf (fun m hm => ?_) ?_ hq hi2 hbi ⟨he, by omega⟩, RR_emp hR2 hk, ?_, ?_, ?_⟩
    · show RGS (va_up s.2.1 k none m) Zf (va_up g k [] m)
      by_cases hmk : m = k
      · subst hmk; rw [va_up_self, va_up_self]; exact Or.inl ⟨rfl, rfl⟩
      · rw [va_up_ne _ _ hmk, va_up_ne _ _ hmk]; exact hr m hm
    · show va_up s.2.1 k none 8 = some b
      rw [va_up_ne _ _ (by omega)]; exact h8
    · rw [hti]; omega
    · rw [hti]
      show va_up (va_up s.1 5 (s.1 5 - nI (g k).length)) 5 (s.1 5 - nI (g k).length + nI (g k).length) 5 = _
      rw [va_up_self, Int32.sub_add_cancel, h5]
      congr 1
      omega
    · refine emp_RST (puts1_RST (s' := uR (uI (uI s 5 (s.1 5 - nI (g k).length)) 5 (s.1 5 - nI (g k).length + nI (g k).length)) k none) hS (fun j hj => ?_) rfl _ _ _ _) _ _ _ _
      show va_up (va_up s.1 5 _) 5 _ j = _
      rw [va_up_ne _ _ (by omega), va_up_ne _ _ (by omega)]
  · rw [if_neg hcp]
    have hE : ptE s k (nI (g k).length) cp = uI s 5 (s.1 5 + nI (g k).length) := by
      unfold ptE ptS
      rw [if_neg hcp]
    rw [hE]
    have hPU : puts r k (3100 + (shf8 g k).length) (g k).length (3100 + (shf8 g 8).length) (cat ((v, ts) :: o)).length sh cp = puts1 r (3100 + (shf8 g k).length) (g k).length (cat ((v, ts) :: o)).length sh := if_neg hcp
    rw [hPU]
    have hmx : (cat ((v, ts) :: o)).length + (g k).length + (shf8 g 8).length ≤ 3000 := by
      rcases hc.2 with z | z
      · exact absurd z hcp
      · rw [h5, nI_add] at z
        have := (nI_leI (b := 3000) (by omega) (by decide)).mp z
        omega
    refine ⟨CLS_join (s := s) (g := g) (p := (shR y sh, c)) e2 hz hlo hs hl ho hnd hnf hr h8 hq hi2 hbi ⟨he, by omega⟩, hR2, by rw [hti]; exact hmx, ?_, puts1_RST (s' := uI s 5 (s.1 5 + nI (g k).length)) hS (fun j hj => va_up_ne _ _ (by omega)) rfl _ _ _ _⟩
    rw [hti]
    show va_up s.1 5 (s.1 5 + nI (g k).length) 5 = _
    rw [va_up_self, h5, nI_add]
    congr 1
    omega
/-! close -/
theorem l2i_sz {w : Int64} (h : ¬ iszl w = 0) : sz4 w.toInt32 ∧ w.toInt32.toInt64 = w := by
  have h1 : -1073741823 ≤ w ∧ w ≤ 1073741823 := by
    unfold iszl at h
    exact Classical.byContradiction (fun z => h (if_neg z))
  have e : w.toInt32.toInt64 = w := by
    rw [Int64.le_iff_toInt_le, Int64.le_iff_toInt_le] at h1
    have a1 : (-1073741823 : Int64).toInt = -1073741823 := rfl
    have a2 : (1073741823 : Int64).toInt = 1073741823 := rfl
    rw [a1, a2] at h1
    apply Int64.toInt_inj.mp
    rw [Int32.toInt_toInt64, Int64.toInt_toInt32]
    rw [Int.bmod_def]
    omega
  refine ⟨?_, e⟩
  have := isz_l w.toInt32
  rw [e] at this
  show ¬ isz w.toInt32 = 0
  rw [← this]
  exact h
def spn (r : RS) (j : Nat) : Nat := (gB r 7 j).toNatClampNeg
theorem S_spn {r : RS} {n : Nat} {v : Int32} {c : List Rec} {d a : Nat} (hW : WF n v c d) (hR : RWs r a c) (hb : c.length < 10000) : ∀ j, a ≤ j → j < a + c.length → gB r 7 j = nI (spn r j) ∧ 0 < spn r j ∧ j + spn r j ≤ a + c.length := by
  intro j h1 h2
  have hx : c[j - a]? = some c[j - a] := List.getElem?_eq_getElem (by omega)
  have h3 := RWs_at hR hx
  rw [show a + (j - a) = j by omega] at h3
  have h4 := span_in n hW (j - a) _ hx
  have h5 := span_R h3
  unfold spn
  rw [h5, nI_clamp (by omega)]
  exact ⟨rfl, h4.1, by omega⟩
theorem S_clc {s : PS} {Z : MP} {r : RS} {g : Nat → List Rec} {v : Int32} {ts : List TRE} {o : List (Int32 × List TRE)} (h : SIM s Z r g ((v, ts) :: o)) {Zf : MP} {as : List Nat} (hl : lkn Zf Z v as ts) (x : Int32) : (clc s x (nI (dmx ts)) (mea v ts (0, 0, 0)) ↔ cldo r (cat o).length (cat ((v, ts) :: o)).length (spn r) v x) ∧ (clt r (cat o).length (cat ((v, ts) :: o)).length (spn r) v).1 = (mea v ts (0, 0, 0)).1 ∧ clh2 v (clt r (cat o).length (cat ((v, ts) :: o)).length (spn r) v).2.1 (clt r (cat o).length (cat ((v, ts) :: o)).length (spn r) v).2.2 = (mea v ts (0, 0, 0)).2.1 ∧ (clt r (cat o).length (cat ((v, ts) :: o)).length (spn r) v).2.2 = (mea v ts (0, 0, 0)).2.2 := by
  have hL := S_L h
  have hrm9 := S_rm h
  have hcl := cat_len v ts o
  have hdl := S_dl hl
  obtain ⟨-, hR, ht, h5, -⟩ := h
  unfold toI at ht
  obtain ⟨n, hn⟩ := lkn_WF hl
  have hW : WF (n + 1) v (flt ts) (dmx ts) := ⟨ts, rfl, rfl, hn⟩
  have hrw : RWs r (cat o).length (flt ts) := by
    have := (RWs_app r (cat o) (flt ts) 0).mp hR.2.2.2.2.1
    rw [Nat.zero_add] at this
    exact this.2
  have hsp := S_spn hW hrw (by omega)
  rw [← hcl] at hsp
  have hz0 : rlT v (0, 0, 0) = (0, 0, 0) := by unfold rlT; split <;> rfl
  have hn0 : nnT v (0, 0, 0) := by
    unfold nnT
    by_cases hv : v = 0
    · rw [if_pos hv]; exact ⟨by decide, by decide⟩
    · rw [if_neg hv]; decide
  have hclo := clo_R (r := r) (v := v) (sp := spn r) (e := (cat ((v, ts) :: o)).length) ts (a := (cat o).length) (m := (cat ((v, ts) :: o)).length - (cat o).length) (c := (0, 0, 0)) (fun p hp => (hn p hp).1) hrw hcl (by omega) (fun j j1 j2 => (hsp j j1 j2).1) (by omega) (fun j j1 j2 => by have := (hsp j j1 j2).2.2; omega) hn0
  rw [hz0] at hclo
  have hct : clt r (cat o).length (cat ((v, ts) :: o)).length (spn r) v = rlT v (mea v ts (0, 0, 0)) := hclo.1
  have q1 : (clt r (cat o).length (cat ((v, ts) :: o)).length (spn r) v).1 = (mea v ts (0, 0, 0)).1 := by rw [hct]; unfold rlT; split <;> rfl
  have q3 : (clt r (cat o).length (cat ((v, ts) :: o)).length (spn r) v).2.2 = (mea v ts (0, 0, 0)).2.2 := by rw [hct]; unfold rlT; split <;> rfl
  have q2 : clh2 v (clt r (cat o).length (cat ((v, ts) :: o)).length (spn r) v).2.1 (clt r (cat o).length (cat ((v, ts) :: o)).length (spn r) v).2.2 = (mea v ts (0, 0, 0)).2.1 := by
    rw [hct]
    unfold clh2 rlT
    by_cases hv : v = 0
    · rw [if_pos hv, if_pos hv]; exact Int64.sub_zero _
    · rw [if_neg hv, if_neg hv]; exact Int64.add_sub_cancel _ _
  refine ⟨?_, q1, q2, q3⟩
  have hns : nstm r (cat o).length ((cat ((v, ts) :: o)).length - (cat o).length) = dmx ts := by
    rw [show (cat ((v, ts) :: o)).length - (cat o).length = (flt ts).length by omega]
    exact nstm_R hW hrw (by omega)
  show (¬ irg x = 0 ∧ s.1 5 < 3000 ∧ (¬ 100 ≤ nI (dmx ts) ∧ ¬ asz (mea v ts (0, 0, 0)).1 (mea v ts (0, 0, 0)).2.1 (mea v ts (0, 0, 0)).2.2 = 0)) ↔ ((¬ gF r 8 = 0 ∧ ¬ x < 0 ∧ ¬ 7 < x ∧ ¬ hrm r 1 = 0) ∧ (¬ iszl (clt r (cat o).length (cat ((v, ts) :: o)).length (spn r) v).1 = 0 ∧ ¬ iszl (clh2 v (clt r (cat o).length (cat ((v, ts) :: o)).length (spn r) v).2.1 (clt r (cat o).length (cat ((v, ts) :: o)).length (spn r) v).2.2) = 0 ∧ ¬ iszl (clt r (cat o).length (cat ((v, ts) :: o)).length (spn r) v).2.2 = 0 ∧ nstm r (cat o).length ((cat ((v, ts) :: o)).length - (cat o).length) ≤ 99))
  rw [q1, q2, q3, hns, irg_0, (le_lt x).2, hrm9]
  unfold asz
  rw [ite_01]
  have hd : ¬ 100 ≤ nI (dmx ts) ↔ dmx ts ≤ 99 := by
    show ¬ nI 100 ≤ nI (dmx ts) ↔ _
    rw [nI_leI (by decide) (by omega)]
    omega
  rw [hd]
  exact ⟨fun z => ⟨⟨hL, z.1.1, z.1.2, z.2.1⟩, z.2.2.2.1, z.2.2.2.2.1, z.2.2.2.2.2, z.2.2.1⟩, fun z => ⟨⟨z.1.2.1, z.1.2.2.1⟩, z.1.2.2.2, z.2.2.2.2, z.2.1, z.2.2.1, z.2.2.2.1⟩⟩
