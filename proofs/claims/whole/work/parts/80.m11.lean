/-! close: the state -/
def clR (v : Int32) (ts : List TRE) : Rec := (itI 3 (mea v ts (0, 0, 0)).1.toInt32 (mea v ts (0, 0, 0)).2.1.toInt32 (mea v ts (0, 0, 0)).2.2.toInt32 0 0 0 0, v, (flt ts).length + 1, dmx ts)
theorem clR_R (v : Int32) (ts : List TRE) : rC (clR v ts) 1 = (if v = 0 then 4 else 5) ∧ rC (clR v ts) 2 = (mea v ts (0, 0, 0)).1.toInt32 ∧ rC (clR v ts) 3 = (mea v ts (0, 0, 0)).2.1.toInt32 ∧ rC (clR v ts) 4 = (mea v ts (0, 0, 0)).2.2.toInt32 ∧ rC (clR v ts) 5 = 0 ∧ rC (clR v ts) 6 = 0 ∧ rC (clR v ts) 7 = nI ((flt ts).length + 1) := by
  refine ⟨rC1_b _ rfl, ?_, ?_, ?_, rfl, rfl, rfl⟩
  · rw [rC_2]; exact run1_0 (by decide) (show (0 : Int32) &&& 1 = 0 by decide)
  · rw [rC_3]; exact run1_0 (by decide) (show (0 : Int32) &&& 2 = 0 by decide)
  · rw [rC_4]; exact run1_0 (by decide) (show (0 : Int32) &&& 4 = 0 by decide)
theorem clz_RST {s s' : PS} {r : RS} (h : RST s r) (h1 : ∀ j, (6 ≤ j ∧ j ≤ 11) ∨ j = 30 → s'.1 j = s.1 j) (h2 : s'.2.2 = s.2.2) (a e p n q q1 k L : Nat) (v : Int32) (w h' d : Int64) : RST s' (clz (sF r 0 0) a e p n q q1 k L v w h' d) := by
  refine RST_cong h h1 h2 (fun j hj => ?_) (fun j hj => ?_) ?_
  · unfold clz clhd mak emp
    rw [sF_FF, if_neg (by omega), sF_FF, if_neg (by omega), mvc_FF, w1_FF, w1_FF, w1_FF, w1_FF, w1_FF, w1_FF, w1_FF, w1_FF, mvu_FF, w1_FF, mvd_FF, sF_FF, if_neg (by omega)]
  · funext i
    unfold clz clhd mak emp
    rw [sF_BB, sF_BB, mvc_B2 (by omega), w1_BB, w1_BB, w1_BB, w1_BB, w1_BB, w1_BB, w1_BB, w1_BB, if_neg (by omega), if_neg (by omega), if_neg (by omega), if_neg (by omega), if_neg (by omega), if_neg (by omega), if_neg (by omega), if_neg (by omega), mvu_BB (by omega), w1_BB, if_neg (by omega), mvd_BB (by omega)]
    rfl
  · unfold clz clhd mak emp
    show (mvc _ _ _ _ _).2.1 = _
    rw [mvc_T]
    show (mvu _ _ _ _).2.1 = _
    rw [mvu_T]
    show (mvd _ _ _ _).2.1 = _
    rw [mvd_T]
    rfl
theorem S_close {s : PS} {Z : MP} {r : RS} {g : Nat → List Rec} {v : Int32} {ts : List TRE} {o : List (Int32 × List TRE)} (h : SIM s Z r g ((v, ts) :: o)) {b q : Nat} {oo : Option Nat} {as fp' : List Nat} {Zf : MP} (e2 : Z b = some (.inr (6, olv v (va_rf oo) (nI (o.length + 1)) (va_rf as.head?) (va_rf as.getLast?) (nI (flt ts).length) (nI (dmx ts)) (mea v ts (0, 0, 0))))) (hz : isz1 v) (hs : ∀ a e, Zf a = some e → Z a = some e) (hl : lkn Zf Z v as ts) (ho : OLS Zf Z oo o fp') (hnd : (b :: (as ++ fp')).Nodup) (hnf : ∀ a ∈ b :: (as ++ fp'), Zf a = none) (hr : ∀ k, k < 8 → RGS (s.2.1 k) Zf (g k)) (hq : Z q = none) {k : Nat} (hk : k < 8) (hc : clc s (nI k) (nI (dmx ts)) (mea v ts (0, 0, 0))) :
    SIM (clS s k oo (nI (g k).length) q) (mu Z q (.inr (1, bxv v (mea v ts (0, 0, 0)).1.toInt32 (mea v ts (0, 0, 0)).2.1.toInt32 (mea v ts (0, 0, 0)).2.2.toInt32 (va_rf as.head?) (nI (flt ts).length + 1) (nI (dmx ts) + 1)))) (clz (sF r 0 0) (cat o).length (cat ((v, ts) :: o)).length (3100 + (shf8 g k).length) (g k).length (3100 + (shf8 g 8).length) (3100 + (shf8 (va_up g k []) 8).length) k o.length v (mea v ts (0, 0, 0)).1 (mea v ts (0, 0, 0)).2.1 (mea v ts (0, 0, 0)).2.2) (va_up g k (clR v ts :: flt ts)) o := by
  have hgt := S_gt h hc.2.1
  have hcl := cat_len v ts o
  have hdl := S_dl hl
  have hle := shf8_le g hk
  obtain ⟨-, hR, ht, h5, hS⟩ := h
  unfold toI at ht h5 hgt
  have hRR := (RR_close hR hk (clR_R v ts) hgt).1
  have hsz : ¬ asz (mea v ts (0, 0, 0)).1 (mea v ts (0, 0, 0)).2.1 (mea v ts (0, 0, 0)).2.2 = 0 := hc.2.2.2
  unfold asz at hsz
  rw [ite_01] at hsz
  have z1 := (l2i_sz hsz.1).1
  have z2 := (l2i_sz hsz.2.1).1
  have z3 := (l2i_sz hsz.2.2).1
  have hq2 : ∀ a ∈ b :: (as ++ fp'), a ≠ q := fun a ha z => by
    have hall : OLS Zf Z (some b) ((v, ts) :: o) (b :: (as ++ fp')) := ⟨b, oo, as, fp', rfl, e2, hz, hl, rfl, ho⟩
    obtain ⟨e, he⟩ := OLS_some hall a ha
    rw [z, hq] at he; cases he
  generalize hbx : (Sum.inr (1, bxv v (mea v ts (0, 0, 0)).1.toInt32 (mea v ts (0, 0, 0)).2.1.toInt32 (mea v ts (0, 0, 0)).2.2.toInt32 (va_rf as.head?) (nI (flt ts).length + 1) (nI (dmx ts) + 1)) : va_E) = bx
  have hsub := ZfC_sub (e := bx) (as := as) hs hq (fun a ha => hnf a (List.mem_cons_of_mem _ (List.mem_append_left _ ha)))
  have hn1 := (List.nodup_cons.mp hnd).2
  have hdis : ∀ a ∈ as, ∀ c ∈ fp', a ≠ c := (List.nodup_append.mp hn1).2.2
  obtain ⟨n, hch⟩ := lkn_chn (Zf' := ZfC Zf Z as q bx) hsub.1 hl (fun a ha => by unfold ZfC; rw [if_neg (hq2 a (List.mem_cons_of_mem _ (List.mem_append_left _ ha))), if_pos ha])
  have hS2 : shf8 (va_up g k (clR v ts :: flt ts)) 8 = shf8 g k ++ (clR v ts :: flt ts) ++ shb8 g k (7 - k) := shf8_up g hk _
  have hlen : (shf8 g 8).length = (shf8 g k).length + (g k).length + (shb8 g k (7 - k)).length := by rw [shf8_8 g hk, List.length_append, List.length_append]
  have hlen2 : (shf8 (va_up g k (clR v ts :: flt ts)) 8).length = (shf8 g k).length + ((flt ts).length + 1) + (shb8 g k (7 - k)).length := by rw [hS2, List.length_append, List.length_append]; rfl
  refine ⟨⟨ZfC Zf Z as q bx, fp', hsub.2, ?_, (List.nodup_append.mp hn1).2.1, fun a ha => ?_, fun m hm => ?_⟩, hRR, ?_, ?_, ?_⟩
  · have e8 : (clS s k oo (nI (g k).length) q).2.1 8 = oo := by
      show va_up (va_up s.2.1 8 oo) k (some q) 8 = oo
      rw [va_up_ne _ _ (by omega), va_up_self]
    rw [e8]
    exact OLS_cong hsub.1 (fun a ha => mu_ne _ _ (hq2 a (List.mem_cons_of_mem _ (List.mem_append_right _ ha)))) ho
  · unfold ZfC
    rw [if_neg (hq2 a (List.mem_cons_of_mem _ (List.mem_append_right _ ha))), if_neg (fun z => hdis a z a ha rfl)]
    exact hnf a (List.mem_cons_of_mem _ (List.mem_append_right _ ha))
  · show RGS (va_up (va_up s.2.1 8 oo) k (some q) m) _ (va_up g k (clR v ts :: flt ts) m)
    by_cases hmk : m = k
    · subst hmk
      rw [va_up_self, va_up_self]
      refine Or.inr ⟨clR v ts, flt ts, q, rfl, rfl, rfl, ⟨rfl, Or.inl ⟨rfl, hz, fun hz0 => (by cases ts with | nil => rfl | cons _ _ => cases hz0), show dmx ts ≤ 99 from Nat.le_of_lt_succ ((nI_ltI (b := 100) (by omega) (by decide)).mp (Int32.not_le.mp hc.2.2.1))⟩, ?_⟩, Or.inr ⟨rfl, q, as.head?, rfl, ?_, n + 1, ts, rfl, rfl, hch⟩⟩
      · exact ⟨Or.inr (Or.inr (Or.inr rfl)), ⟨0, by decide, rfl⟩, ⟨z1, z2, z3, show sz4 0 by decide⟩, fun _ => rfl, fun z => absurd rfl z, fun _ => show (0 : Int32) &&& 1 = 0 by decide, fun _ => ⟨show (0 : Int32) &&& 2 = 0 by decide, show (0 : Int32) &&& 4 = 0 by decide, show ¬ (3 : Int32) = 0 by decide⟩, fun z => absurd (show (3 : Int32) = 2 from z) (by decide), fun z => absurd (show (0 : Int32) &&& 1 = 0 by decide) z, fun z => absurd (show (0 : Int32) &&& 2 = 0 by decide) z, fun z => absurd (show (0 : Int32) &&& 4 = 0 by decide) z⟩
      · unfold ZfC
        rw [if_pos rfl, ← hbx, nI_1, nI_1]
        rfl
    · rw [va_up_ne _ _ hmk, va_up_ne _ _ (by omega), va_up_ne _ _ hmk]
      exact RGS_mono hsub.1 (hr m hm)
  · show (cat o).length + (shf8 (va_up g k (clR v ts :: flt ts)) 8).length ≤ 3000
    omega
  · show va_up s.1 5 (s.1 5 + 1 - nI (g k).length) 5 = nI ((cat o).length + (shf8 (va_up g k (clR v ts :: flt ts)) 8).length)
    rw [va_up_self, h5, nI_1, nI_sub (by omega)]
    congr 1
    omega
  · exact clz_RST (s' := clS s k oo (nI (g k).length) q) hS (fun j hj => va_up_ne _ _ (by omega)) rfl _ _ _ _ _ _ _ _ _ _ _ _
