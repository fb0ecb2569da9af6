/-! places first, then the writing -/
def WFx (v : Int32) (c : List Rec) : Prop := ∃ k d, WF k v c d
theorem WFx_cons {v : Int32} {x : Rec} {t : List Rec} (h : WFx v (x :: t)) : ∃ c' t', t = c' ++ t' ∧ NK v (x, c') ∧ WFx x.2.1 c' ∧ WFx v t' := by
  obtain ⟨k, d, h⟩ := h
  cases k with
  | zero => exact absurd h.1 (by simp)
  | succ k =>
    obtain ⟨ts, h1, -, h2⟩ := h
    cases ts with
    | nil => cases h1
    | cons p ts =>
      have h1 : x :: t = p.1 :: (p.2 ++ flt ts) := h1
      injection h1 with h1 h3
      obtain ⟨h4, h5⟩ := h2 p List.mem_cons_self
      refine ⟨p.2, flt ts, h3, by rw [h1]; exact h4, by rw [h1]; exact ⟨k, _, h5⟩, k + 1, dmx ts, ts, rfl, rfl, fun q hq => h2 q (List.mem_cons_of_mem _ hq)⟩
theorem NK_nb {v : Int32} {x : Rec} {c' : List Rec} (h : NK v (x, c')) (h3 : ¬ x.1 0 = 3) : c' = [] := by
  rcases h.2.1 with z | z
  · exact absurd z.1 h3
  · exact z.2
theorem NK_sk {v : Int32} {F : Nat → Int32} {x : Rec} {c' : List Rec} (h : NK v (x, c')) (hs : skpX F x) : c' = [] := by
  by_cases h3 : x.1 0 = 3
  · unfold skpX at hs
    rw [if_pos h3] at hs
    have h1 : x.2.2.1 = c'.length + 1 := h.1
    exact List.length_eq_zero_iff.mp (by omega)
  · exact NK_nb h h3
def bgX (F : Nat → Int32) (x : Rec) : Nat → Int32 := bgF x.2.1 (x.1 1) (x.1 2) (x.1 3) (rgO F x.1).toInt32 (dnO F x.1).toInt32
def plO : Nat → (Nat → Int32) → List Rec → Prop
  | 0, _, _ => True
  | _ + 1, _, [] => True
  | n + 1, F, x :: t => ¬ badX F x ∧ plO n (bgX F x) (t.take (x.2.2.1 - 1)) ∧ plO n (advX F x) (t.drop (x.2.2.1 - 1))
theorem plO_nil (n : Nat) (F : Nat → Int32) : plO n F [] := by cases n <;> exact trivial
noncomputable def wbF (A : FD) : Nat → Nat → (Nat → Int32) → List Rec → WS → Option WS
  | 0, _, _, _, ws => some ws
  | _ + 1, _, _, [], ws => some ws
  | n + 1, lev, F, x :: t, ws => @ite _ (skpX F x) (Classical.propDecidable _) (wbF A n lev (advX F x) (t.drop (x.2.2.1 - 1)) ws) (match mvW ws (rgO F x.1).toInt32 (dnO F x.1).toInt32 with
    | none => none
    | some w1 => if x.1 0 = 3 then (match wbF A n (lev + 1) (bgX F x) (t.take (x.2.2.1 - 1)) (enW w1 (lev + 2)) with
        | none => none
        | some w2 => wbF A n lev (advX F x) (t.drop (x.2.2.1 - 1)) (leW w2 w1.1 w1.2.1)) else if x.1 0 = 1 then wbF A n lev (advX F x) (t.drop (x.2.2.1 - 1)) (ruW F w1 x.1) else wbF A n lev (advX F x) (t.drop (x.2.2.1 - 1)) (chW A w1 x.1 (fmX x)))
theorem wbF_nil (A : FD) (n lev : Nat) (F : Nat → Int32) (ws : WS) : wbF A n lev F [] ws = some ws := by cases n <;> rfl
section wb
variable {A : FD} {n lev : Nat} {F : Nat → Int32} {x : Rec} {c' t' : List Rec} {ws w1 w2 : WS} {v : Int32}
theorem sp_td (h : NK v (x, c')) : (c' ++ t').take (x.2.2.1 - 1) = c' ∧ (c' ++ t').drop (x.2.2.1 - 1) = t' := by
  have h1 : x.2.2.1 = c'.length + 1 := h.1
  rw [h1, Nat.add_sub_cancel]
  exact ⟨List.take_left' rfl, List.drop_left' rfl⟩
theorem plO_c (h : NK v (x, c')) : plO (n + 1) F (x :: (c' ++ t')) ↔ ¬ badX F x ∧ plO n (bgX F x) c' ∧ plO n (advX F x) t' := by
  show ¬ badX F x ∧ plO n (bgX F x) ((c' ++ t').take (x.2.2.1 - 1)) ∧ plO n (advX F x) ((c' ++ t').drop (x.2.2.1 - 1)) ↔ _
  rw [(sp_td h).1, (sp_td h).2]
theorem wb_skip (h : NK v (x, c')) (h2 : skpX F x) : wbF A (n + 1) lev F (x :: (c' ++ t')) ws = wbF A n lev (advX F x) t' ws := by
  refine (if_pos h2).trans ?_
  rw [(sp_td h).2]
theorem wb_mv (h2 : ¬ skpX F x) (h3 : mvW ws (rgO F x.1).toInt32 (dnO F x.1).toInt32 = none) : wbF A (n + 1) lev F (x :: t') ws = none := by
  refine (if_neg h2).trans ?_
  rw [h3]
theorem wb_box (h : NK v (x, c')) (h2 : ¬ skpX F x) (h3 : mvW ws (rgO F x.1).toInt32 (dnO F x.1).toInt32 = some w1) (h4 : x.1 0 = 3) : wbF A (n + 1) lev F (x :: (c' ++ t')) ws = match wbF A n (lev + 1) (bgX F x) c' (enW w1 (lev + 2)) with
        | none => none
        | some w2 => wbF A n lev (advX F x) t' (leW w2 w1.1 w1.2.1) := by
  refine (if_neg h2).trans ?_
  rw [h3]
  refine (if_pos h4).trans ?_
  rw [(sp_td h).1, (sp_td h).2]
theorem wb_rul (h : NK v (x, c')) (h2 : ¬ skpX F x) (h3 : mvW ws (rgO F x.1).toInt32 (dnO F x.1).toInt32 = some w1) (h4 : x.1 0 = 1) : wbF A (n + 1) lev F (x :: (c' ++ t')) ws = wbF A n lev (advX F x) t' (ruW F w1 x.1) := by
  refine (if_neg h2).trans ?_
  rw [h3]
  refine (if_neg (by rw [h4]; decide)).trans ((if_pos h4).trans ?_)
  rw [(sp_td h).2]
theorem wb_chr (h : NK v (x, c')) (h2 : ¬ skpX F x) (h3 : mvW ws (rgO F x.1).toInt32 (dnO F x.1).toInt32 = some w1) (h4 : ¬ x.1 0 = 3) (h5 : ¬ x.1 0 = 1) : wbF A (n + 1) lev F (x :: (c' ++ t')) ws = wbF A n lev (advX F x) t' (chW A w1 x.1 (fmX x)) := by
  refine (if_neg h2).trans ?_
  rw [h3]
  refine (if_neg h4).trans ((if_neg h5).trans ?_)
  rw [(sp_td h).2]
end wb
theorem i64_sub0 {a b : Int64} (h : a - b = 0) : a = b := by
  have : a - b + b = 0 + b := by rw [h]
  rw [Int64.sub_add_cancel, Int64.zero_add] at this
  exact this
theorem t64_inj {a b : Int32} (h : a.toInt64 = b.toInt64) : a = b := by
  have h1 := congrArg Int64.toInt h
  rw [Int32.toInt_toInt64, Int32.toInt_toInt64] at h1
  exact Int32.toInt_inj.mp h1
theorem goT_pl {x : Int32} {t : TR} (h : ¬ goA x t = 0) : (goT x t).1 = x := by
  unfold goA at h
  unfold goT
  by_cases h0 : gmv x t = 0
  · rw [if_pos h0]
    exact (t64_inj (i64_sub0 h0)).symm
  · rw [if_neg h0] at h ⊢
    by_cases h1 : iszl (gmv x t) = 0
    · rw [if_pos h1] at h; exact absurd rfl h
    · rw [if_neg h1]
      unfold gT1
      split <;> rfl
theorem mvW_pl {ws w1 : WS} {x y : Int32} (h : mvW ws x y = some w1) : w1.1.1 = x ∧ w1.2.1.1 = y := by
  obtain ⟨h1, h2, rfl⟩ := mvW_some h
  exact ⟨goT_pl h1, goT_pl h2⟩
theorem ab_pw {A : FD} : ∀ (n : Nat) {v : Int32} {c : List Rec} {lev : Nat} {F : Nat → Int32} {ws : WS}, WFx v c → c.length ≤ n → (plO n F c → abF A n lev F c ws = wbF A n lev F c ws) ∧ (¬ plO n F c → abF A n lev F c ws = none) := by
  intro n
  induction n with
  | zero => intro v c lev F ws _ _; exact ⟨fun _ => rfl, fun h => absurd trivial h⟩
  | succ n ih =>
    intro v c lev F ws hW hl
    cases c with
    | nil => exact ⟨fun _ => rfl, fun h => absurd trivial h⟩
    | cons x t =>
      obtain ⟨c', t', rfl, hN, hW1, hW2⟩ := WFx_cons hW
      have hlen : (x :: (c' ++ t')).length = c'.length + t'.length + 1 := by rw [List.length_cons, List.length_append]
      rw [hlen] at hl
      rw [plO_c hN]
      by_cases hb : badX F x
      · exact ⟨fun z => absurd hb z.1, fun _ => ab_bad hb⟩
      · by_cases hs : skpX F x
        · have hc := NK_sk hN hs
          subst hc
          have h2 := ih (lev := lev) (F := advX F x) (ws := ws) hW2 (by omega)
          rw [ab_skip hb hs, wb_skip hN hs]
          exact ⟨fun z => h2.1 z.2.2, fun z => h2.2 (fun y => z ⟨hb, plO_nil _ _, y⟩)⟩
        · cases hm : mvW ws (rgO F x.1).toInt32 (dnO F x.1).toInt32 with
          | none => rw [ab_mv hb hs hm, wb_mv hs hm]; exact ⟨fun _ => rfl, fun _ => rfl⟩
          | some w1 =>
            by_cases h3 : x.1 0 = 3
            · obtain ⟨e1, e2⟩ := mvW_pl hm
              have hsp : x.2.2.1 = c'.length + 1 := hN.1
              rw [ab_box hb hs hm h3, wb_box hN hs hm h3, e1, e2, (sp_td hN).1, (sp_td hN).2]
              have h1 := ih (lev := lev + 1) (F := bgX F x) (ws := enW w1 (lev + 2)) hW1 (by omega)
              have h2 := fun w2 => ih (lev := lev) (F := advX F x) (ws := w2) hW2 (by omega)
              show (_ → (match abF A n (lev + 1) (bgX F x) c' (enW w1 (lev + 2)) with
                | none => none
                | some w2 => abF A n lev (advX F x) t' (leW w2 w1.1 w1.2.1)) = _) ∧ (_ → (match abF A n (lev + 1) (bgX F x) c' (enW w1 (lev + 2)) with
                | none => none
                | some w2 => abF A n lev (advX F x) t' (leW w2 w1.1 w1.2.1)) = _)
              by_cases hp : plO n (bgX F x) c'
              · rw [h1.1 hp]
                cases hq : wbF A n (lev + 1) (bgX F x) c' (enW w1 (lev + 2)) with
                | none => exact ⟨fun _ => rfl, fun _ => rfl⟩
                | some w2 => exact ⟨fun z => (h2 _).1 z.2.2, fun z => (h2 _).2 (fun y => z ⟨hb, hp, y⟩)⟩
              · rw [h1.2 hp]
                exact ⟨fun z => absurd z.2.1 hp, fun _ => rfl⟩
            · have hc := NK_nb hN h3
              subst hc
              by_cases h1 : x.1 0 = 1
              · have h2 := ih (lev := lev) (F := advX F x) (ws := ruW F w1 x.1) hW2 (by omega)
                rw [ab_rul hb hs hm h1, wb_rul hN hs hm h1]
                exact ⟨fun z => h2.1 z.2.2, fun z => h2.2 (fun y => z ⟨hb, plO_nil _ _, y⟩)⟩
              · have h2 := ih (lev := lev) (F := advX F x) (ws := chW A w1 x.1 (fmX x)) hW2 (by omega)
                rw [ab_chr hb hs hm h3 h1, wb_chr hN hs hm h3 h1]
                exact ⟨fun z => h2.1 z.2.2, fun z => h2.2 (fun y => z ⟨hb, plO_nil _ _, y⟩)⟩
