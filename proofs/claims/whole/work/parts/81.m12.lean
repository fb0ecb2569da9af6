/-! SHIP: what is written, abstractly. ws: tracks, last font, used fonts, deepest, what was written -/
abbrev WS : Type := TR × TR × Int32 × Int32 × Nat × List (Int32 × Nat)
abbrev FD : Type := Nat → Nat → Int32
def mvW (ws : WS) (x y : Int32) : Option WS := if goA x ws.1 = 0 ∨ goA y ws.2.1 = 0 then none else some (goT x ws.1, goT y ws.2.1, ws.2.2.1, ws.2.2.2.1, ws.2.2.2.2.1, ws.2.2.2.2.2 ++ (goL 147 x ws.1 ++ goL 161 y ws.2.1))
def ftL (A : FD) (m : Nat) : List (Int32 × Nat) := [(243, 1), (nI m, 1), (0, 4), (A 0 m, 4), (A 1 m, 4), (0, 1), (1, 1), (fnC m, 1)]
def chL (A : FD) (ws : WS) (I : Nat → Int32) (m : Nat) : List (Int32 × Nat) := (if fus ws.2.2.2.1 (I 4) = 0 then ftL A m else []) ++ ((if I 4 = ws.2.2.1 then [] else [(171 + I 4, 1)]) ++ wl3 I)
def chW (A : FD) (ws : WS) (I : Nat → Int32) (m : Nat) : WS := ((ws.1.1 + I 1, ws.1.2), ws.2.1, I 4, (if fus ws.2.2.2.1 (I 4) = 0 then ws.2.2.2.1 ||| 1 <<< (nI m &&& 31) else ws.2.2.2.1), ws.2.2.2.2.1, ws.2.2.2.2.2 ++ chL A ws I m)
def ruW (F : Nat → Int32) (ws : WS) (I : Nat → Int32) : WS := (if F 5 = 0 then (ws.1.1 + I 1, ws.1.2) else ws.1, ws.2.1, ws.2.2.1, ws.2.2.2.1, ws.2.2.2.2.1, ws.2.2.2.2.2 ++ ruL F I)
def enW (ws : WS) (lev : Nat) : WS := (ws.1, ws.2.1, ws.2.2.1, ws.2.2.2.1, max ws.2.2.2.2.1 lev, ws.2.2.2.2.2 ++ [(141, 1)])
def leW (ws : WS) (t0 t1 : TR) : WS := (t0, t1, ws.2.2.1, ws.2.2.2.1, ws.2.2.2.2.1, ws.2.2.2.2.2 ++ [(142, 1)])
def badX (F : Nat → Int32) (x : Rec) : Prop := wiZ F x.1 ∨ (if x.1 0 = 3 then csb F x.1 x.2.1 (x.1 2) (dnO F x.1) else csn F x.1) = 0
def skpX (F : Nat → Int32) (x : Rec) : Prop := if x.1 0 = 3 then x.2.2.1 = 1 else iwn F x.1 = 0
theorem badX_d (F : Nat → Int32) (x : Rec) : badX F x ∨ ¬ badX F x := Classical.em _
def advX (F : Nat → Int32) (x : Rec) : Nat → Int32 := va_up F 11 (beO F x.1).toInt32
def fmX (x : Rec) : Nat := (x.1 4).toNatClampNeg
noncomputable def abF (A : FD) : Nat → Nat → (Nat → Int32) → List Rec → WS → Option WS
  | 0, _, _, _, ws => some ws
  | _ + 1, _, _, [], ws => some ws
  | n + 1, lev, F, x :: t, ws => @ite _ (badX F x) (Classical.propDecidable _) none (@ite _ (skpX F x) (Classical.propDecidable _) (abF A n lev (advX F x) t ws) (match mvW ws (rgO F x.1).toInt32 (dnO F x.1).toInt32 with
    | none => none
    | some w1 => if x.1 0 = 3 then (match abF A n (lev + 1) (bgF x.2.1 (x.1 1) (x.1 2) (x.1 3) w1.1.1 w1.2.1.1) (t.take (x.2.2.1 - 1)) (enW w1 (lev + 2)) with
        | none => none
        | some w2 => abF A n lev (advX F x) (t.drop (x.2.2.1 - 1)) (leW w2 w1.1 w1.2.1)) else if x.1 0 = 1 then abF A n lev (advX F x) t (ruW F w1 x.1) else abF A n lev (advX F x) t (chW A w1 x.1 (fmX x))))
section ab
variable {A : FD} {n lev : Nat} {F : Nat → Int32} {x : Rec} {t : List Rec} {ws w1 w2 : WS}
theorem ab_bad (h : badX F x) : abF A (n + 1) lev F (x :: t) ws = none := if_pos h
theorem ab_skip (h : ¬ badX F x) (h2 : skpX F x) : abF A (n + 1) lev F (x :: t) ws = abF A n lev (advX F x) t ws := (if_neg h).trans (if_pos h2)
theorem ab_mv (h : ¬ badX F x) (h2 : ¬ skpX F x) (h3 : mvW ws (rgO F x.1).toInt32 (dnO F x.1).toInt32 = none) : abF A (n + 1) lev F (x :: t) ws = none := by
  refine (if_neg h).trans ((if_neg h2).trans ?_)
  rw [h3]
theorem ab_box (h : ¬ badX F x) (h2 : ¬ skpX F x) (h3 : mvW ws (rgO F x.1).toInt32 (dnO F x.1).toInt32 = some w1) (h4 : x.1 0 = 3) : abF A (n + 1) lev F (x :: t) ws = match abF A n (lev + 1) (bgF x.2.1 (x.1 1) (x.1 2) (x.1 3) w1.1.1 w1.2.1.1) (t.take (x.2.2.1 - 1)) (enW w1 (lev + 2)) with
        | none => none
        | some w2 => abF A n lev (advX F x) (t.drop (x.2.2.1 - 1)) (leW w2 w1.1 w1.2.1) := by
  refine (if_neg h).trans ((if_neg h2).trans ?_)
  rw [h3]
  exact if_pos h4
theorem ab_rul (h : ¬ badX F x) (h2 : ¬ skpX F x) (h3 : mvW ws (rgO F x.1).toInt32 (dnO F x.1).toInt32 = some w1) (h4 : x.1 0 = 1) : abF A (n + 1) lev F (x :: t) ws = abF A n lev (advX F x) t (ruW F w1 x.1) := by
  refine (if_neg h).trans ((if_neg h2).trans ?_)
  rw [h3]
  exact (if_neg (by rw [h4]; decide)).trans (if_pos h4)
theorem ab_chr (h : ¬ badX F x) (h2 : ¬ skpX F x) (h3 : mvW ws (rgO F x.1).toInt32 (dnO F x.1).toInt32 = some w1) (h4 : ¬ x.1 0 = 3) (h5 : ¬ x.1 0 = 1) : abF A (n + 1) lev F (x :: t) ws = abF A n lev (advX F x) t (chW A w1 x.1 (fmX x)) := by
  refine (if_neg h).trans ((if_neg h2).trans ?_)
  rw [h3]
  exact (if_neg h4).trans (if_neg h5)
end ab
/-! the class's state in the middle of a page -/
def St (A : FD) (F0 : FI) (s : PS) (i : Nat) (F : Nat → Int32) (q : Option Nat) (ws : WS) : Prop := i < xN s ∧ (xG s i).1 = F ∧ (xG s i).2.1 = q ∧ xT s 0 = ws.1 ∧ xT s 1 = ws.2.1 ∧ s.1 25 = ws.2.2.1 ∧ s.1 30 = ws.2.2.2.1 ∧ s.1 26 = nI ws.2.2.2.2.1 ∧ s.1 27 = 0 ∧ xF s = fwr F0 ws.2.2.2.2.2 ∧ s.2.2.1 = A
/-- what a run leaves as it was: frames below i among it -/
def OS (i : Nat) (s s' : PS) : Prop := s'.2.1 = s.2.1 ∧ s'.2.2.1 = s.2.2.1 ∧ (∀ j, j ≠ 25 → j ≠ 26 → j ≠ 27 → j ≠ 30 → s'.1 j = s.1 j) ∧ (∀ j, j < i → xG s' j = xG s j) ∧ xN s ≤ xN s'
theorem OS_rf (i : Nat) (s : PS) : OS i s s := ⟨rfl, rfl, fun _ _ _ _ _ => rfl, fun _ _ => rfl, Nat.le_refl _⟩
theorem OS_tr {i : Nat} {s s' s'' : PS} (h : OS i s s') (h' : OS i s' s'') : OS i s s'' := ⟨h'.1.trans h.1, h'.2.1.trans h.2.1, fun j a b c d => (h'.2.2.1 j a b c d).trans (h.2.2.1 j a b c d), fun j hj => (h'.2.2.2.1 j hj).trans (h.2.2.2.1 j hj), Nat.le_trans h.2.2.2.2 h'.2.2.2.2⟩
theorem OS_le {i k : Nat} {s s' : PS} (h : OS k s s') (hik : i ≤ k) : OS i s s' := ⟨h.1, h.2.1, h.2.2.1, fun j hj => h.2.2.2.1 j (by omega), h.2.2.2.2⟩
section st
variable {A : FD} {F0 : FI} {s : PS} {i : Nat} {F : Nat → Int32} {q : Option Nat} {ws : WS}
theorem St_nx (h : St A F0 s i F q ws) (nx : Option Nat) : St A F0 (nxS s i nx) i F nx ws ∧ OS i s (nxS s i nx) := by
  obtain ⟨h1, h2, h3, h4⟩ := h
  refine ⟨⟨h1, ?_, ?_, h4⟩, rfl, rfl, fun _ _ _ _ _ => rfl, fun j hj => va_up_ne _ _ (by omega), Nat.le_refl _⟩
  · show (va_up (xG s) i _ i).1 = F; rw [va_up_self]; exact h2
  · show (va_up (xG s) i _ i).2.1 = nx; rw [va_up_self]
theorem St_A (h : St A F0 s i F q ws) (x : Rec) : St A F0 (wiA s i x.1) i (advX F x) q ws ∧ OS i s (wiA s i x.1) := by
  obtain ⟨h1, h2, h3, h4⟩ := h
  refine ⟨⟨h1, ?_, ?_, h4⟩, rfl, rfl, fun _ _ _ _ _ => rfl, fun j hj => va_up_ne _ _ (by omega), Nat.le_refl _⟩
  · show (va_up (xG s) i _ i).1 = advX F x; rw [va_up_self]; unfold advX; rw [← h2]
  · show (va_up (xG s) i _ i).2.1 = q; rw [va_up_self]; exact h3
theorem uI_s (s : PS) (k : Nat) (v : Int32) : (uI s k v).1 k = v := va_up_self s.1 k v
theorem uI_n (s : PS) {k j : Nat} (v : Int32) (h : j ≠ k) : (uI s k v).1 j = s.1 j := va_up_ne s.1 v h
theorem fnS_n (s : PS) (m : Nat) {j : Nat} (h : j ≠ 30) : (fnS s m).1 j = s.1 j := uI_n s _ h
theorem fnS_s (s : PS) (m : Nat) : (fnS s m).1 30 = s.1 30 ||| 1 <<< (nI m &&& 31) := uI_s s 30 _
theorem uT_s (s : PS) (k : Nat) (v : TR) : xT (uT s k v) k = v := va_up_self (xT s) k v
theorem uT_n (s : PS) {k j : Nat} (v : TR) (h : j ≠ k) : xT (uT s k v) j = xT s j := va_up_ne (xT s) v h
theorem mvW_some {ws w1 : WS} {x y : Int32} (h : mvW ws x y = some w1) : ¬ goA x ws.1 = 0 ∧ ¬ goA y ws.2.1 = 0 ∧ w1 = (goT x ws.1, goT y ws.2.1, ws.2.2.1, ws.2.2.2.1, ws.2.2.2.2.1, ws.2.2.2.2.2 ++ (goL 147 x ws.1 ++ goL 161 y ws.2.1)) := by
  unfold mvW at h
  split at h
  · cases h
  · next hh => exact ⟨fun z => hh (Or.inl z), fun z => hh (Or.inr z), (Option.some.inj h).symm⟩
theorem mvW_none {ws : WS} {x y : Int32} (h : mvW ws x y = none) : goA x ws.1 = 0 ∨ goA y ws.2.1 = 0 := by
  unfold mvW at h
  split at h
  · next hh => exact hh
  · cases h
theorem St_mv (h : St A F0 s i F q ws) {x y : Int32} {w1 : WS} (hm : mvW ws x y = some w1) : St A F0 (mvS s x y) i F q w1 ∧ OS i s (mvS s x y) := by
  obtain ⟨h1, h2, h3, h4, h5, h6, h7, h8, h9, h10, h11⟩ := h
  obtain ⟨m1, m2, rfl⟩ := mvW_some hm
  have e : mvS s x y = goS (goS s 0 147 x) 1 161 y := by
    unfold mvS
    rw [if_neg (by rw [h4]; exact m1), if_neg (by rw [h5]; exact m2)]
  rw [e]
  refine ⟨⟨h1, h2, h3, ?_, ?_, h6, h7, h8, h9, ?_, h11⟩, rfl, rfl, fun _ _ _ _ _ => rfl, fun _ _ => rfl, Nat.le_refl _⟩
  · show va_up (va_up (xT s) 0 (goT x (xT s 0))) 1 (goT y (va_up (xT s) 0 (goT x (xT s 0)) 1)) 0 = _
    rw [va_up_ne _ _ (by decide), va_up_self, h4]
  · show va_up (va_up (xT s) 0 (goT x (xT s 0))) 1 (goT y (va_up (xT s) 0 (goT x (xT s 0)) 1)) 1 = _
    rw [va_up_self, va_up_ne _ _ (by decide), h5]
  · show fwr (fwr (xF s) (goL 147 x (xT s 0))) (goL 161 y (va_up (xT s) 0 (goT x (xT s 0)) 1)) = _
    rw [va_up_ne _ _ (by decide), h4, h5, h10, fwr_app, fwr_app]
/-- a move that fails -/
theorem St_mvN (h : St A F0 s i F q ws) {x y : Int32} (hm : mvW ws x y = none) : (mvS s x y).1 27 = 1 ∧ OS i s (mvS s x y) := by
  obtain ⟨h1, h2, h3, h4, h5, -⟩ := h
  unfold mvS
  by_cases h0 : goA x (xT s 0) = 0
  · rw [if_pos h0]
    exact ⟨uI_s _ _ _, rfl, rfl, fun j _ _ hj _ => uI_n _ _ hj, fun _ _ => rfl, Nat.le_refl _⟩
  · have h9 : goA y (xT s 1) = 0 := by
      rcases mvW_none hm with z | z
      · rw [h4] at h0; exact absurd z h0
      · rw [h5]; exact z
    rw [if_neg h0, if_pos h9]
    exact ⟨uI_s _ _ _, rfl, rfl, fun j _ _ hj _ => uI_n _ _ hj, fun _ _ => rfl, Nat.le_refl _⟩
theorem ruS_27 (s : PS) (F I : Nat → Int32) : (ruS s F I).1 = s.1 ∧ ∀ i, OS i s (ruS s F I) := by
  unfold ruS
  split
  · exact ⟨rfl, fun i => ⟨rfl, rfl, fun _ _ _ _ _ => rfl, fun _ _ => rfl, Nat.le_refl _⟩⟩
  · exact ⟨rfl, fun i => ⟨rfl, rfl, fun _ _ _ _ _ => rfl, fun _ _ => rfl, Nat.le_refl _⟩⟩
theorem St_ru (h : St A F0 s i F q ws) (I : Nat → Int32) : St A F0 (ruS s F I) i F q (ruW F ws I) := by
  obtain ⟨h1, h2, h3, h4, h5, h6, h7, h8, h9, h10, h11⟩ := h
  unfold ruS ruW
  by_cases hF : F 5 = 0
  · rw [if_pos hF, if_pos hF]
    refine ⟨h1, h2, h3, ?_, ?_, h6, h7, h8, h9, ?_, h11⟩
    · show va_up (xT s) 0 ((xT s 0).1 + I 1, (xT s 0).2) 0 = _
      rw [va_up_self, h4]
    · show va_up (xT s) 0 ((xT s 0).1 + I 1, (xT s 0).2) 1 = _
      rw [va_up_ne _ _ (by decide)]; exact h5
    · show fwr (xF s) (ruL F I) = _; rw [h10, fwr_app]
  · rw [if_neg hF, if_neg hF]
    refine ⟨h1, h2, h3, h4, h5, h6, h7, h8, h9, ?_, h11⟩
    show fwr (xF s) (ruL F I) = _; rw [h10, fwr_app]
theorem wc3_S (s : PS) (I : Nat → Int32) : (wc3 s I).1 = s.1 ∧ (wc3 s I).2.1 = s.2.1 ∧ (wc3 s I).2.2.1 = s.2.2.1 ∧ xT (wc3 s I) = va_up (xT s) 0 ((xT s 0).1 + I 1, (xT s 0).2) ∧ xG (wc3 s I) = xG s ∧ xN (wc3 s I) = xN s := by
  unfold wc3
  split <;> exact ⟨rfl, rfl, rfl, rfl, rfl, rfl⟩
theorem wc2_S (s : PS) (I : Nat → Int32) : (wc2 s I).1 = (if I 4 = s.1 25 then s.1 else va_up s.1 25 (I 4)) ∧ (wc2 s I).2.1 = s.2.1 ∧ (wc2 s I).2.2.1 = s.2.2.1 ∧ xT (wc2 s I) = va_up (xT s) 0 ((xT s 0).1 + I 1, (xT s 0).2) ∧ xG (wc2 s I) = xG s ∧ xN (wc2 s I) = xN s := by
  unfold wc2
  by_cases h : I 4 = s.1 25
  · rw [if_pos h, if_pos h]; exact wc3_S s I
  · rw [if_neg h, if_neg h]
    have := wc3_S (uI (uF s (fadd (xF s) (171 + I 4) 1)) 25 (I 4)) I
    exact this
theorem wc1_S (s : PS) (I : Nat → Int32) (m : Nat) : (wc1 s I m).1 27 = s.1 27 ∧ (wc1 s I m).1 26 = s.1 26 ∧ (wc1 s I m).1 25 = I 4 ∧ (wc1 s I m).1 30 = (if fus (s.1 30) (I 4) = 0 then s.1 30 ||| 1 <<< (nI m &&& 31) else s.1 30) ∧ (∀ j, j ≠ 25 → j ≠ 30 → (wc1 s I m).1 j = s.1 j) ∧ (wc1 s I m).2.1 = s.2.1 ∧ (wc1 s I m).2.2.1 = s.2.2.1 ∧ xT (wc1 s I m) = va_up (xT s) 0 ((xT s 0).1 + I 1, (xT s 0).2) ∧ xG (wc1 s I m) = xG s ∧ xN (wc1 s I m) = xN s := by
  have key : ∀ s' : PS, (wc2 s' I).1 25 = I 4 ∧ ∀ j, j ≠ 25 → (wc2 s' I).1 j = s'.1 j := fun s' => by
    rw [(wc2_S s' I).1]
    by_cases h : I 4 = s'.1 25
    · rw [if_pos h]; exact ⟨h.symm, fun _ _ => rfl⟩
    · rw [if_neg h]; exact ⟨va_up_self _ _ _, fun j hj => va_up_ne _ _ hj⟩
  unfold wc1
  by_cases h : fus (s.1 30) (I 4) = 0
  · rw [if_pos h, if_pos h]
    have k := key (fnS s m)
    have w := wc2_S (fnS s m) I
    refine ⟨(k.2 27 (by decide)).trans (fnS_n s m (by decide)), (k.2 26 (by decide)).trans (fnS_n s m (by decide)), k.1, (k.2 30 (by decide)).trans (fnS_s s m), fun j h1 h2 => (k.2 j h1).trans (fnS_n s m h2), w.2.1, w.2.2.1, w.2.2.2.1, w.2.2.2.2.1, w.2.2.2.2.2⟩
  · rw [if_neg h, if_neg h]
    have k := key s
    have w := wc2_S s I
    exact ⟨k.2 27 (by decide), k.2 26 (by decide), k.1, k.2 30 (by decide), fun j h1 h2 => k.2 j h1, w.2⟩
theorem St_ch (h : St A F0 s i F q ws) (I : Nat → Int32) (m : Nat) : St A F0 (wc1 s I m) i F q (chW A ws I m) ∧ OS i s (wc1 s I m) := by
  obtain ⟨h1, h2, h3, h4, h5, h6, h7, h8, h9, h10, h11⟩ := h
  obtain ⟨a1, a2, a3, a4, a5, a6, a7, a8, a9, a10⟩ := wc1_S s I m
  refine ⟨⟨by rw [a10]; exact h1, by rw [a9]; exact h2, by rw [a9]; exact h3, ?_, ?_, a3, ?_, a2.trans h8, a1.trans h9, ?_, a7.trans h11⟩, a6, a7, fun j b1 b2 b3 b4 => a5 j b1 b4, fun j _ => by rw [a9], by rw [a10]; exact Nat.le_refl _⟩
  · rw [a8, va_up_self, h4]; rfl
  · rw [a8, va_up_ne _ _ (by decide)]; exact h5
  · rw [a4, h7]; rfl
  · have hf : fnL s m = ftL A m := by unfold fnL ftL; rw [h11]
    have hL : wl1 s I m = chL A ws I m := by
      unfold wl1 chL wl2
      rw [h6, h7, hf]
      by_cases hx : fus ws.2.2.2.1 (I 4) = 0
      · rw [if_pos hx, if_pos hx]
        by_cases hy : I 4 = ws.2.2.1
        · rw [if_pos hy, if_pos hy]; rfl
        · rw [if_neg hy, if_neg hy]; rfl
      · rw [if_neg hx, if_neg hx]
        by_cases hy : I 4 = ws.2.2.1
        · rw [if_pos hy, if_pos hy]; rfl
        · rw [if_neg hy, if_neg hy]; rfl
    rw [wc1_F, h10, ← fwr_app, hL]
    rfl
theorem inS_S (s : PS) (i : Nat) : (inS s i).1 = s.1 ∧ (inS s i).2.1 = s.2.1 ∧ (inS s i).2.2.1 = s.2.2.1 ∧ xT (inS s i) = xT s ∧ (∀ j, j ≠ i + 1 → xG (inS s i) j = xG s j) := by
  unfold inS
  split
  · exact ⟨rfl, rfl, rfl, rfl, fun _ _ => rfl⟩
  · exact ⟨rfl, rfl, rfl, rfl, fun j hj => va_up_ne _ _ hj⟩
/-- into a box: frame i + 1 begins, frame i stays -/
theorem St_en (h : St A F0 s i F q ws) (v w h' d : Int32) (fo : Option Nat) (hlt : ws.2.2.2.2.1 < 10000 ∧ i < 10000) : St A F0 (enS (inS s i) (i + 1) v w h' d fo) (i + 1) (bgF v w h' d ws.1.1 ws.2.1.1) fo (enW ws (i + 2)) ∧ OS (i + 1) s (enS (inS s i) (i + 1) v w h' d fo) ∧ (xG (enS (inS s i) (i + 1) v w h' d fo) (i + 1)).2.2 = (ws.1, ws.2.1) := by
  obtain ⟨h1, h2, h3, h4, h5, h6, h7, h8, h9, h10, h11⟩ := h
  obtain ⟨b1, b2, b3, b4, b5⟩ := inS_S s i
  have hN := inS_N h1
  have e4 : xT (inS s i) 0 = ws.1 := by rw [b4]; exact h4
  have e5 : xT (inS s i) 1 = ws.2.1 := by rw [b4]; exact h5
  have hG : xG (enS (inS s i) (i + 1) v w h' d fo) = va_up (xG (inS s i)) (i + 1) (bgF v w h' d (xT (inS s i) 0).1 (xT (inS s i) 1).1, fo, xT (inS s i) 0, xT (inS s i) 1) := rfl
  have h1' : ∀ j, j ≠ 26 → (enS (inS s i) (i + 1) v w h' d fo).1 j = s.1 j := fun j hj => by
    show va_up (inS s i).1 26 _ j = _
    rw [va_up_ne _ _ hj, b1]
  refine ⟨⟨by rw [enS_N]; exact hN.2, ?_, ?_, e4, e5, (h1' 25 (by decide)).trans h6, (h1' 30 (by decide)).trans h7, ?_, (h1' 27 (by decide)).trans h9, ?_, b3.trans h11⟩, ⟨b2, b3, fun j _ hj _ _ => h1' j hj, fun j hj => ?_, by rw [enS_N]; exact hN.1⟩, ?_⟩
  · rw [hG, va_up_self, e4, e5]
  · rw [hG, va_up_self]
  · show va_up (inS s i).1 26 (if (inS s i).1 26 < nI (i + 1 + 1) then nI (i + 1 + 1) else (inS s i).1 26) 26 = nI (max ws.2.2.2.2.1 (i + 2))
    rw [va_up_self, b1, h8]
    by_cases hh : ws.2.2.2.2.1 < i + 2
    · rw [if_pos (nI_lt hh (by omega)), Nat.max_eq_right (by omega)]
    · rw [if_neg (nI_nlt (by omega) (by omega)), Nat.max_eq_left (by omega)]
  · rw [enS_F, inS_F, h10, ← fwr_app]; rfl
  · rw [hG, va_up_ne _ _ (by omega), b5 j (by omega)]
  · rw [hG, va_up_self, e4, e5]
/-- out of it -/
theorem St_le {F' : Nat → Int32} {q' : Option Nat} (h : St A F0 s (i + 1) F' q' ws) {t0 t1 : TR} (hs : (xG s (i + 1)).2.2 = (t0, t1)) (h2 : (xG s i).1 = F) (h3 : (xG s i).2.1 = q) : St A F0 (leS s (i + 1)) i F q (leW ws t0 t1) ∧ OS (i + 1) s (leS s (i + 1)) := by
  obtain ⟨h1, -, -, h4, h5, h6, h7, h8, h9, h10, h11⟩ := h
  refine ⟨⟨by rw [leS_N]; omega, h2, h3, ?_, ?_, h6, h7, h8, h9, ?_, h11⟩, rfl, rfl, fun _ _ _ _ _ => rfl, fun _ _ => rfl, Nat.le_refl _⟩
  · refine (uT_n _ _ (by decide)).trans ((uT_s _ 0 _).trans ?_)
    rw [hs]
    rfl
  · refine (uT_s _ 1 _).trans ?_
    rw [hs]
    rfl
  · rw [leS_F, h10, ← fwr_app]; rfl
end st
