/-! the reference's shelf and open lists -/
def cat : List (Int32 × List TRE) → List Rec
  | [] => []
  | vt :: o => cat o ++ flt vt.2
def BG (r : RS) : List (Int32 × List TRE) → Prop
  | [] => True
  | vt :: o => gB r 9 o.length = nI (cat o).length ∧ gB r 10 o.length = vt.1 ∧ BG r o
theorem BG_cong {r r' : RS} : ∀ {ops : List (Int32 × List TRE)}, (∀ i, i < ops.length → gB r' 9 i = gB r 9 i ∧ gB r' 10 i = gB r 10 i) → BG r ops → BG r' ops := by
  intro ops
  induction ops with
  | nil => intro _ _; exact trivial
  | cons vt o ih =>
    intro h hb
    have h0 := h o.length (Nat.lt_succ_self _)
    exact ⟨h0.1.trans hb.1, h0.2.trans hb.2.1, ih (fun i hi => h i (Nat.lt_succ_of_lt hi)) hb.2.2⟩
def RR (r : RS) (g : Nat → List Rec) (ops : List (Int32 × List TRE)) : Prop := ops.length ≤ 100 ∧ ((cat ops).length ≤ 3000 ∧ (shf8 g 8).length ≤ 3000) ∧ gF r 8 = nI ops.length ∧ gF r 11 = nI (cat ops).length ∧ RWs r 0 (cat ops) ∧ BG r ops ∧ (∀ k, k < 8 → gB r 12 k = nI (g k).length) ∧ RWs r 3100 (shf8 g 8)
theorem RR_cong {r r' : RS} {g : Nat → List Rec} {ops : List (Int32 × List TRE)} (h : RR r g ops) (h8 : gF r' 8 = gF r 8) (h11 : gF r' 11 = gF r 11) (hB : ∀ j, (1 ≤ j ∧ j ≤ 12) → gB r' j = gB r j) : RR r' g ops := by
  obtain ⟨a1, a2, a3, a4, a5, a6, a7, a8⟩ := h
  refine ⟨a1, a2, h8.trans a3, h11.trans a4, RWs_sh a5 (fun i hi j h1 h2 => by rw [hB j ⟨h1, by omega⟩]), BG_cong (fun i hi => by rw [hB 9 (by decide), hB 10 (by decide)]; exact ⟨rfl, rfl⟩) a6, fun k hk => by rw [hB 12 (by decide)]; exact a7 k hk, RWs_sh a8 (fun i hi j h1 h2 => by rw [hB j ⟨h1, by omega⟩])⟩
theorem RR_0 {r : RS} {g : Nat → List Rec} {ops : List (Int32 × List TRE)} (h : RR r g ops) (v : Int32) : RR (sF r 0 v) g ops := RR_cong h rfl rfl (fun _ _ => rfl)
theorem sum_R {r : RS} {g : Nat → List Rec} (h : ∀ k, k < 8 → gB r 12 k = nI (g k).length) : ∀ k, k ≤ 8 → bx_sum (gB r 12) k = nI (shf8 g k).length := by
  intro k
  induction k with
  | zero => intro _; rfl
  | succ k ih =>
    intro hk
    show bx_sum (gB r 12) k + gB r 12 k = nI (shf8 g k ++ g k).length
    rw [ih (by omega), h k (by omega), nI_add, List.length_append]
theorem stt_R {r : RS} {g : Nat → List Rec} (h : ∀ k, k < 8 → gB r 12 k = nI (g k).length) {k : Nat} (hk : k ≤ 8) : stt r k = nI (3100 + (shf8 g k).length) := by
  unfold stt
  rw [sum_R h k hk, show (3100 : Int32) = nI 3100 by decide, nI_add]
theorem shv_R {r : RS} {g : Nat → List Rec} (h : ∀ k, k < 8 → gB r 12 k = nI (g k).length) : shv r = nI (shf8 g 8).length := sum_R h 8 (Nat.le_refl _)
theorem hrm_R {r : RS} {g : Nat → List Rec} {ops : List (Int32 × List TRE)} (h : RR r g ops) {m : Nat} (hm : m < 10000) : hrm r (nI m) = if (cat ops).length + (shf8 g 8).length + m ≤ 3000 then 1 else 0 := by
  obtain ⟨a1, a2, a3, a4, a5, a6, a7, a8⟩ := h
  unfold hrm
  rw [a4, shv_R a7, nI_add, nI_add, show (3000 : Int32) = nI 3000 by decide]
  by_cases h : (cat ops).length + (shf8 g 8).length + m ≤ 3000
  · rw [if_pos h, if_pos ((nI_leI (by omega) (by decide)).mpr h)]
  · rw [if_neg h, if_neg (fun z => h ((nI_leI (by omega) (by decide)).mp z))]
theorem shf8_le (g : Nat → List Rec) {k : Nat} (hk : k < 8) : (shf8 g k).length + (g k).length ≤ (shf8 g 8).length := by
  rw [shf8_8 g hk, List.length_append, List.length_append]
  omega
/-- open -/
theorem RR_open {r : RS} {g : Nat → List Rec} {ops : List (Int32 × List TRE)} (h : RR r g ops) {b : Int32} (hb : vp_nar .boolean b = b) (hl : ops.length < 100) : RR (opn r ops.length b) g ((b, []) :: ops) := by
  obtain ⟨a1, a2, a3, a4, a5, a6, a7, a8⟩ := h
  have hc : cat ((b, ([] : List TRE)) :: ops) = cat ops := by show cat ops ++ [] = _; rw [List.append_nil]
  have hB : ∀ j i, gB (opn r ops.length b) j i = if j = 10 ∧ i = ops.length then b else if j = 9 ∧ i = ops.length then gF r 11 else gB r j i := fun j i => by
    unfold opn
    rw [if_neg (by omega), sF_BB, w1_BB, w1_BB, hb]
    rfl
  refine ⟨by show ops.length + 1 ≤ 100; omega, by rw [hc]; exact a2, ?_, ?_, ?_, ⟨?_, ?_, ?_⟩, ?_, ?_⟩
  · unfold opn; rw [if_neg (by omega)]; rfl
  · unfold opn; rw [if_neg (by omega), hc]; exact a4
  · rw [hc]; exact RWs_sh a5 (fun i hi j h1 h2 => by rw [hB, if_neg (by omega), if_neg (by omega)])
  · rw [hB, if_neg (by omega), if_pos ⟨rfl, rfl⟩]; exact a4
  · rw [hB, if_pos ⟨rfl, rfl⟩]
  · exact BG_cong (fun i hi => ⟨by rw [hB, if_neg (by omega), if_neg (by omega)], by rw [hB, if_neg (by omega), if_neg (by omega)]⟩) a6
  · intro k hk; rw [hB, if_neg (by omega), if_neg (by omega)]; exact a7 k hk
  · exact RWs_sh a8 (fun i hi j h1 h2 => by rw [hB, if_neg (by omega), if_neg (by omega)])
theorem put1_B (r : RS) (e : Nat) (k w h d s c : Int32) (j i : Nat) : gB (put1 r e k w h d s c) j i = if i = e ∧ 1 ≤ j ∧ j ≤ 7 then (if j = 1 then k else if j = 2 then w else if j = 3 then h else if j = 4 then d else if j = 5 then s else if j = 6 then c else 1) else gB r j i := by
  unfold put1
  rw [sF_BB, w1_BB, w1_BB, w1_BB, w1_BB, w1_BB, w1_BB, w1_BB]
  by_cases hi : i = e
  · subst hi
    have hj : j = 1 ∨ j = 2 ∨ j = 3 ∨ j = 4 ∨ j = 5 ∨ j = 6 ∨ j = 7 ∨ (j < 1 ∨ 7 < j) := by omega
    rcases hj with rfl | rfl | rfl | rfl | rfl | rfl | rfl | hj
    · simp
    · simp
    · simp
    · simp
    · simp
    · simp
    · simp
    · rw [if_neg (by omega), if_neg (by omega), if_neg (by omega), if_neg (by omega), if_neg (by omega), if_neg (by omega), if_neg (by omega), if_neg (by omega)]
  · rw [if_neg (by omega), if_neg (by omega), if_neg (by omega), if_neg (by omega), if_neg (by omega), if_neg (by omega), if_neg (by omega), if_neg (by omega)]
/-- an item joins -/
theorem RR_add {r : RS} {g : Nat → List Rec} {v : Int32} {ts : List TRE} {o : List (Int32 × List TRE)} (h : RR r g ((v, ts) :: o)) {x : Rec} {k w h' d s c : Int32} (hx : rC x 1 = k ∧ rC x 2 = w ∧ rC x 3 = h' ∧ rC x 4 = d ∧ rC x 5 = s ∧ rC x 6 = c ∧ rC x 7 = 1) (hl : (cat ((v, ts) :: o)).length + 1 ≤ 3000) : RR (put1 (sF r 0 0) (cat ((v, ts) :: o)).length k w h' d s c) g ((v, ts ++ [(x, [])]) :: o) := by
  obtain ⟨a1, a2, a3, a4, a5, a6, a7, a8⟩ := h
  have hc : cat ((v, ts ++ [(x, ([] : List Rec))]) :: o) = cat ((v, ts) :: o) ++ [x] := by show cat o ++ flt (ts ++ [(x, [])]) = cat o ++ flt ts ++ [x]; rw [flt_app, List.append_assoc]; rfl
  have hB := put1_B (sF r 0 0) (cat ((v, ts) :: o)).length k w h' d s c
  have hlt : (cat ((v, ts) :: o)).length < 3000 := by omega
  refine ⟨a1, ⟨by rw [hc, List.length_append]; exact hl, a2.2⟩, a3, ?_, ?_, ?_, ?_, ?_⟩
  · rw [hc, List.length_append]; rfl
  · rw [hc, RWs_app]
    refine ⟨RWs_sh a5 (fun i hi j h1 h2 => by rw [hB, if_neg (by omega)]; rfl), fun j h1 h2 => ?_, trivial⟩
    rw [hB, if_pos ⟨by omega, h1, h2⟩]
    obtain ⟨x1, x2, x3, x4, x5, x6, x7⟩ := hx
    have hj : j = 1 ∨ j = 2 ∨ j = 3 ∨ j = 4 ∨ j = 5 ∨ j = 6 ∨ j = 7 := by omega
    rcases hj with rfl | rfl | rfl | rfl | rfl | rfl | rfl
    · exact x1.symm
    · exact x2.symm
    · exact x3.symm
    · exact x4.symm
    · exact x5.symm
    · exact x6.symm
    · exact x7.symm
  · refine ⟨?_, ?_, BG_cong (fun i hi => ⟨?_, ?_⟩) a6.2.2⟩
    · rw [hB, if_neg (by omega)]; exact a6.1
    · rw [hB, if_neg (by omega)]; exact a6.2.1
    · rw [hB, if_neg (by omega)]; rfl
    · rw [hB, if_neg (by omega)]; rfl
  · intro k hk; rw [hB, if_neg (by omega)]; exact a7 k hk
  · exact RWs_sh a8 (fun i hi j h1 h2 => by rw [hB, if_neg (by omega)]; rfl)
/-- a register is emptied -/
theorem RR_emp {r : RS} {g : Nat → List Rec} {ops : List (Int32 × List TRE)} (h : RR r g ops) {k : Nat} (hk : k < 8) : RR (emp r (3100 + (shf8 g k).length) (g k).length (3100 + (shf8 g 8).length) k) (va_up g k []) ops := by
  obtain ⟨a1, a2, a3, a4, a5, a6, a7, a8⟩ := h
  have hS := shf8_8 g hk
  have hS2 := shf8_up g hk []
  rw [List.append_nil] at hS2
  have hlen : (shf8 g 8).length = (shf8 g k).length + (g k).length + (shb8 g k (7 - k)).length := by rw [hS, List.length_append, List.length_append]
  have hlen2 : (shf8 (va_up g k []) 8).length = (shf8 g k).length + (shb8 g k (7 - k)).length := by rw [hS2, List.length_append]
  have hR : ∀ {j : Nat}, 1 ≤ j → j ≤ 7 → ∀ i, gB (emp r (3100 + (shf8 g k).length) (g k).length (3100 + (shf8 g 8).length) k) j i = if 3100 + (shf8 g k).length ≤ i ∧ i < 3100 + (shf8 g k).length + (shb8 g k (7 - k)).length then gB r j (i + (g k).length) else gB r j i := by
    intro j h1 h7 i
    unfold emp
    rw [w1_BB, if_neg (by omega), mvd_R _ _ _ (by omega) h1 h7, show 3100 + (shf8 g k).length + (g k).length - (g k).length = 3100 + (shf8 g k).length by omega, show 3100 + (shf8 g 8).length - (3100 + (shf8 g k).length + (g k).length) = (shb8 g k (7 - k)).length by omega]
  have hB9 : ∀ {j : Nat}, 7 < j → ∀ i, gB (emp r (3100 + (shf8 g k).length) (g k).length (3100 + (shf8 g 8).length) k) j i = if j = 12 ∧ i = k then 0 else gB r j i := by
    intro j hj i
    unfold emp
    rw [w1_BB, mvd_BB hj]
  have hF : ∀ j, gF (emp r (3100 + (shf8 g k).length) (g k).length (3100 + (shf8 g 8).length) k) j = gF r j := fun j => by
    unfold emp
    rw [w1_FF, mvd_FF]
  rw [hS, RWs_app, RWs_app] at a8
  refine ⟨a1, ⟨a2.1, by omega⟩, by rw [hF]; exact a3, by rw [hF]; exact a4, RWs_sh a5 (fun i hi j h1 h2 => by rw [hR h1 h2, if_neg (by omega)]), BG_cong (fun i hi => ⟨by rw [hB9 (by decide), if_neg (by omega)], by rw [hB9 (by decide), if_neg (by omega)]⟩) a6, ?_, ?_⟩
  · intro m hm
    rw [hB9 (by decide)]
    by_cases hmk : m = k
    · subst hmk; rw [if_pos ⟨rfl, rfl⟩, va_up_self]; rfl
    · rw [if_neg (by omega), va_up_ne _ _ hmk]; exact a7 m hm
  · rw [hS2, RWs_app]
    refine ⟨RWs_sh a8.1.1 (fun i hi j h1 h2 => by rw [hR h1 h2, if_neg (by omega)]), RWs_sh a8.2 (fun i hi j h1 h2 => ?_)⟩
    rw [hR h1 h2, if_pos (by omega), List.length_append, show 3100 + (shf8 g k).length + i + (g k).length = 3100 + ((shf8 g k).length + (g k).length) + i by omega]
/-- a box is put -/
theorem RR_put {r : RS} {g : Nat → List Rec} {v : Int32} {ts : List TRE} {o : List (Int32 × List TRE)} (h : RR r g ((v, ts) :: o)) {k : Nat} (hk : k < 8) {x x' : Rec} {c : List Rec} (hg : g k = x :: c) {s : Int32} (hx : ∀ j, 1 ≤ j → j ≤ 7 → rC x' j = if j = 5 then s else rC x j) (hl : (cat ((v, ts) :: o)).length + (g k).length ≤ 3000) : RR (puts1 r (3100 + (shf8 g k).length) (g k).length (cat ((v, ts) :: o)).length s) g ((v, ts ++ [(x', c)]) :: o) := by
  obtain ⟨a1, a2, a3, a4, a5, a6, a7, a8⟩ := h
  have hc : cat ((v, ts ++ [(x', c)]) :: o) = cat ((v, ts) :: o) ++ (x' :: c) := by show cat o ++ flt (ts ++ [(x', c)]) = cat o ++ flt ts ++ (x' :: c); rw [flt_app, List.append_assoc]; show _ ++ (_ ++ (x' :: (c ++ []))) = _; rw [List.append_nil]
  have hgl : (g k).length = c.length + 1 := by rw [hg]; rfl
  have hle := shf8_le g hk
  have hR : ∀ {j : Nat}, 1 ≤ j → j ≤ 7 → ∀ i, gB (puts1 r (3100 + (shf8 g k).length) (g k).length (cat ((v, ts) :: o)).length s) j i = if j = 5 ∧ i = (cat ((v, ts) :: o)).length then s else if (cat ((v, ts) :: o)).length ≤ i ∧ i < (cat ((v, ts) :: o)).length + (g k).length then gB r j (i - (cat ((v, ts) :: o)).length + (3100 + (shf8 g k).length)) else gB r j i := by
    intro j h1 h7 i
    unfold puts1
    rw [sF_BB, w1_BB, mvc_R _ _ _ (by omega) h1 h7]
    rfl
  have hB9 : ∀ {j : Nat}, 7 < j → gB (puts1 r (3100 + (shf8 g k).length) (g k).length (cat ((v, ts) :: o)).length s) j = gB r j := by
    intro j hj
    funext i
    unfold puts1
    rw [sF_BB, w1_BB, if_neg (by omega), mvc_B2 hj]
    rfl
  refine ⟨a1, ⟨by rw [hc, List.length_append]; show _ + (c.length + 1) ≤ 3000; omega, a2.2⟩, ?_, ?_, ?_, ?_, ?_, ?_⟩
  · unfold puts1; rw [sF_FF, if_neg (by decide), w1_FF, mvc_FF]; exact a3
  · unfold puts1; rw [sF_FF, if_pos rfl, hc, List.length_append, hgl]; rfl
  · rw [hc, RWs_app]
    have hsg : RWs r (3100 + (shf8 g k).length) (x :: c) := by
      rw [shf8_8 g hk, RWs_app, RWs_app, hg] at a8
      exact a8.1.2
    refine ⟨RWs_sh a5 (fun i hi j h1 h2 => by rw [hR h1 h2, if_neg (by omega), if_neg (by omega)]), fun j h1 h2 => ?_, ?_⟩
    · rw [hx j h1 h2, hR h1 h2]
      by_cases h5 : j = 5
      · rw [if_pos ⟨h5, by omega⟩, if_pos h5]
      · rw [if_neg (fun z => h5 z.1), if_neg h5, if_pos (by omega)]
        have := hsg.1 j h1 h2
        rw [← this]
        congr 1
        omega
    · refine RWs_sh hsg.2 (fun i hi j h1 h2 => ?_)
      rw [hR h1 h2, if_neg (by omega), if_pos (by omega)]
      congr 1
      omega
  · exact BG_cong (fun i hi => by rw [hB9 (by decide), hB9 (by decide)]; exact ⟨rfl, rfl⟩) a6
  · intro m hm; rw [hB9 (by decide)]; exact a7 m hm
  · exact RWs_sh a8 (fun i hi j h1 h2 => by rw [hR h1 h2, if_neg (by omega), if_neg (by omega)])
/-- the innermost list becomes a register's box -/
theorem RR_close {r : RS} {g : Nat → List Rec} {v : Int32} {ts : List TRE} {o : List (Int32 × List TRE)} (h : RR r g ((v, ts) :: o)) {k : Nat} (hk : k < 8) {x : Rec} {w h' d : Int64} (hx : rC x 1 = (if v = 0 then 4 else 5) ∧ rC x 2 = w.toInt32 ∧ rC x 3 = h'.toInt32 ∧ rC x 4 = d.toInt32 ∧ rC x 5 = 0 ∧ rC x 6 = 0 ∧ rC x 7 = nI ((flt ts).length + 1)) (hl : (cat ((v, ts) :: o)).length + (shf8 g 8).length + 1 ≤ 3000) :
    RR (clz (sF r 0 0) (cat o).length (cat ((v, ts) :: o)).length (3100 + (shf8 g k).length) (g k).length (3100 + (shf8 g 8).length) (3100 + (shf8 (va_up g k []) 8).length) k o.length v w h' d) (va_up g k (x :: flt ts)) o ∧ stt (emp (sF r 0 0) (3100 + (shf8 g k).length) (g k).length (3100 + (shf8 g 8).length) k) k = nI (3100 + (shf8 g k).length) ∧ 3100 + shv (emp (sF r 0 0) (3100 + (shf8 g k).length) (g k).length (3100 + (shf8 g 8).length) k) = nI (3100 + (shf8 (va_up g k []) 8).length) ∧ stt (mak (emp (sF r 0 0) (3100 + (shf8 g k).length) (g k).length (3100 + (shf8 g 8).length) k) (3100 + (shf8 g k).length) ((flt ts).length + 1) (3100 + (shf8 (va_up g k []) 8).length) k) k = nI (3100 + (shf8 g k).length) := by
  have hE := RR_emp (RR_0 h 0) hk
  generalize hr1 : emp (sF r 0 0) (3100 + (shf8 g k).length) (g k).length (3100 + (shf8 g 8).length) k = r1 at hE ⊢
  obtain ⟨a1, a2, a3, a4, a5, a6, a7, a8⟩ := hE
  obtain ⟨b1, b2, b3, b4, -⟩ := h
  have hS2 := shf8_up g hk []
  rw [List.append_nil] at hS2
  have hlen1 : (shf8 g 8).length = (shf8 g k).length + (g k).length + (shb8 g k (7 - k)).length := by rw [shf8_8 g hk, List.length_append, List.length_append]
  have hlen2 : (shf8 (va_up g k []) 8).length = (shf8 g k).length + (shb8 g k (7 - k)).length := by rw [hS2, List.length_append]
  have hgk : shf8 (va_up g k ([] : List Rec)) k = shf8 g k := shf8_ge (fun i hi => va_up_ne _ _ (by omega))
  have hcl : (cat ((v, ts) :: o)).length = (cat o).length + (flt ts).length := by show (cat o ++ flt ts).length = _; rw [List.length_append]
  have hst1 : stt r1 k = nI (3100 + (shf8 g k).length) := by rw [stt_R a7 (by omega), hgk]
  have hsv1 : 3100 + shv r1 = nI (3100 + (shf8 (va_up g k []) 8).length) := by rw [shv_R a7, show (3100 : Int32) = nI 3100 by decide, nI_add]
  have hmB : ∀ {j : Nat}, 7 < j → ∀ i, gB (mak r1 (3100 + (shf8 g k).length) ((flt ts).length + 1) (3100 + (shf8 (va_up g k []) 8).length) k) j i = if j = 12 ∧ i = k then nI ((flt ts).length + 1) else gB r1 j i := by
    intro j hj i
    unfold mak
    rw [w1_BB, mvu_BB hj]
  have hmS : ∀ m, m ≤ k → bx_sum (gB (mak r1 (3100 + (shf8 g k).length) ((flt ts).length + 1) (3100 + (shf8 (va_up g k []) 8).length) k) 12) m = bx_sum (gB r1 12) m := by
    intro m
    induction m with
    | zero => intro _; rfl
    | succ m ih =>
      intro hm
      show bx_sum _ m + _ = bx_sum _ m + _
      rw [ih (by omega), hmB (by decide), if_neg (by omega)]
  refine ⟨?_, hst1, hsv1, ?_⟩
  · have hR : ∀ {j : Nat}, 1 ≤ j → j ≤ 7 → ∀ i, gB (clz (sF r 0 0) (cat o).length (cat ((v, ts) :: o)).length (3100 + (shf8 g k).length) (g k).length (3100 + (shf8 g 8).length) (3100 + (shf8 (va_up g k []) 8).length) k o.length v w h' d) j i = if 3100 + (shf8 g k).length + 1 ≤ i ∧ i < 3100 + (shf8 g k).length + 1 + (flt ts).length then gB r1 j (i - (3100 + (shf8 g k).length + 1) + (cat o).length) else if i = 3100 + (shf8 g k).length then rC x j else if 3100 + (shf8 g k).length + ((flt ts).length + 1) ≤ i ∧ i < 3100 + (shf8 g k).length + ((flt ts).length + 1) + (shb8 g k (7 - k)).length then gB r1 j (i - ((flt ts).length + 1)) else gB r1 j i := by
      intro j h1 h7 i
      have hY : ∀ i', gB (clhd (mak r1 (3100 + (shf8 g k).length) ((flt ts).length + 1) (3100 + (shf8 (va_up g k []) 8).length) k) (3100 + (shf8 g k).length) (flt ts).length v w h' d) j i' = if i' = 3100 + (shf8 g k).length then rC x j else if 3100 + (shf8 g k).length + ((flt ts).length + 1) ≤ i' ∧ i' < 3100 + (shf8 g k).length + ((flt ts).length + 1) + (shb8 g k (7 - k)).length then gB r1 j (i' - ((flt ts).length + 1)) else gB r1 j i' := by
        intro i'
        have hM : gB (mak r1 (3100 + (shf8 g k).length) ((flt ts).length + 1) (3100 + (shf8 (va_up g k []) 8).length) k) j i' = if 3100 + (shf8 g k).length + ((flt ts).length + 1) ≤ i' ∧ i' < 3100 + (shf8 g k).length + ((flt ts).length + 1) + (shb8 g k (7 - k)).length then gB r1 j (i' - ((flt ts).length + 1)) else gB r1 j i' := by
          unfold mak
          rw [w1_BB, if_neg (by omega), mvu_R (by omega) _ _ h1 h7, show 3100 + (shf8 (va_up g k []) 8).length - (3100 + (shf8 g k).length) = (shb8 g k (7 - k)).length by omega]
        unfold clhd
        rw [w1_BB, w1_BB, w1_BB, w1_BB, w1_BB, w1_BB, w1_BB, hM]
        obtain ⟨x1, x2, x3, x4, x5, x6, x7⟩ := hx
        by_cases hi : i' = 3100 + (shf8 g k).length
        · subst hi
          have hj : j = 1 ∨ j = 2 ∨ j = 3 ∨ j = 4 ∨ j = 5 ∨ j = 6 ∨ j = 7 := by omega
          rcases hj with rfl | rfl | rfl | rfl | rfl | rfl | rfl
          · simp [x1]
          · simp [x2]
          · simp [x3]
          · simp [x4]
          · simp [x5]
          · simp [x6]
          · simp [x7]
        · rw [if_neg (fun z => hi z.2), if_neg (fun z => hi z.2), if_neg (fun z => hi z.2), if_neg (fun z => hi z.2), if_neg (fun z => hi z.2), if_neg (fun z => hi z.2), if_neg (fun z => hi z.2), if_neg hi]
      unfold clz
      rw [sF_BB, sF_BB, hr1, show (cat ((v, ts) :: o)).length - (cat o).length = (flt ts).length by omega, mvc_R _ _ _ (by omega) h1 h7, Nat.add_zero]
      by_cases c1 : 3100 + (shf8 g k).length + 1 ≤ i ∧ i < 3100 + (shf8 g k).length + 1 + (flt ts).length
      · rw [if_pos c1, if_pos c1, hY, if_neg (by omega), if_neg (by omega)]
      · rw [if_neg c1, if_neg c1, hY]
    have hB9 : ∀ {j : Nat}, 7 < j → ∀ i, gB (clz (sF r 0 0) (cat o).length (cat ((v, ts) :: o)).length (3100 + (shf8 g k).length) (g k).length (3100 + (shf8 g 8).length) (3100 + (shf8 (va_up g k []) 8).length) k o.length v w h' d) j i = if j = 12 ∧ i = k then nI ((flt ts).length + 1) else gB r1 j i := by
      intro j hj i
      unfold clz
      rw [sF_BB, sF_BB, hr1, show (cat ((v, ts) :: o)).length - (cat o).length = (flt ts).length by omega, mvc_B2 hj]
      unfold clhd
      rw [w1_BB, w1_BB, w1_BB, w1_BB, w1_BB, w1_BB, w1_BB, if_neg (by omega), if_neg (by omega), if_neg (by omega), if_neg (by omega), if_neg (by omega), if_neg (by omega), if_neg (by omega), hmB hj]
    have hU := shf8_up g hk (x :: flt ts)
    have hcat : RWs r1 0 (cat o) ∧ RWs r1 (0 + (cat o).length) (flt ts) := (RWs_app r1 (cat o) (flt ts) 0).mp a5
    rw [hS2, RWs_app] at a8
    refine ⟨by have : o.length + 1 ≤ 100 := a1; omega, ⟨by omega, by rw [hU, List.length_append, List.length_append]; show _ + ((flt ts).length + 1) + _ ≤ 3000; omega⟩, rfl, rfl, RWs_sh hcat.1 (fun i hi j h1 h2 => by rw [hR h1 h2, if_neg (by omega), if_neg (by omega), if_neg (by omega)]), BG_cong (fun i hi => ⟨by rw [hB9 (by decide), if_neg (by omega)], by rw [hB9 (by decide), if_neg (by omega)]⟩) a6.2.2, ?_, ?_⟩
    · intro m hm
      rw [hB9 (by decide)]
      by_cases hmk : m = k
      · subst hmk; rw [if_pos ⟨rfl, rfl⟩, va_up_self]; rfl
      · have := a7 m hm
        rw [va_up_ne _ _ hmk] at this ⊢
        rw [if_neg (by omega)]; exact this
    · rw [hU, RWs_app, RWs_app]
      refine ⟨⟨RWs_sh a8.1 (fun i hi j h1 h2 => by rw [hR h1 h2, if_neg (by omega), if_neg (by omega), if_neg (by omega)]), fun j h1 h2 => by rw [hR h1 h2, if_neg (by omega), if_pos rfl], RWs_sh hcat.2 (fun i hi j h1 h2 => ?_)⟩, RWs_sh a8.2 (fun i hi j h1 h2 => ?_)⟩
      · rw [hR h1 h2, if_pos (by omega)]
        congr 1
        omega
      · have hL : (shf8 g k ++ x :: flt ts).length = (shf8 g k).length + ((flt ts).length + 1) := by rw [List.length_append]; rfl
        rw [hL, hR h1 h2, if_neg (by omega), if_neg (by omega), if_pos (by omega)]
        congr 1
        omega
  · unfold stt
    rw [hmS k (Nat.le_refl _)]
    exact hst1
