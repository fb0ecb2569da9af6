/-! PageFile.finish: what it writes -/
def fol : Nat → PS → PS
  | 0, s => s
  | m + 1, s => fol m (if fus (s.1 30) (nI m) = 0 then s else fnS s m)
def fiT (s : PS) (p : Nat) : PS := uF s (fwr (xF s) [(249, 1), (nI p, 4), (2, 1)])
def fl1 (j : Nat) : List (Int32 × Nat) := List.replicate j (223, 1)
theorem fl1_s (j : Nat) : fl1 (j + 1) = (223, 1) :: fl1 j := rfl
def fiP (s : PS) (c : Nat) : PS := uF s (fwr (xF s) (fl1 c))
def fiZ (s : PS) (p : Nat) : PS := fiP (fiT s p) (pdc (xF (fiT s p)).1)
def fhL (s : PS) : List (Int32 × Nat) := (248, 1) :: (s.1 7, 4) :: (nums ++ [(s.1 8, 4), (s.1 9, 4), (s.1 10, 2), (s.1 6, 2)])
def finY (s : PS) (p : Nat) : PS := fiZ (fol 32 (uF s (fwr (xF s) (fhL s)))) p
def finX (s : PS) : PS := finY (uF s (fwr (xF s) (bgL (xF s).1))) (fwr (xF s) (bgL (xF s).1)).1
theorem fnS_F (s : PS) (m : Nat) : xF (fnS s m) = fwr (xF s) (fnL s m) := rfl
theorem fol_F : ∀ (m : Nat) (s : PS), FLe (xF s) (xF (fol m s)) ∧ xN (fol m s) = xN s := by
  intro m
  induction m with
  | zero => intro s; exact ⟨FLe_rf _, rfl⟩
  | succ m ih =>
    intro s
    show FLe (xF s) (xF (fol m (if fus (s.1 30) (nI m) = 0 then s else fnS s m))) ∧ xN (fol m (if fus (s.1 30) (nI m) = 0 then s else fnS s m)) = xN s
    split
    · exact ih s
    · exact ⟨FLe_tr (by rw [fnS_F]; exact FLe_w _ _) (ih _).1, (ih _).2.trans (fnS_N s m)⟩
theorem fiZ_F (s : PS) (p : Nat) : FLe (xF s) (xF (fiZ s p)) := FLe_tr (FLe_w (xF s) [(249, 1), (nI p, 4), (2, 1)]) (FLe_w (xF (fiT s p)) _)
theorem finY_F (s : PS) (p : Nat) : FLe (xF s) (xF (finY s p)) := FLe_tr (FLe_w (xF s) (fhL s)) (FLe_tr (fol_F 32 (uF s (fwr (xF s) (fhL s)))).1 (fiZ_F (fol 32 (uF s (fwr (xF s) (fhL s)))) p))
theorem nI_pdc {n : Nat} (hn : n < 2 ^ 31) : 4 + (4 - (nI n - nI n / nI 4 * nI 4) - (4 - (nI n - nI n / nI 4 * nI 4)) / nI 4 * nI 4) = nI (pdc n) := by
  rw [show nI n - nI n / nI 4 * nI 4 = nI (n % 4) from pk_rem (by omega) (by decide) (by decide)]
  have h : n % 4 = 0 ∨ n % 4 = 1 ∨ n % 4 = 2 ∨ n % 4 = 3 := by omega
  unfold pdc
  rcases h with h | h | h | h <;> rw [h] <;> decide
theorem km_s (m : Nat) : nI (m + 1) - 1 = nI m := nI_pred m
abbrev fQ (ac : Nat → ClassId) (adr : Nat → Nat) (Z : MP) (sF : PS) : Option Value → MP → Prop := fun r M' => r = some (.int (nI (xF sF).1)) ∧ PW ac adr (uI sF 11 1) Z M'
set_option maxRecDepth 100000 in
set_option maxHeartbeats 400000 in
theorem wF_209 {l : Launch} {D : va_G} {ac : Nat → ClassId} {adr : Nat → Nat} {s : PS} {Z M : MP} (hW : PW ac adr s Z M) {k n : Nat} : V l D (tyl ac) t_PF_finish k n 209 [(0, .ref (adr 0))] [] M (fQ ac adr Z s) := by
  refine V_aload_n d_PF_finish_209 rfl (isr_ref _) ?_
  refine V_iconst (v := 1) d_PF_finish_210 (by decide) ?_
  refine VW_put hW (by omega) d_PF_finish_211 f_PF_126 (fun _ => rfl) (rfl) (rfl) (Nat.le_of_ble_eq_true rfl) (fun _ => pC_i11 _) rfl rfl (fun M1 hW => ?_)
  obtain ⟨ra, hb⟩ := PW_len hW
  refine V_aload_n d_PF_finish_214 rfl (isr_ref _) ?_
  refine V_getf d_PF_finish_215 f_PF_26 (PW_c hW (by omega) (fun _ => rfl)) rfl ?_
  refine V_getfN d_PF_finish_218 f_PF_136 (hb) rfl ?_
  exact V_ireturn d_PF_finish_221 rfl ⟨rfl, hW⟩
set_option maxRecDepth 100000 in
set_option maxHeartbeats 400000 in
theorem wF_187 {l : Launch} {D : va_G} {ac : Nat → ClassId} {adr : Nat → Nat} {Z : MP} {jE c : Nat} (hc : c < 100) : ∀ (j : Nat), j ≤ c → ∀ {s : PS} {M : MP}, PW ac adr s Z M → FE (xF s) (fl1 j) jE → V l D (tyl ac) t_PF_finish (bk jE (xF s) 0) (bs jE (xF s) 0) 187 [(0, .ref (adr 0)), (2, .int (nI c)), (3, .int (nI (c - j)))] [] M (fQ ac adr Z (fiP s j)) := by
  intro j
  induction j with
  | zero =>
    intro hj9 s M hW hE
    refine V_iload_n d_PF_finish_187 rfl ?_
    refine V_iload_n d_PF_finish_188 rfl ?_
    refine V_icmp_ge 209 d_PF_finish_189 (by decide) (fun h189 => ?_) (fun h189 => ?_)
    · refine V_lv [0] rfl ?_
      exact wF_209 hW
    · exact absurd (show nI c ≤ nI (c - 0) from Int32.le_refl _) h189
  | succ j ih =>
    intro hj9 s M hW hE
    refine V_iload_n d_PF_finish_187 rfl ?_
    refine V_iload_n d_PF_finish_188 rfl ?_
    refine V_icmp_ge 209 d_PF_finish_189 (by decide) (fun h189 => ?_) (fun h189 => ?_)
    · exact absurd h189 (nI_ge (a := c - (j + 1)) (b := c) (by omega) (by omega))
    · rw [fl1_s] at hE
      refine V_aload_n d_PF_finish_192 rfl (isr_ref _) ?_
      refine V_getf d_PF_finish_193 f_PF_26 (PW_c hW (by omega) (fun _ => rfl)) rfl ?_
      refine V_sipush (v := 223) d_PF_finish_196 (by decide) ?_
      refine V_iconst (v := nI 1) d_PF_finish_199 (by decide) ?_
      refine VW_add (t := t_PF_finish) hW (fl1 j) hE (by decide) d_PF_finish_200 c_PF_158 ⟨by decide, by decide⟩ (Nat.le_of_ble_eq_true rfl) (fun M1 hW => ?_)
      replace hE := FE_t hE
      refine V_iinc (v := nI (c - j)) (lv' := [(3, .int (nI (c - j))), (0, .ref (adr 0)), (2, .int (nI c))]) 2 d_PF_finish_203 rfl (by rw [show (c - j) = (c - (j + 1)) + 1 by omega]; exact nI_1 _) (by decide) rfl ?_
      refine V_goto 187 d_PF_finish_206 (by decide) ?_
      refine V_lv [1, 2, 0] rfl ?_
      exact ih (by omega) (s := uF s (fadd (xF s) 223 1)) hW hE
set_option maxRecDepth 100000 in
set_option maxHeartbeats 400000 in
theorem wF_140 {l : Launch} {D : va_G} {ac : Nat → ClassId} {adr : Nat → Nat} {s : PS} {Z M : MP} {jE : Nat} (hW : PW ac adr s Z M) {p : Nat} {x : Int32} (hE : FE (fwr (xF s) [(249, 1), (nI p, 4), (2, 1)]) (fl1 (pdc (xF (fiT s p)).1)) jE) : V l D (tyl ac) t_PF_finish (bk jE (xF s) 0) (bs jE (xF s) 0) 140 [(0, .ref (adr 0)), (1, .int (nI p)), (2, .int x)] [] M (fQ ac adr Z (fiZ s p)) := by
  have hfe : FE (xF s) [(249, 1), (nI p, 4), (2, 1)] jE := ⟨Nat.le_trans (fwr_j _ _) hE.1, Nat.le_trans (fwr_n _ _) hE.2⟩
  have hE2 : FE (xF (fiT s p)) (fl1 (pdc (xF (fiT s p)).1)) jE := hE
  have hE := hfe
  refine V_aload_n d_PF_finish_140 rfl (isr_ref _) ?_
  refine V_getf d_PF_finish_141 f_PF_26 (PW_c hW (by omega) (fun _ => rfl)) rfl ?_
  refine V_sipush (v := 249) d_PF_finish_144 (by decide) ?_
  refine V_iconst (v := nI 1) d_PF_finish_147 (by decide) ?_
  refine VW_add (t := t_PF_finish) hW [(nI p, 4), (2, 1)] hE (by decide) d_PF_finish_148 c_PF_158 ⟨by decide, by decide⟩ (Nat.le_of_ble_eq_true rfl) (fun M1 hW => ?_)
  replace hE := FE_t hE
  refine V_aload_n d_PF_finish_151 rfl (isr_ref _) ?_
  refine V_getf d_PF_finish_152 f_PF_26 (PW_c hW (by omega) (fun _ => rfl)) rfl ?_
  refine V_iload_n d_PF_finish_155 rfl ?_
  refine V_iconst (v := nI 4) d_PF_finish_156 (by decide) ?_
  refine VW_add (t := t_PF_finish) hW [(2, 1)] hE (by decide) d_PF_finish_157 c_PF_158 ⟨by decide, by decide⟩ (Nat.le_of_ble_eq_true rfl) (fun M1 hW => ?_)
  replace hE := FE_t hE
  refine V_aload_n d_PF_finish_160 rfl (isr_ref _) ?_
  refine V_getf d_PF_finish_161 f_PF_26 (PW_c hW (by omega) (fun _ => rfl)) rfl ?_
  refine V_iconst (v := 2) d_PF_finish_164 (by decide) ?_
  refine V_iconst (v := nI 1) d_PF_finish_165 (by decide) ?_
  refine VW_add (t := t_PF_finish) hW [] hE (by decide) d_PF_finish_166 c_PF_158 ⟨by decide, by decide⟩ (Nat.le_of_ble_eq_true rfl) (fun M1 hW => ?_)
  replace hE := FE_t hE
  have hW : PW ac adr (fiT s p) Z _ := hW
  have g2 := p2_11 (PW_ok hW).2.2
  have g3 := (PW_ok hW).2.1
  obtain ⟨ra, hb⟩ := PW_len hW
  refine V_iconst (v := 4) d_PF_finish_169 (by decide) ?_
  refine V_iconst (v := 4) d_PF_finish_170 (by decide) ?_
  refine V_aload_n d_PF_finish_171 rfl (isr_ref _) ?_
  refine V_getf d_PF_finish_172 f_PF_26 (PW_c (p := 0) hW (show 0 < 9 + 3 * xN s by omega) (fun _ => rfl)) rfl ?_
  refine V_getfN d_PF_finish_175 f_PF_136 (hb) rfl ?_
  refine V_iconst (v := nI 4) d_PF_finish_178 (by decide) ?_
  refine V_irem d_PF_finish_179 (by decide) ?_
  refine V_isub d_PF_finish_180 ?_
  refine V_iconst (v := nI 4) d_PF_finish_181 (by decide) ?_
  refine V_irem d_PF_finish_182 (by decide) ?_
  refine V_iadd d_PF_finish_183 ?_
  refine V_eqi (nI_pdc (by omega)) ?_
  refine V_istore_n (lv' := [(2, .int (nI (pdc (xF (fiT s p)).1))), (0, .ref (adr 0)), (1, .int (nI p))]) d_PF_finish_184 (by decide) rfl ?_
  refine V_iconst (v := nI (pdc (xF (fiT s p)).1 - pdc (xF (fiT s p)).1)) d_PF_finish_185 (by rw [Nat.sub_self]; decide) ?_
  refine V_istore_n (lv' := [(3, .int (nI (pdc (xF (fiT s p)).1 - pdc (xF (fiT s p)).1))), (2, .int (nI (pdc (xF (fiT s p)).1))), (0, .ref (adr 0)), (1, .int (nI p))]) d_PF_finish_186 (by decide) rfl ?_
  have hp : pdc (xF (fiT s p)).1 < 100 := by unfold pdc; omega
  refine V_lv [2, 1, 0] rfl ?_
  exact wF_187 hp _ (Nat.le_refl _) hW hE2
set_option maxRecDepth 100000 in
set_option maxHeartbeats 400000 in
theorem wF_107 {l : Launch} {D : va_G} {ac : Nat → ClassId} {adr : Nat → Nat} {Z : MP} {jE p : Nat} : ∀ (m : Nat), m ≤ 32 → ∀ {s : PS} {M : MP}, PW ac adr s Z M → (xF (fiZ (fol m s) p)).2.1 ≤ jE → (xF (fiZ (fol m s) p)).1 ≤ 500000 → V l D (tyl ac) t_PF_finish (bk jE (xF s) 0) (bs jE (xF s) 0) 107 [(0, .ref (adr 0)), (1, .int (nI p)), (2, .int (nI m - 1))] [] M (fQ ac adr Z (fiZ (fol m s) p)) := by
  intro m
  induction m with
  | zero =>
    intro hm s M hW hj hn
    refine V_iload_n d_PF_finish_107 rfl ?_
    refine V_if_lt 140 d_PF_finish_108 (by decide) (fun h108 => ?_) (fun h108 => ?_)
    · exact wF_140 hW ⟨hj, hn⟩
    · exact absurd (show nI 0 - 1 < 0 by decide) h108
  | succ m ih =>
    intro hm s M hW hj hn
    refine V_iload_n d_PF_finish_107 rfl ?_
    refine V_eqi (km_s m) ?_
    refine V_if_lt 140 d_PF_finish_108 (by decide) (fun h108 => ?_) (fun h108 => ?_)
    · exact absurd h108 (nI_pos (by omega))
    · refine V_aload_n d_PF_finish_111 rfl (isr_ref _) ?_
      refine V_getf d_PF_finish_112 f_PF_31 (PW_c hW (by omega) (fun _ => rfl)) rfl ?_
      refine V_iload_n d_PF_finish_115 rfl ?_
      refine V_eqi (km_s m) ?_
      refine V_rd (As := [.int (nI m)]) (rest := []) (T := T_Fon) (N := 3) (PW_c (p := 3) hW (by omega) (fun _ => rfl)) rfl d_PF_finish_116 c_PF_177 ⟨by decide, by decide⟩ rfl rfl (Nat.le_of_ble_eq_true rfl) (Fon_isUsedW hW _) ?_
      refine V_if_eq 134 d_PF_finish_119 (by decide) (fun h119 => ?_) (fun h119 => ?_)
      all_goals rw [show fol (m + 1) s = fol m (if fus (s.1 30) (nI m) = 0 then s else fnS s m) from rfl] at hj hn ⊢
      · rw [if_pos h119] at hj hn ⊢
        refine V_iinc (v := nI m - 1) (lv' := [(2, .int (nI m - 1)), (0, .ref (adr 0)), (1, .int (nI p))]) 2 d_PF_finish_134 rfl (by rw [km_s]; exact sub_ad _ (by decide)) (by decide) rfl ?_
        refine V_goto 107 d_PF_finish_137 (by decide) ?_
        refine V_lv [1, 2, 0] rfl ?_
        exact ih (by omega) (s := s) hW hj hn
      · rw [if_neg h119] at hj hn ⊢
        have hle := FLe_tr (fol_F m (fnS s m)).1 (fiZ_F (fol m (fnS s m)) p)
        rw [fnS_F] at hle
        have hE : FE (xF s) (fnL s m ++ []) jE := by rw [List.append_nil]; exact FE_le hle hj hn
        refine V_aload_n d_PF_finish_122 rfl (isr_ref _) ?_
        refine V_getf d_PF_finish_123 f_PF_31 (PW_c hW (by omega) (fun _ => rfl)) rfl ?_
        refine V_iload_n d_PF_finish_126 rfl ?_
        refine V_eqi (km_s m) ?_
        refine V_aload_n d_PF_finish_127 rfl (isr_ref _) ?_
        refine V_getf d_PF_finish_128 f_PF_26 (PW_c hW (by omega) (fun _ => rfl)) rfl ?_
        refine VW_call (F := xF s) (L1 := fnL s m) (As := [.int (nI m), .ref (adr 2)]) (rest := []) (T' := T_Fon) (Nn := 3) [] hE (PW_c (p := 3) hW (by omega) (fun _ => rfl)) rfl d_PF_finish_131 c_PF_180 ⟨by decide, by decide⟩ rfl rfl (Nat.le_of_ble_eq_true rfl) (fun hE => Fon_write hW (by omega) hE) (fun r M1 hq9 hE => ?_)
        obtain ⟨rfl, hW⟩ := hq9
        refine V_iinc (v := nI m - 1) (lv' := [(2, .int (nI m - 1)), (0, .ref (adr 0)), (1, .int (nI p))]) 2 d_PF_finish_134 rfl (by rw [km_s]; exact sub_ad _ (by decide)) (by decide) rfl ?_
        refine V_goto 107 d_PF_finish_137 (by decide) ?_
        refine V_lv [1, 2, 0] rfl ?_
        exact ih (by omega) (s := fnS s m) hW hj hn
set_option maxRecDepth 100000 in
set_option maxHeartbeats 400000 in
theorem wF_56 {l : Launch} {D : va_G} {ac : Nat → ClassId} {adr : Nat → Nat} {s : PS} {Z M : MP} {jE : Nat} (hW : PW ac adr s Z M) {p : Nat} (hE : FE (xF s) [(s.1 8, 4), (s.1 9, 4), (s.1 10, 2), (s.1 6, 2)] jE) (hj : (xF (fiZ (fol 32 (uF s (fwr (xF s) [(s.1 8, 4), (s.1 9, 4), (s.1 10, 2), (s.1 6, 2)]))) p)).2.1 ≤ jE) (hn : (xF (fiZ (fol 32 (uF s (fwr (xF s) [(s.1 8, 4), (s.1 9, 4), (s.1 10, 2), (s.1 6, 2)]))) p)).1 ≤ 500000) : V l D (tyl ac) t_PF_finish (bk jE (xF s) 0) (bs jE (xF s) 0) 56 [(0, .ref (adr 0)), (1, .int (nI p))] [] M (fQ ac adr Z (fiZ (fol 32 (uF s (fwr (xF s) [(s.1 8, 4), (s.1 9, 4), (s.1 10, 2), (s.1 6, 2)]))) p)) := by
  refine V_aload_n d_PF_finish_56 rfl (isr_ref _) ?_
  refine V_getf d_PF_finish_57 f_PF_26 (PW_c hW (by omega) (fun _ => rfl)) rfl ?_
  refine V_aload_n d_PF_finish_60 rfl (isr_ref _) ?_
  refine V_getf d_PF_finish_61 f_PF_165 (PW_c hW (by omega) (fun _ => rfl)) rfl ?_
  refine V_iconst (v := nI 4) d_PF_finish_64 (by decide) ?_
  refine VW_add (t := t_PF_finish) hW [(s.1 9, 4), (s.1 10, 2), (s.1 6, 2)] hE (by decide) d_PF_finish_65 c_PF_158 ⟨by decide, by decide⟩ (Nat.le_of_ble_eq_true rfl) (fun M1 hW => ?_)
  replace hE := FE_t hE
  refine V_aload_n d_PF_finish_68 rfl (isr_ref _) ?_
  refine V_getf d_PF_finish_69 f_PF_26 (PW_c hW (by omega) (fun _ => rfl)) rfl ?_
  refine V_aload_n d_PF_finish_72 rfl (isr_ref _) ?_
  refine V_getf d_PF_finish_73 f_PF_168 (PW_c hW (by omega) (fun _ => rfl)) rfl ?_
  refine V_iconst (v := nI 4) d_PF_finish_76 (by decide) ?_
  refine VW_add (t := t_PF_finish) hW [(s.1 10, 2), (s.1 6, 2)] hE (by decide) d_PF_finish_77 c_PF_158 ⟨by decide, by decide⟩ (Nat.le_of_ble_eq_true rfl) (fun M1 hW => ?_)
  replace hE := FE_t hE
  refine V_aload_n d_PF_finish_80 rfl (isr_ref _) ?_
  refine V_getf d_PF_finish_81 f_PF_26 (PW_c hW (by omega) (fun _ => rfl)) rfl ?_
  refine V_aload_n d_PF_finish_84 rfl (isr_ref _) ?_
  refine V_getf d_PF_finish_85 f_PF_171 (PW_c hW (by omega) (fun _ => rfl)) rfl ?_
  refine V_iconst (v := nI 2) d_PF_finish_88 (by decide) ?_
  refine VW_add (t := t_PF_finish) hW [(s.1 6, 2)] hE (by decide) d_PF_finish_89 c_PF_158 ⟨by decide, by decide⟩ (Nat.le_of_ble_eq_true rfl) (fun M1 hW => ?_)
  replace hE := FE_t hE
  refine V_aload_n d_PF_finish_92 rfl (isr_ref _) ?_
  refine V_getf d_PF_finish_93 f_PF_26 (PW_c hW (by omega) (fun _ => rfl)) rfl ?_
  refine V_aload_n d_PF_finish_96 rfl (isr_ref _) ?_
  refine V_getf d_PF_finish_97 f_PF_174 (PW_c hW (by omega) (fun _ => rfl)) rfl ?_
  refine V_iconst (v := nI 2) d_PF_finish_100 (by decide) ?_
  refine VW_add (t := t_PF_finish) hW [] hE (by decide) d_PF_finish_101 c_PF_158 ⟨by decide, by decide⟩ (Nat.le_of_ble_eq_true rfl) (fun M1 hW => ?_)
  replace hE := FE_t hE
  refine V_bipush (v := nI 32 - 1) d_PF_finish_104 (by decide) ?_
  refine V_istore_n (lv' := [(2, .int (nI 32 - 1)), (0, .ref (adr 0)), (1, .int (nI p))]) d_PF_finish_106 (by decide) rfl ?_
  refine V_lv [1, 2, 0] rfl ?_
  exact wF_107 32 (Nat.le_refl _) (s := uF s (fwr (xF s) [(s.1 8, 4), (s.1 9, 4), (s.1 10, 2), (s.1 6, 2)])) hW hj hn
set_option maxRecDepth 100000 in
set_option maxHeartbeats 400000 in
theorem wF_52 {l : Launch} {D : va_G} {ac : Nat → ClassId} {adr : Nat → Nat} {s : PS} {Z M : MP} {jE : Nat} (hW : PW ac adr s Z M) {p : Nat} (hE : FE (xF s) (nums ++ [(s.1 8, 4), (s.1 9, 4), (s.1 10, 2), (s.1 6, 2)]) jE) (hj : (xF (fiZ (fol 32 (uF s (fwr (xF s) (nums ++ [(s.1 8, 4), (s.1 9, 4), (s.1 10, 2), (s.1 6, 2)])))) p)).2.1 ≤ jE) (hn : (xF (fiZ (fol 32 (uF s (fwr (xF s) (nums ++ [(s.1 8, 4), (s.1 9, 4), (s.1 10, 2), (s.1 6, 2)])))) p)).1 ≤ 500000) : V l D (tyl ac) t_PF_finish (bk jE (xF s) 0) (bs jE (xF s) 0) 52 [(0, .ref (adr 0)), (1, .int (nI p))] [] M (fQ ac adr Z (fiZ (fol 32 (uF s (fwr (xF s) (nums ++ [(s.1 8, 4), (s.1 9, 4), (s.1 10, 2), (s.1 6, 2)])))) p)) := by
  refine V_aload_n d_PF_finish_52 rfl (isr_ref _) ?_
  refine VW_call (F := xF s) (L1 := nums) (As := []) (rest := []) (T' := T_PF) (Nn := 12) [(s.1 8, 4), (s.1 9, 4), (s.1 10, 2), (s.1 6, 2)] hE (PW_c (p := 0) hW (by omega) (fun _ => rfl)) rfl d_PF_finish_53 c_PF_162 ⟨by decide, by decide⟩ rfl rfl (Nat.le_of_ble_eq_true rfl) (fun hE => PF_writeUnits hW hE) (fun r M1 hq9 hE => ?_)
  obtain ⟨rfl, hW⟩ := hq9
  rw [fwr_app] at hj hn ⊢
  exact wF_56 (s := uF s (fwr (xF s) nums)) hW hE hj hn
set_option maxRecDepth 100000 in
set_option maxHeartbeats 400000 in
theorem wF_29 {l : Launch} {D : va_G} {ac : Nat → ClassId} {adr : Nat → Nat} {s : PS} {Z M : MP} {jE : Nat} (hW : PW ac adr s Z M) {p : Nat} (hj : (xF (finY s p)).2.1 ≤ jE) (hn : (xF (finY s p)).1 ≤ 500000) : V l D (tyl ac) t_PF_finish (bk jE (xF s) 0) (bs jE (xF s) 0) 29 [(0, .ref (adr 0)), (1, .int (nI p))] [] M (fQ ac adr Z (finY s p)) := by
  have hle := FLe_tr (fol_F 32 (uF s (fwr (xF s) (fhL s)))).1 (fiZ_F (fol 32 (uF s (fwr (xF s) (fhL s)))) p)
  have hE : FE (xF s) (fhL s) jE := FE_le hle hj hn
  have hE : FE (xF s) ((248, 1) :: (s.1 7, 4) :: (nums ++ [(s.1 8, 4), (s.1 9, 4), (s.1 10, 2), (s.1 6, 2)])) jE := hE
  refine V_aload_n d_PF_finish_29 rfl (isr_ref _) ?_
  refine V_getf d_PF_finish_30 f_PF_26 (PW_c hW (by omega) (fun _ => rfl)) rfl ?_
  refine V_sipush (v := 248) d_PF_finish_33 (by decide) ?_
  refine V_iconst (v := nI 1) d_PF_finish_36 (by decide) ?_
  refine VW_add (t := t_PF_finish) hW ((s.1 7, 4) :: (nums ++ [(s.1 8, 4), (s.1 9, 4), (s.1 10, 2), (s.1 6, 2)])) hE (by decide) d_PF_finish_37 c_PF_158 ⟨by decide, by decide⟩ (Nat.le_of_ble_eq_true rfl) (fun M1 hW => ?_)
  replace hE := FE_t hE
  refine V_aload_n d_PF_finish_40 rfl (isr_ref _) ?_
  refine V_getf d_PF_finish_41 f_PF_26 (PW_c hW (by omega) (fun _ => rfl)) rfl ?_
  refine V_aload_n d_PF_finish_44 rfl (isr_ref _) ?_
  refine V_getf d_PF_finish_45 f_PF_32 (PW_c hW (by omega) (fun _ => rfl)) rfl ?_
  refine V_iconst (v := nI 4) d_PF_finish_48 (by decide) ?_
  refine VW_add (t := t_PF_finish) hW (nums ++ [(s.1 8, 4), (s.1 9, 4), (s.1 10, 2), (s.1 6, 2)]) hE (by decide) d_PF_finish_49 c_PF_158 ⟨by decide, by decide⟩ (Nat.le_of_ble_eq_true rfl) (fun M1 hW => ?_)
  replace hE := FE_t hE
  exact wF_52 (s := uF s (fadd (fadd (xF s) 248 1) (s.1 7) 4)) hW hE hj hn
set_option maxRecDepth 100000 in
set_option maxHeartbeats 400000 in
theorem PF_finish_b {l : Launch} {D : va_G} {ac : Nat → ClassId} {adr : Nat → Nat} {s : PS} {Z M : MP} {jE : Nat} (hW : PW ac adr s Z M) (he : s.1 11 = 0) (hj : (xF (finX s)).2.1 ≤ jE) (hn : (xF (finX s)).1 ≤ 500000) : V l D (tyl ac) t_PF_finish (bk jE (xF s) 0) (bs jE (xF s) 0) 0 (lv_args 0 [.ref (adr 0)]) [] M (fQ ac adr Z (finX s)) := by
  refine V_aload_n d_PF_finish_0 rfl (isr_ref _) ?_
  refine V_getf d_PF_finish_1 f_PF_126 (PW_c hW (by omega) (fun _ => rfl)) rfl ?_
  refine V_if_eq 17 d_PF_finish_4 (by decide) (fun h4 => ?_) (fun h4 => ?_)
  · refine V_aload_n d_PF_finish_17 rfl (isr_ref _) ?_
    have hle : FLe (fwr (xF s) (bgL (xF s).1)) (xF (finX s)) := finY_F (uF s (fwr (xF s) (bgL (xF s).1))) _
    have hE : FE (xF s) (bgL (xF s).1 ++ []) jE := by rw [List.append_nil]; exact FE_le hle hj hn
    refine VW_call (F := xF s) (L1 := bgL (xF s).1) (As := []) (rest := []) (T' := T_PF) (Nn := 12) [] hE (PW_c (p := 0) hW (by omega) (fun _ => rfl)) rfl d_PF_finish_18 c_PF_155 ⟨by decide, by decide⟩ rfl rfl (Nat.le_of_ble_eq_true rfl) (fun hE => PF_writeBeginning hW hE) (fun r M1 hq9 hE => ?_)
    obtain ⟨rfl, hW⟩ := hq9
    obtain ⟨ra, hb⟩ := PW_len hW
    refine V_aload_n d_PF_finish_21 rfl (isr_ref _) ?_
    refine V_getf d_PF_finish_22 f_PF_26 (PW_c hW (by omega) (fun _ => rfl)) rfl ?_
    refine V_getfN d_PF_finish_25 f_PF_136 (hb) rfl ?_
    refine V_istore_n (lv' := [(1, .int (nI (fwr (xF s) (bgL (xF s).1)).1)), (0, .ref (adr 0))]) d_PF_finish_28 (by decide) rfl ?_
    refine V_lv [1, 0] rfl ?_
    exact wF_29 (s := uF s (fwr (xF s) (bgL (xF s).1))) hW hj hn
  · exact absurd he h4
