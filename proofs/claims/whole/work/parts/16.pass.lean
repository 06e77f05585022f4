/-! Passing on, spawning -/
def s_arrive (w : Nat) (S : SS) (b l : Nat) : SS := if S.1 39 b + 1 = S.1 8 b then s_token w (sp S 39 b 0) b l else sp S 39 b (S.1 39 b + 1)
def s_edges (w t l : Nat) (S : SS) : Nat → SS
  | 0 => S
  | k + 1 => s_arrive w (s_edges w t l S k) (tn (S.1 (10 + t) k)) l
def s_pass (w : Nat) (S : SS) (t : Nat) (c : Int32) (l : Nat) : SS :=
  if S.1 2 t = 1 then (if isT (tn (S.1 6 t)) c = true then s_token w S (tn (S.1 (10 + t) (tn c))) l else S) else s_edges w t l S (tn (S.1 6 t))
def s_arr0 (p : Int32) (S : SS) : Nat → SS
  | 0 => S
  | m + 1 => if S.1 3 m = p then sp (s_arr0 p S m) 39 m 0 else s_arr0 p S m
def s_spawn (w n : Nat) (S : SS) (t l : Nat) : SS := s_srcs w (nI t) l (s_arr0 (nI t) (sp S 41 t 0) n) n
/-- what a step keeps: the graph, the workers' number, that lines and places agree -/
def kp1 (w n : Nat) (S S' : SS) : Prop := fr S S' ∧ S'.1 0 0 = S.1 0 0 ∧ (LN w n S → LN w n S')
theorem kp1.rf (w n : Nat) (S : SS) : kp1 w n S S := ⟨fr.rf S, rfl, id⟩
theorem kp1.tr {w n : Nat} {S S' S2 : SS} (h : kp1 w n S S') (h2 : kp1 w n S' S2) : kp1 w n S S2 := ⟨h.1.tr h2.1, h2.2.1.trans h.2.1, fun q => h2.2.2 (h.2.2 q)⟩
theorem kp1_token {w n : Nat} (hw : w ≤ 4) (S : SS) {t l : Nat} (ht : t < n) (hl : l ≤ w) : kp1 w n S (s_token w S t l) := ⟨fr_token w S t l, tok_0 S t l, fun h => LN_token hw h ht hl⟩
theorem kp1_sp {w n : Nat} (S : SS) {k : Nat} (hk : 36 ≤ k) (h38 : k ≠ 38) (i : Nat) (x : Int32) : kp1 w n S (sp S k i x) :=
  ⟨fr.sp S hk i x, by rw [sp_r, if_neg (by omega)], fun h => LN_eq h rfl (show mp S.1 k i x 38 = S.1 38 from mp_ne _ _ _ _ (Ne.symm h38))⟩
theorem kp1_sp0 {w n : Nat} (S : SS) {i : Nat} (hi : i ≠ 0) (x : Int32) : kp1 w n S (sp S 0 i x) :=
  ⟨fr.sp0 S i x, by rw [sp_r, if_neg (by omega)], fun h => LN_eq h rfl (show mp S.1 0 i x 38 = S.1 38 from mp_ne _ _ _ _ (by decide))⟩
theorem kp1_srcs {w n : Nat} (hw : w ≤ 4) (S : SS) (p : Int32) {l : Nat} (hl : l ≤ w) {m : Nat} (hm : m ≤ n) : kp1 w n S (s_srcs w p l S m) := ⟨fr_srcs w p l S m, srcs_0 p l S m, fun h => LN_srcs hw h p hl m hm⟩
theorem kp1_arrive {w n : Nat} (hw : w ≤ 4) (S : SS) {b l : Nat} (hb : b < n) (hl : l ≤ w) : kp1 w n S (s_arrive w S b l) := by
  unfold s_arrive
  by_cases h : S.1 39 b + 1 = S.1 8 b
  · rw [if_pos h]; exact (kp1_sp S (by decide) (by decide) b 0).tr (kp1_token hw _ hb hl)
  · rw [if_neg h]; exact kp1_sp S (by decide) (by decide) b _
theorem GR.e1 {n : Nat} {R : MM} (h : GR n R) {t k : Nat} (ht : t < n) (hk : k < tn (R 6 t)) : tn (R (10 + t) k) < n ∧ R (10 + t) k = nI (tn (R (10 + t) k)) := by
  obtain ⟨c, hc6, hc, he⟩ := h.edg t ht
  rw [hc, tnI (by omega)] at hk
  obtain ⟨b, hb, e⟩ := he k hk
  have := h.le
  rw [e, tnI (by omega)]
  exact ⟨hb, rfl⟩
theorem GR.e3 {n : Nat} {R : MM} (h : GR n R) {t k : Nat} (ht : t < n) (hk : k < tn (R 6 t)) : R 3 (tn (R (10 + t) k)) = R 3 t := by
  obtain ⟨c, hc6, hc, he⟩ := h.2.2.2.2.2.1 t ht
  rw [hc, tnI (by omega)] at hk
  obtain ⟨b, hb, e, e2⟩ := he k hk
  have := h.le
  rw [e, tnI (by omega)]
  exact e2
theorem GR.ecn {n : Nat} {R : MM} (h : GR n R) {t : Nat} (ht : t < n) : tn (R 6 t) ≤ 6 ∧ R 6 t = nI (tn (R 6 t)) := by
  obtain ⟨c, hc6, hc, -⟩ := h.edg t ht
  rw [hc, tnI (by omega)]
  exact ⟨hc6, rfl⟩
theorem kp1_edges {w n : Nat} (hw : w ≤ 4) (S : SS) (hG : GR n S.1) {t l : Nat} (ht : t < n) (hl : l ≤ w) : ∀ m, m ≤ tn (S.1 6 t) → kp1 w n S (s_edges w t l S m) := by
  intro m
  induction m with
  | zero => intro _; exact kp1.rf w n S
  | succ m ih =>
    intro hm
    exact (ih (by omega)).tr (kp1_arrive hw _ (hG.e1 ht (by omega)).1 hl)
theorem kp1_pass {w n : Nat} (hw : w ≤ 4) (S : SS) (hG : GR n S.1) {t l : Nat} (ht : t < n) (c : Int32) (hl : l ≤ w) : kp1 w n S (s_pass w S t c l) := by
  unfold s_pass
  by_cases h : S.1 2 t = 1
  · rw [if_pos h]
    by_cases h2 : isT (tn (S.1 6 t)) c = true
    · rw [if_pos h2]
      have := (hG.ecn ht).1
      obtain ⟨j, hj, rfl⟩ := isT_of (by omega) h2
      rw [tnI (show j < 1000 by omega)]
      exact kp1_token hw S (hG.e1 ht hj).1 hl
    · rw [if_neg h2]; exact kp1.rf w n S
  · rw [if_neg h]; exact kp1_edges hw S hG ht hl _ (Nat.le_refl _)
theorem kp1_arr0 {w n : Nat} (p : Int32) (S : SS) : ∀ m, kp1 w n S (s_arr0 p S m) := by
  intro m
  induction m with
  | zero => exact kp1.rf w n S
  | succ m ih =>
    unfold s_arr0
    by_cases h : S.1 3 m = p
    · rw [if_pos h]; exact ih.tr (kp1_sp _ (by decide) (by decide) m 0)
    · rw [if_neg h]; exact ih
theorem kp1_spawn {w n : Nat} (hw : w ≤ 4) (S : SS) (t : Nat) {l : Nat} (hl : l ≤ w) : kp1 w n S (s_spawn w n S t l) :=
  ((kp1_sp S (by decide) (by decide) t 0).tr (kp1_arr0 _ _ n)).tr (kp1_srcs hw _ _ hl (Nat.le_refl n))
/-- what a walk needs to know of a state -/
def WF (w n : Nat) (S : SS) : Prop := w ≤ 4 ∧ S.1 0 0 = nI w ∧ GR n S.1 ∧ LN w n S
theorem WF.k {w n : Nat} {S S' : SS} (h : WF w n S) (hk : kp1 w n S S') : WF w n S' := ⟨h.1, hk.2.1.trans h.2.1, GR_fr hk.1 h.2.2.1, hk.2.2 h.2.2.2⟩
theorem WF.w4 {w n : Nat} {S : SS} (h : WF w n S) : w ≤ 4 := h.1
theorem WF.h0 {w n : Nat} {S : SS} (h : WF w n S) : S.1 0 0 = nI w := h.2.1
theorem WF.g {w n : Nat} {S : SS} (h : WF w n S) : GR n S.1 := h.2.2.1
theorem WF.ln {w n : Nat} {S : SS} (h : WF w n S) : LN w n S := h.2.2.2
theorem WF.le {w n : Nat} {S : SS} (h : WF w n S) : n ≤ 24 := h.2.2.1.1.1
theorem WF.cnt {w n : Nat} {S : SS} (h : WF w n S) : S.1 1 0 = nI n := h.2.2.1.1.2
section CE2
variable {l : Launch} {D : va_G} {cI cZ cL cE : ClassId} {a : Nat → Nat} {w n : Nat}
theorem kE_arrive (hJ : IJ (sX D cI cZ cL cE a w)) {S : SS} (M : MM) (hX : RX w S M) (hF : WF w n S) {t k : Nat} (ht : t < n) (hk : k ≤ w) : Cv l (sX D cI cZ cL cE a w) yE_arrive wE_arrive rmE_arrive [.ref (a 0), .int (nI t), .int (nI k)] M (fun M' => RX w (s_arrive w S t k) M') := by
  have hn := hF.le
  have e39 : M 39 t = S.1 39 t := hX.at (by decide) t
  have e8 : M 8 t = S.1 8 t := hX.at (by decide) t
  refine oE_arrive hJ hF.w4 ⟨t, rfl, by omega, ?_⟩
  rintro M2 rfl
  rw [mp_at, if_pos ⟨rfl, rfl⟩, mp_at, if_neg (by omega), e39, e8]
  refine ⟨fun h => ?_, fun h => ?_⟩
  · unfold s_arrive
    rw [if_neg h]
    exact hX.sp (by decide) _ _
  · rintro M3 rfl
    have e : mp (mp M 39 t (S.1 39 t + 1)) 39 t 0 = mp M 39 t 0 := by
      funext k i
      rw [mp_at, mp_at, mp_at]
      by_cases q : k = 39 ∧ i = t
      · rw [if_pos q, if_pos q]
      · rw [if_neg q, if_neg q, if_neg q]
    rw [e]
    have hk1 := kp1_sp (w := w) (n := n) S (k := 39) (by decide) (by decide) t 0
    refine ⟨_, kE_sendToken hJ hF.w4 hn _ (hX.sp (by decide) t 0) (hF.k hk1).h0 (hF.k hk1).ln ht hk, fun M' hM => ?_⟩
    unfold s_arrive
    rw [if_pos h]
    exact hM
theorem kE_passOn (hJ : IJ (sX D cI cZ cL cE a w)) {S : SS} (M : MM) (hX : RX w S M) (hF : WF w n S) {t k : Nat} (ht : t < n) (c : Int32) (hk : k ≤ w) : Cv l (sX D cI cZ cL cE a w) yE_passOn wE_passOn rmE_passOn [.ref (a 0), .int (nI t), .int c, .int (nI k)] M (fun M' => RX w (s_pass w S t c k) M') := by
  have hn := hF.le
  have hG := hF.g
  have hw := hF.w4
  obtain ⟨h6, e6⟩ := hG.ecn ht
  refine oE_passOn hJ (fun G hl hR F => ?_)
  subst hl
  have lp : ¬ S.1 2 t = 1 → ∀ m j M', j + m = tn (S.1 6 t) → RX w (s_edges w t k S j) M' → wx G (sX D cI cZ cL cE a w) 5 (Qxv G (sX D cI cZ cL cE a w) (fun M' => RX w (s_pass w S t c k) M')) M' 50 [(0, .ref (a 0)), (1, .int (nI t)), (2, .int c), (3, .int (nI k)), (4, .int (nI j))] [] := by
    intro h2 m
    induction m with
    | zero =>
      intro j M' hj hX'
      have hj : j = tn (S.1 6 t) := by omega
      have f1 := (kp1_edges hw S hG ht hk j (by omega)).1
      have h4 : M' 6 t ≤ nI j := by rw [hX'.at (by decide), f1 6 (by decide) (by decide), e6]; exact (nle (by omega) (by omega)).mpr (by omega)
      refine sE_passOn_50 F hw hR (K50 := fun _ _ _ _ _ => False) (fun _ _ _ _ _ q => q.elim) ⟨t, rfl, by omega, fun _ => ?_, fun q => absurd h4 q⟩
      unfold s_pass
      rw [if_neg h2, ← hj]
      exact hX'
    | succ m ih =>
      intro j M' hj hX'
      have hk1 := kp1_edges hw S hG ht hk j (by omega)
      have f1 := hk1.1
      have h4 : ¬ M' 6 t ≤ nI j := by rw [hX'.at (by decide), f1 6 (by decide) (by decide), e6]; intro q; have := (nle (by omega) (by omega)).mp q; omega
      obtain ⟨hb, eb⟩ := hG.e1 ht (k := j) (by omega)
      have e10 : M' (10 + t) j = nI (tn (S.1 (10 + t) j)) := by rw [hX'.at (by omega), f1 (10 + t) (by omega) (by omega)]; exact eb
      refine sE_passOn_50 F hw hR (K50 := fun M2 x1 x2 x3 x4 => x1 = nI t ∧ x2 = c ∧ x3 = nI k ∧ x4 = nI (j + 1) ∧ RX w (s_edges w t k S (j + 1)) M2) ?_ ⟨t, rfl, by omega, fun q => absurd q h4, fun _ => ⟨j, rfl, by omega, ?_⟩⟩
      · rintro M2 x1 x2 x3 x4 ⟨rfl, rfl, rfl, rfl, hh⟩
        exact ih (j + 1) M2 (by omega) hh
      · rw [e10]
        exact ⟨_, kE_arrive hJ M' hX' (hF.k hk1) hb hk, fun M2 hM2 => ⟨rfl, rfl, rfl, nI_1 j, hM2⟩⟩
  have e2 : M 2 t = S.1 2 t := hX.at (by decide) t
  have e6' : M 6 t = S.1 6 t := hX.at (by decide) t
  refine sE_passOn_0 F hw hR (K50 := fun M' x1 x2 x3 x4 => M' = M ∧ x1 = nI t ∧ x2 = c ∧ x3 = nI k ∧ x4 = nI 0 ∧ ¬ S.1 2 t = 1) ?_ ⟨t, rfl, by omega, fun h => ⟨rfl, rfl, rfl, rfl, rfl, by rw [← e2]; exact h⟩, fun h => ⟨fun h1 => ?_, fun h1 => ⟨fun h3 => ?_, fun h3 => ?_⟩⟩⟩
  · rintro M' x1 x2 x3 x4 ⟨rfl, rfl, rfl, rfl, rfl, hh⟩
    exact lp hh (tn (S.1 6 t)) 0 M' (by omega) hX
  · unfold s_pass
    rw [if_pos (e2.symm.trans h), if_neg]
    · exact hX
    · rw [isT, decide_eq_true_iff]
      exact fun q => Int32.not_lt.mpr q.1 h1
  · unfold s_pass
    rw [if_pos (e2.symm.trans h), if_neg]
    · exact hX
    · rw [isT, decide_eq_true_iff, ← e6, ← e6']
      exact fun q => Int32.not_lt.mpr h3 q.2
  · have hT : isT (tn (S.1 6 t)) c = true := by
      rw [isT, decide_eq_true_iff, ← e6, ← e6']
      exact ⟨Int32.not_lt.mp h1, Int32.not_le.mp h3⟩
    obtain ⟨j, hj, rfl⟩ := isT_of (by omega) hT
    obtain ⟨hb, eb⟩ := hG.e1 ht hj
    refine ⟨j, rfl, by omega, ?_⟩
    rw [hX.at (by omega) j, eb]
    refine ⟨_, kE_sendToken hJ hw hn M hX hF.h0 hF.ln hb hk, fun M' hM => ?_⟩
    unfold s_pass
    rw [if_pos (e2.symm.trans h), if_pos hT, tnI (show j < 1000 by omega)]
    exact hM
theorem kE_spawn (hJ : IJ (sX D cI cZ cL cE a w)) {S : SS} (M : MM) (hX : RX w S M) (hF : WF w n S) {t k : Nat} (ht : t < n) (hk : k ≤ w) : Cv l (sX D cI cZ cL cE a w) yE_spawn wE_spawn rmE_spawn [.ref (a 0), .int (nI t), .int (nI k)] M (fun M' => RX w (s_spawn w n S t k) M') := by
  have hn := hF.le
  have hw := hF.w4
  refine oE_spawn hJ (fun G hl hR F => ?_)
  subst hl
  have hk0 := kp1_sp (w := w) (n := n) S (k := 41) (by decide) (by decide) t 0
  have hF0 := hF.k hk0
  have lp : ∀ m j M', j + m = n → RX w (s_arr0 (nI t) (sp S 41 t 0) j) M' → wx G (sX D cI cZ cL cE a w) 4 (Qxv G (sX D cI cZ cL cE a w) (fun M' => RX w (s_spawn w n S t k) M')) M' 9 [(0, .ref (a 0)), (1, .int (nI t)), (2, .int (nI k)), (3, .int (nI j))] [] := by
    intro m
    induction m with
    | zero =>
      intro j M' hj hX'
      have hj : j = n := by omega
      subst hj
      have hk1 := kp1_arr0 (w := w) (n := j) (nI t) (sp S 41 t 0) j
      have hF1 := hF0.k hk1
      have h4 : M' 1 0 ≤ nI j := by rw [hX'.at (by decide), hF1.cnt]; exact (nle (by omega) (by omega)).mpr (by omega)
      refine sE_spawn_9 F hw hR (K9 := fun _ _ _ _ => False) (fun _ _ _ _ q => q.elim) ⟨fun _ => ⟨_, kE_sendToSources hJ hw M' hX' hF1.h0 hF1.g hF1.ln (nI t) hk, fun M2 hM2 => hM2⟩, fun q => absurd h4 q⟩
    | succ m ih =>
      intro j M' hj hX'
      have hk1 := kp1_arr0 (w := w) (n := n) (nI t) (sp S 41 t 0) j
      have hF1 := hF0.k hk1
      have h4 : ¬ M' 1 0 ≤ nI j := by rw [hX'.at (by decide), hF1.cnt]; intro q; have := (nle (by omega) (by omega)).mp q; omega
      have e3 : M' 3 j = (sp S 41 t 0).1 3 j := by rw [hX'.at (by decide), hk1.1 3 (by decide) (by decide)]
      refine sE_spawn_9 F hw hR (K9 := fun M2 x1 x2 x3 => x1 = nI t ∧ x2 = nI k ∧ x3 = nI (j + 1) ∧ RX w (s_arr0 (nI t) (sp S 41 t 0) (j + 1)) M2) ?_ ⟨fun q => absurd q h4, fun _ => ⟨j, rfl, by omega, fun h5 => ⟨rfl, rfl, nI_1 j, ?_⟩, fun h5 => ?_⟩⟩
      · rintro M2 x1 x2 x3 ⟨rfl, rfl, rfl, hh⟩
        exact ih (j + 1) M2 (by omega) hh
      · unfold s_arr0
        rw [if_neg (fun q => h5 (e3.trans q))]
        exact hX'
      · rintro M2 rfl
        refine ⟨rfl, rfl, nI_1 j, ?_⟩
        unfold s_arr0
        rw [if_pos (e3.symm.trans h5)]
        exact hX'.sp (by decide) _ _
  refine sE_spawn_0 F hw hR (K9 := fun M' x1 x2 x3 => M' = mp M 41 t 0 ∧ x1 = nI t ∧ x2 = nI k ∧ x3 = nI 0) ?_ ⟨t, rfl, by omega, ?_⟩
  · rintro M' x1 x2 x3 ⟨rfl, rfl, rfl, rfl⟩
    exact lp n 0 _ (by omega) (hX.sp (by decide) _ _)
  · rintro M2 rfl
    exact ⟨rfl, rfl, rfl, rfl⟩
end CE2
