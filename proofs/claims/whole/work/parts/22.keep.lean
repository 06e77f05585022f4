/-! What tokens leave as it is; what is true between two calls -/
theorem sp_ne (S : SS) (k i : Nat) (x : Int32) (k' : Nat) (h : k' ≠ k) : (sp S k i x).1 k' = S.1 k' := mp_ne S.1 k i x h
/-- tokens: places change from 0 alone, and below n; arrivals below n; the count of lost ones; who was hurt -/
def tf (n : Nat) (S S' : SS) : Prop := (∀ k, 1 ≤ k → k < 38 → S'.1 k = S.1 k) ∧ S'.1 40 = S.1 40 ∧ (∀ i, i ≠ 15 → S'.1 0 i = S.1 0 i) ∧ up38 S S' ∧ ∀ k i, n ≤ i → 38 ≤ k → k ≤ 39 → S'.1 k i = S.1 k i
theorem tf.rf (n : Nat) (S : SS) : tf n S S := ⟨fun _ _ _ => rfl, rfl, fun _ _ => rfl, fun _ _ => rfl, fun _ _ _ _ _ => rfl⟩
theorem tf.tr {n : Nat} {S S' S2 : SS} (h : tf n S S') (h2 : tf n S' S2) : tf n S S2 :=
  ⟨fun k a b => (h2.1 k a b).trans (h.1 k a b), h2.2.1.trans h.2.1, fun i a => (h2.2.2.1 i a).trans (h.2.2.1 i a), fun i hi => by rw [h2.2.2.2.1 i (by rw [h.2.2.2.1 i hi]; exact hi), h.2.2.2.1 i hi], fun k i a b c => (h2.2.2.2.2 k i a b c).trans (h.2.2.2.2 k i a b c)⟩
theorem tf_tok (w : Nat) {n : Nat} (S : SS) {t : Nat} (ht : t < n) (l : Nat) : tf n S (s_token w S t l) := by
  refine ⟨?_, ?_, ?_, up38_tok w S t l, ?_⟩
  · intro k h1 h2
    unfold s_token
    by_cases e : S.1 38 t = 0
    · rw [if_pos e]; exact mp_ne S.1 38 t _ (by omega)
    · rw [if_neg e]; exact mp_ne S.1 0 15 _ (by omega)
  · unfold s_token
    by_cases e : S.1 38 t = 0
    · rw [if_pos e]; exact sp_ne S 38 t (cd w (l + 1)) 40 (by decide)
    · rw [if_neg e]; exact sp_ne S 0 15 (S.1 0 15 + 1) 40 (by decide)
  · intro i hi
    unfold s_token
    by_cases e : S.1 38 t = 0
    · rw [if_pos e]
      show mp S.1 38 t (cd w (l + 1)) 0 i = _
      rw [mp_at, if_neg (by omega)]
    · rw [if_neg e, sp_r, if_neg (by omega)]
  · intro k i hi h1 h2
    unfold s_token
    by_cases e : S.1 38 t = 0
    · rw [if_pos e]
      show mp S.1 38 t (cd w (l + 1)) k i = _
      rw [mp_at, if_neg (by omega)]
    · rw [if_neg e, sp_r, if_neg (by omega)]
theorem tf_39 {n : Nat} (S : SS) {t : Nat} (ht : t < n) (x : Int32) : tf n S (sp S 39 t x) :=
  ⟨fun k _ _ => mp_ne S.1 39 t x (by omega), sp_ne S 39 t x 40 (by decide), fun i _ => by rw [sp_r, if_neg (by omega)], fun i _ => by rw [sp_r, if_neg (by omega)], fun k i _ _ _ => by rw [sp_r, if_neg (by omega)]⟩
theorem tf_41 {n : Nat} (S : SS) (t : Nat) (x : Int32) : tf n S (sp S 41 t x) :=
  ⟨fun k _ _ => mp_ne S.1 41 t x (by omega), sp_ne S 41 t x 40 (by decide), fun i _ => by rw [sp_r, if_neg (by omega)], fun i _ => by rw [sp_r, if_neg (by omega)], fun k i _ _ _ => by rw [sp_r, if_neg (by omega)]⟩
theorem tf_arrive (w : Nat) {n : Nat} (S : SS) {b : Nat} (hb : b < n) (l : Nat) : tf n S (s_arrive w S b l) := by
  unfold s_arrive
  by_cases h : S.1 39 b + 1 = S.1 8 b
  · rw [if_pos h]; exact (tf_39 S hb 0).tr (tf_tok w _ hb l)
  · rw [if_neg h]; exact tf_39 S hb _
theorem tf_edges (w : Nat) {n : Nat} (S : SS) (hG : GR n S.1) {t : Nat} (ht : t < n) (l : Nat) : ∀ m, m ≤ tn (S.1 6 t) → tf n S (s_edges w t l S m) := by
  intro m
  induction m with
  | zero => intro _; exact tf.rf n S
  | succ m ih => intro hm; exact (ih (by omega)).tr (tf_arrive w _ (hG.e1 ht (by omega)).1 l)
theorem tf_pass (w : Nat) {n : Nat} (S : SS) (hG : GR n S.1) {t : Nat} (ht : t < n) (c : Int32) (l : Nat) : tf n S (s_pass w S t c l) := by
  unfold s_pass
  by_cases h : S.1 2 t = 1
  · rw [if_pos h]
    by_cases h2 : isT (tn (S.1 6 t)) c = true
    · rw [if_pos h2]
      have := (hG.ecn ht).1
      obtain ⟨j, hj, rfl⟩ := isT_of (by omega) h2
      rw [tnI (show j < 1000 by omega)]
      exact tf_tok w S (hG.e1 ht hj).1 l
    · rw [if_neg h2]; exact tf.rf n S
  · rw [if_neg h]; exact tf_edges w S hG ht l _ (Nat.le_refl _)
theorem tf_srcs (w : Nat) {n : Nat} (p : Int32) (l : Nat) (S : SS) : ∀ m, m ≤ n → tf n S (s_srcs w p l S m) := by
  intro m
  induction m with
  | zero => intro _; exact tf.rf n S
  | succ m ih =>
    intro hm
    unfold s_srcs
    by_cases e : S.1 3 m = p ∧ S.1 7 m = 0
    · rw [if_pos e]; exact (ih (by omega)).tr (tf_tok w _ (by omega) l)
    · rw [if_neg e]; exact ih (by omega)
theorem tf_arr0 {n : Nat} (p : Int32) (S : SS) : ∀ m, m ≤ n → tf n S (s_arr0 p S m) := by
  intro m
  induction m with
  | zero => intro _; exact tf.rf n S
  | succ m ih =>
    intro hm
    unfold s_arr0
    by_cases e : S.1 3 m = p
    · rw [if_pos e]; exact (ih (by omega)).tr (tf_39 _ (by omega) 0)
    · rw [if_neg e]; exact ih (by omega)
theorem tf_spawn (w : Nat) {n : Nat} (S : SS) (t l : Nat) : tf n S (s_spawn w n S t l) :=
  ((tf_41 S t 0).tr (tf_arr0 _ _ n (Nat.le_refl _))).tr (tf_srcs w _ l _ n (Nat.le_refl _))
theorem tf_hurt {n : Nat} (S : SS) (t : Nat) (fl : Bool) : tf n S (s_hurt S t fl) := by
  unfold s_hurt
  by_cases h : fl = true
  · rw [if_pos h]; exact tf_41 S _ _
  · rw [if_neg h]; exact tf.rf n S
theorem tf_up {n : Nat} (S : SS) (t : Nat) (fl : Bool) : tf n S (s_up n S t fl).2 := by
  unfold s_up
  by_cases h : S.1 3 t = -1 ∨ S.1 2 (tn (S.1 3 t)) ≠ 2
  · rw [if_pos h]; exact tf.rf n S
  · rw [if_neg h]
    by_cases h2 : s_act n (s_hurt S t fl) (S.1 3 t) = true
    · rw [if_pos h2]; exact tf_hurt S t fl
    · rw [if_neg h2]; exact tf_hurt S t fl
/-- a task ends: as tokens, and its place becomes 0 -/
def ef (n t : Nat) (S S' : SS) : Prop := (∀ k, 1 ≤ k → k < 38 → S'.1 k = S.1 k) ∧ S'.1 40 = S.1 40 ∧ (∀ i, i ≠ 15 → S'.1 0 i = S.1 0 i) ∧ (∀ i, i ≠ t → S.1 38 i ≠ 0 → S.1 38 i ≠ 2 → S'.1 38 i = S.1 38 i) ∧ ∀ k i, n ≤ i → 38 ≤ k → k ≤ 39 → S'.1 k i = S.1 k i
theorem ef_out (w : Nat) {n : Nat} (c : Int32) (l : Nat) (S : SS) (hG : GR n S.1) {t : Nat} (ht : t < n) (fl : Bool) : ef n t S (s_out w c l S t fl) := by
  have h0 : ef n t S (sp S 38 t 0) := ⟨fun k _ _ => mp_ne S.1 38 t 0 (by omega), sp_ne S 38 t 0 40 (by decide), fun i _ => by rw [sp_r, if_neg (by omega)], fun i hi _ _ => by rw [sp_r, if_neg (by omega)], fun k i _ _ _ => by rw [sp_r, if_neg (by omega)]⟩
  unfold s_out
  by_cases h : fl = false ∧ S.1 0 11 = 0
  · rw [if_pos h]
    have hf := fr.sp S (k := 38) (by decide) t 0
    have h2 := tf_pass w (sp S 38 t 0) (GR_fr hf hG) ht c l
    exact ⟨fun k a b => (h2.1 k a b).trans (h0.1 k a b), h2.2.1.trans h0.2.1, fun i a => (h2.2.2.1 i a).trans (h0.2.2.1 i a), fun i a b d => by rw [h2.2.2.2.1 i (by rw [h0.2.2.2.1 i a b d]; exact b), h0.2.2.2.1 i a b d], fun k i a b d => (h2.2.2.2.2 k i a b d).trans (h0.2.2.2.2 k i a b d)⟩
  · rw [if_neg h]; exact h0
theorem ef_end {w n : Nat} (c : Int32) {l : Nat} (hl : l ≤ w) : ∀ (f : Nat) (S : SS) (t : Nat) (fl : Bool), WF w n S → JW n S → PE w n S t → ef n t S (s_end w n c l f S t fl).2 := by
  intro f
  induction f with
  | zero => intro S t fl _ _ _; exact ⟨fun _ _ _ => rfl, rfl, fun _ _ => rfl, fun _ _ _ _ => rfl, fun _ _ _ _ _ => rfl⟩
  | succ f ih =>
    intro S t fl hF hJ hP
    obtain ⟨o1, o2, o3⟩ := out_inv hF hJ hP c hl fl
    obtain ⟨u1, u2, u3⟩ := up_inv (hF.k o1) o2 hP.1 o3 fl
    have h1 := ef_out w c l S hF.g hP.1 fl
    have h2 := tf_up (n := n) (s_out w c l S t fl) t fl
    have h12 : ef n t S (s_up n (s_out w c l S t fl) t fl).2 := ⟨fun k a b => (h2.1 k a b).trans (h1.1 k a b), h2.2.1.trans h1.2.1, fun i a => (h2.2.2.1 i a).trans (h1.2.2.1 i a), fun i a b d => by rw [h2.2.2.2.1 i (by rw [h1.2.2.2.1 i a b d]; exact b), h1.2.2.2.1 i a b d], fun k i a b d => (h2.2.2.2.2 k i a b d).trans (h1.2.2.2.2 k i a b d)⟩
    unfold s_end
    cases hu : s_up n (s_out w c l S t fl) t fl with
    | mk o S1 =>
      rw [hu] at u1 u2 u3 h12
      cases o with
      | none => exact h12
      | some p =>
        have hp := u3 p rfl
        have h3 := ih S1 p (decide (S1.1 41 p ≠ 0)) ((hF.k o1).k u1) u2 hp.1
        have e3 : S.1 3 t = nI p := by rw [← o1.1 3 (by decide) (by decide)]; exact hp.2
        refine ⟨fun k a b => (h3.1 k a b).trans (h12.1 k a b), h3.2.1.trans h12.2.1, fun i a => (h3.2.2.1 i a).trans (h12.2.2.1 i a), fun i a b d => ?_, fun k i a b d => (h3.2.2.2.2 k i a b d).trans (h12.2.2.2.2 k i a b d)⟩
        have e1 := h12.2.2.2.1 i a b d
        have hip : i ≠ p := fun q => by
          subst q
          have h2' : S.1 2 i = 2 := by
            have h5 := hu
            unfold s_up at h5
            by_cases z : (s_out w c l S t fl).1 3 t = -1 ∨ (s_out w c l S t fl).1 2 (tn ((s_out w c l S t fl).1 3 t)) ≠ 2
            · rw [if_pos z] at h5; cases h5
            · have z2 : (s_out w c l S t fl).1 2 (tn ((s_out w c l S t fl).1 3 t)) = 2 := Classical.byContradiction fun y => z (Or.inr y)
              have hn := hF.le
              have hi := hp.1.1
              rw [o1.1 3 (by decide) (by decide), o1.1 2 (by decide) (by decide), e3, tnI (by omega)] at z2
              exact z2
          exact d (hJ t hP.1 hP.2.1 i hp.1.1 e3 h2')
        rw [h3.2.2.2.1 i hip (by rw [e1]; exact b) (by rw [e1]; exact d)]
        exact e1
/-- running workers' tasks -/
def RU (w n : Nat) (S : SS) : Prop := ∀ k, k < w → S.1 37 k = -1 ∨ ∃ t, t < n ∧ S.1 37 k = nI t ∧ S.1 38 t = nI (3 + k)
def BH (n : Nat) (S : SS) : Prop := ∀ t, n ≤ t → S.1 38 t = 0 ∧ S.1 39 t = 0 ∧ S.1 40 t = 0
/-- between two calls -/
def IV (w n : Nat) (S : SS) : Prop := WF w n S ∧ JW n S ∧ RU w n S ∧ BH n S
theorem n3_0 {k : Nat} (h : k < 100) : nI (3 + k) ≠ 0 := nI_ne0 (by omega) (by omega)
theorem n3_2 {k : Nat} (h : k < 100) : nI (3 + k) ≠ 2 := fun q => by
  have := (neq (b := 2) (by omega) (by omega)).mp q
  omega
theorem n3_cd {w k : Nat} (hw : w ≤ 4) (hk : k < w) {l : Nat} (hl : l < w + 2) : nI (3 + k) ≠ cd w l := by
  rw [cd_n]
  intro q
  have a1 := cdn_lt hw hl
  have q := (neq (by omega) (by omega)).mp q
  unfold cdn at q
  (repeat' split at q) <;> omega
theorem RU_up {w n : Nat} (hw : w ≤ 4) {S S' : SS} (h : RU w n S) (h37 : S'.1 37 = S.1 37) (hu : up38 S S') : RU w n S' := by
  intro k hk
  rw [h37]
  rcases h k hk with e | ⟨t, h1, h2, h3⟩
  · exact Or.inl e
  · exact Or.inr ⟨t, h1, h2, by rw [hu t (by rw [h3]; exact n3_0 (by omega))]; exact h3⟩
theorem RU_tf {w n : Nat} (hw : w ≤ 4) {S S' : SS} (h : RU w n S) (hf : tf n S S') : RU w n S' := RU_up hw h (hf.1 37 (by decide) (by decide)) hf.2.2.2.1
theorem RU_ef {w n t : Nat} (hw : w ≤ 4) {S S' : SS} (h : RU w n S) (hf : ef n t S S') (ht : ∀ k, k < w → S.1 37 k ≠ nI t) : RU w n S' := by
  intro k hk
  rw [hf.1 37 (by decide) (by decide)]
  rcases h k hk with e | ⟨t', h1, h2, h3⟩
  · exact Or.inl e
  · refine Or.inr ⟨t', h1, h2, ?_⟩
    rw [hf.2.2.2.1 t' (fun q => ht k hk (by rw [h2, q])) (by rw [h3]; exact n3_0 (by omega)) (by rw [h3]; exact n3_2 (by omega))]
    exact h3
theorem BH_tf {n : Nat} {S S' : SS} (h : BH n S) (hf : tf n S S') : BH n S' := fun t ht => by
  obtain ⟨h1, h2, h3⟩ := h t ht
  exact ⟨by rw [hf.2.2.2.2 38 t ht (by decide) (by decide)]; exact h1, by rw [hf.2.2.2.2 39 t ht (by decide) (by decide)]; exact h2, by rw [hf.2.1]; exact h3⟩
theorem BH_ef {n t0 : Nat} {S S' : SS} (h : BH n S) (hf : ef n t0 S S') : BH n S' := fun t ht => by
  obtain ⟨h1, h2, h3⟩ := h t ht
  exact ⟨by rw [hf.2.2.2.2 38 t ht (by decide) (by decide)]; exact h1, by rw [hf.2.2.2.2 39 t ht (by decide) (by decide)]; exact h2, by rw [hf.2.1]; exact h3⟩
theorem JW_srcs {w n : Nat} {p : Int32} {l : Nat} {S : SS} (hj : JW n S) (hp : ∀ b, b < n → S.1 3 b = p → PW n S b) : ∀ m, m ≤ n → JW n (s_srcs w p l S m) := by
  intro m
  induction m with
  | zero => intro _; exact hj
  | succ m ih =>
    intro hm
    unfold s_srcs
    by_cases e : S.1 3 m = p ∧ S.1 7 m = 0
    · rw [if_pos e]
      refine JW_tok (ih (by omega)) (PW_up (hp m (by omega) e.1) (fr_srcs w p l S m) (tf_srcs (n := n) w p l S m (by omega)).2.2.2.1)
    · rw [if_neg e]; exact ih (by omega)
theorem IV_round {w n : Nat} {S : SS} (h : IV w n S) : IV w n (s_round w n S) := by
  obtain ⟨hF, hJ, hR, hB⟩ := h
  have hw := hF.w4
  have e38 : (s_round0 S).1 38 = S.1 38 := by
    funext i
    unfold s_round0
    rw [s_fill_at, if_neg (by omega), sp_r, if_neg (by omega)]
  have e37 : (s_round0 S).1 37 = S.1 37 := by
    funext i
    unfold s_round0
    rw [s_fill_at, if_neg (by omega), sp_r, if_neg (by omega)]
  have hk := kp1_round0 (w := w) (n := n) S
  have hF2 := hF.k hk
  have hJ2 := JW_eq hJ hk.1 e38
  have ht := tf_srcs w (-1) w (s_round0 S) n (Nat.le_refl n)
  refine ⟨hF.k (kp1_round hw S), JW_srcs hJ2 (fun b hb e p hp h3 _ => ?_) n (Nat.le_refl _), RU_tf hw (RU_up hw hR e37 (fun i _ => by rw [e38])) ht, BH_tf (fun t ht => ?_) ht⟩
  · rw [e] at h3
    have := hF.le
    exact absurd h3.symm (nm1 (by omega))
  · obtain ⟨h1, h2, h3⟩ := hB t ht
    unfold s_round0
    refine ⟨by rw [s_fill_at, if_neg (by omega), sp_r, if_neg (by omega)]; exact h1, ?_, by rw [s_fill_at, if_neg (by omega), sp_r, if_neg (by omega)]; exact h3⟩
    rw [s_fill_at]
    by_cases q : 39 = 39 ∧ t < 24
    · rw [if_pos q]
    · rw [if_neg q, sp_r, if_neg (by omega)]; exact h2
theorem IV_sp0 {w n : Nat} {S : SS} (h : IV w n S) {i : Nat} (hi : i ≠ 0) (x : Int32) : IV w n (sp S 0 i x) := by
  obtain ⟨hF, hJ, hR, hB⟩ := h
  refine ⟨hF.k (kp1_sp0 S hi x), JW_eq hJ (fr.sp0 S i x) (sp_ne S 0 i x 38 (by decide)), RU_up hF.w4 hR (sp_ne S 0 i x 37 (by decide)) (fun j _ => by rw [sp_r, if_neg (by omega)]), fun t ht => ?_⟩
  rw [sp_r, if_neg (by omega), sp_r, if_neg (by omega), sp_r, if_neg (by omega)]
  exact hB t ht
theorem IV_close {w n : Nat} {S : SS} (h : IV w n S) : IV w n (s_close w n S) := by
  unfold s_close
  by_cases h1 : s_any n S = true
  · rw [if_pos h1]; exact h
  · rw [if_neg h1]
    by_cases h2 : S.1 0 11 ≠ 0 ∨ S.1 0 12 ≠ -1 ∨ ¬ S.1 0 14 < S.1 0 13
    · rw [if_pos h2]; exact IV_sp0 h (by decide) _
    · rw [if_neg h2]; exact IV_round h
