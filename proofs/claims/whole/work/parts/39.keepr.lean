/-! What the reference needs besides: who runs, what is held, rounds; every call keeps it -/
/-- no place becomes a running one -/
def nr (w : Nat) (S S' : SS) : Prop := ∀ t k, k < w → S'.1 38 t = nI (3 + k) → S.1 38 t = nI (3 + k)
theorem nr.rf (w : Nat) (S : SS) : nr w S S := fun _ _ _ h => h
theorem nr.tr {w : Nat} {S S' S2 : SS} (h : nr w S S') (h2 : nr w S' S2) : nr w S S2 := fun t k hk q => h t k hk (h2 t k hk q)
theorem nr_eq {w : Nat} {S S' : SS} (h : S'.1 38 = S.1 38) : nr w S S' := fun t k _ q => by rw [h] at q; exact q
theorem nr_tok {w : Nat} (hw : w ≤ 4) (S : SS) (t : Nat) {l : Nat} (hl : l ≤ w) : nr w S (s_token w S t l) := fun i k hk q => by
  rw [tok_38] at q
  by_cases e : i = t ∧ S.1 38 t = 0
  · rw [if_pos e] at q; exact absurd q.symm (n3_cd hw hk (by omega))
  · rw [if_neg e] at q; exact q
theorem nr_arrive {w : Nat} (hw : w ≤ 4) (S : SS) (b : Nat) {l : Nat} (hl : l ≤ w) : nr w S (s_arrive w S b l) := by
  unfold s_arrive
  by_cases h : S.1 39 b + 1 = S.1 8 b
  · rw [if_pos h]; exact (nr_eq (sp_ne S 39 b 0 38 (by decide))).tr (nr_tok hw _ b hl)
  · rw [if_neg h]; exact nr_eq (sp_ne S 39 b _ 38 (by decide))
theorem nr_edges {w : Nat} (hw : w ≤ 4) (S : SS) (t : Nat) {l : Nat} (hl : l ≤ w) : ∀ m, nr w S (s_edges w t l S m) := by
  intro m
  induction m with
  | zero => exact nr.rf w S
  | succ m ih => exact ih.tr (nr_arrive hw _ _ hl)
theorem nr_pass {w : Nat} (hw : w ≤ 4) (S : SS) (t : Nat) (c : Int32) {l : Nat} (hl : l ≤ w) : nr w S (s_pass w S t c l) := by
  unfold s_pass
  by_cases h : S.1 2 t = 1
  · rw [if_pos h]
    by_cases h2 : isT (tn (S.1 6 t)) c = true
    · rw [if_pos h2]; exact nr_tok hw S _ hl
    · rw [if_neg h2]; exact nr.rf w S
  · rw [if_neg h]; exact nr_edges hw S t hl _
theorem nr_srcs {w : Nat} (hw : w ≤ 4) (p : Int32) {l : Nat} (hl : l ≤ w) (S : SS) : ∀ m, nr w S (s_srcs w p l S m) := by
  intro m
  induction m with
  | zero => exact nr.rf w S
  | succ m ih =>
    unfold s_srcs
    by_cases e : S.1 3 m = p ∧ S.1 7 m = 0
    · rw [if_pos e]; exact ih.tr (nr_tok hw _ m hl)
    · rw [if_neg e]; exact ih
theorem nr_spawn {w n : Nat} (hw : w ≤ 4) (S : SS) (t : Nat) {l : Nat} (hl : l ≤ w) : nr w S (s_spawn w n S t l) := by
  refine ((nr_eq (sp_ne S 41 t 0 38 (by decide))).tr (nr_eq ?_)).tr (nr_srcs hw (nI t) hl _ n)
  funext i
  rw [arr0_at, if_neg (by omega)]
theorem nr_up {w n : Nat} (S : SS) (t : Nat) (fl : Bool) : nr w S (s_up n S t fl).2 := by
  refine nr_eq ?_
  unfold s_up
  by_cases h : S.1 3 t = -1 ∨ S.1 2 (tn (S.1 3 t)) ≠ 2
  · rw [if_pos h]
  · rw [if_neg h]
    by_cases h2 : s_act n (s_hurt S t fl) (S.1 3 t) = true
    · rw [if_pos h2]; exact hurt_38 S t fl
    · rw [if_neg h2]; exact hurt_38 S t fl
theorem nr_0 {w : Nat} (hw : w ≤ 4) (S : SS) (t : Nat) : nr w S (sp S 38 t 0) := fun i k hk q => by
  rw [sp_r] at q
  by_cases e : i = t
  · rw [if_pos ⟨rfl, e⟩] at q; exact absurd q.symm (n3_0 (by omega))
  · rw [if_neg (fun z => e z.2)] at q; exact q
theorem nr_out {w : Nat} (hw : w ≤ 4) (c : Int32) {l : Nat} (hl : l ≤ w) (S : SS) (t : Nat) (fl : Bool) : nr w (sp S 38 t 0) (s_out w c l S t fl) := by
  unfold s_out
  by_cases h : fl = false ∧ S.1 0 11 = 0
  · rw [if_pos h]; exact nr_pass hw _ t c hl
  · rw [if_neg h]; exact nr.rf w _
theorem nr_end {w n : Nat} (hw : w ≤ 4) (c : Int32) {l : Nat} (hl : l ≤ w) : ∀ (f : Nat) (S : SS) (t : Nat) (fl : Bool), nr w S (s_end w n c l f S t fl).2 ∧ (0 < f → nr w (sp S 38 t 0) (s_end w n c l f S t fl).2) := by
  intro f
  induction f with
  | zero => intro S t fl; exact ⟨nr.rf w S, fun h => absurd h (Nat.lt_irrefl _)⟩
  | succ f ih =>
    intro S t fl
    have key : nr w (sp S 38 t 0) (s_end w n c l (f + 1) S t fl).2 := by
      have h1 := (nr_out hw c hl S t fl).tr (nr_up (n := n) (s_out w c l S t fl) t fl)
      unfold s_end
      cases hu : s_up n (s_out w c l S t fl) t fl with
      | mk o S1 =>
        rw [hu] at h1
        cases o with
        | none => exact h1
        | some p => exact h1.tr (ih S1 p (decide (S1.1 41 p ≠ 0))).1
    exact ⟨(nr_0 hw S t).tr key, fun _ => key⟩
/-- running places stay, and none comes -/
def rq (w n : Nat) (S S' : SS) : Prop := ∀ t, t < n → ∀ k, k < w → (S'.1 38 t = nI (3 + k) ↔ S.1 38 t = nI (3 + k))
theorem rq_tf {w n : Nat} (hw : w ≤ 4) {S S' : SS} (h : tf n S S') (h2 : nr w S S') : rq w n S S' := fun t _ k hk => ⟨h2 t k hk, fun q => by rw [h.2.2.2.1 t (by rw [q]; exact n3_0 (by omega))]; exact q⟩
theorem isR_rq {w n : Nat} {S S' : SS} (h : rq w n S S') {t : Nat} (ht : t < n) : isR w S' t = isR w S t := by
  rw [Bool.eq_iff_iff, isR_iff, isR_iff]
  constructor
  · rintro ⟨k, hk, q⟩; exact ⟨k, hk, (h t ht k hk).mp q⟩
  · rintro ⟨k, hk, q⟩; exact ⟨k, hk, (h t ht k hk).mpr q⟩
theorem HU_rq {w n : Nat} {S S' : SS} {ex : Option Nat} (h : HU w n S ex) (h36 : S'.1 36 = S.1 36) (h5 : S'.1 5 = S.1 5) (hr : rq w n S S') : HU w n S' ex := HU_eq h h36 h5 (fun t ht => by rw [isR_rq hr ht])
theorem RV_nr {w n : Nat} {S S' : SS} {ex : Option Nat} (h : RV w n S ex) (h37 : S'.1 37 = S.1 37) (hr : nr w S S') : RV w n S' ex := fun t ht k hk q => by
  rw [h37]
  exact h t ht k hk (hr t k hk q)
/-- what the reference needs besides -/
def IR (w n : Nat) (S : SS) : Prop := RV w n S none ∧ HU w n S none ∧ CP S ∧ TH S ∧ RO S
theorem TH_0q {S S' : SS} (h : TH S) (e : S'.1 0 12 = S.1 0 12) : TH S' := by unfold TH; rw [e]; exact h
theorem RO_0q {S S' : SS} (h : RO S) (e : S'.1 0 13 = S.1 0 13) (e2 : S'.1 0 14 = S.1 0 14) : RO S' := by unfold RO; rw [e, e2]; exact h
theorem IR_0 {w n : Nat} {S : SS} (h : IR w n S) {i : Nat} (x : Int32) (hT : TH (sp S 0 i x)) (hO : RO (sp S 0 i x)) : IR w n (sp S 0 i x) := by
  obtain ⟨h1, h2, h3, -, -⟩ := h
  have e := fun k (q : k ≠ 0) => sp_ne S 0 i x k q
  refine ⟨RV_nr h1 (e 37 (by decide)) (nr_eq (e 38 (by decide))), HU_rq h2 (e 36 (by decide)) (e 5 (by decide)) (fun t _ k _ => by rw [e 38 (by decide)]), CP_fr h3 (fr.sp0 S i x), hT, hO⟩
theorem IR_round {w n : Nat} (hw : w ≤ 4) {S : SS} (h : IR w n S) (hO : RO (sp S 0 14 (S.1 0 14 + 1))) : IR w n (s_round w n S) := by
  have hT : TH (sp S 0 14 (S.1 0 14 + 1)) := TH_0q h.2.2.2.1 (by rw [sp_r, if_neg (by omega)])
  obtain ⟨h1, h2, h3, h4, h5⟩ := IR_0 h (i := 14) (S.1 0 14 + 1) hT hO
  have e : ∀ k, k ≠ 39 → (s_round0 S).1 k = (sp S 0 14 (S.1 0 14 + 1)).1 k := fun k q => by
    funext i
    unfold s_round0
    rw [s_fill_at, if_neg (fun z => q z.1)]
  have t1 := tf_srcs w (-1) w (s_round0 S) n (Nat.le_refl n)
  have n1 := nr_srcs hw (-1) (Nat.le_refl w) (s_round0 S) n
  have q0 : rq w n (sp S 0 14 (S.1 0 14 + 1)) (s_round0 S) := fun t _ k _ => by rw [e 38 (by decide)]
  have q1 := rq_tf hw t1 n1
  refine ⟨RV_nr h1 ((t1.1 37 (by decide) (by decide)).trans (e 37 (by decide))) ((nr_eq (e 38 (by decide))).tr n1), HU_rq h2 ((t1.1 36 (by decide) (by decide)).trans (e 36 (by decide))) ((t1.1 5 (by decide) (by decide)).trans (e 5 (by decide))) (fun t ht k hk => (q1 t ht k hk).trans (q0 t ht k hk)), ?_, TH_0q h4 ?_, RO_0q h5 ?_ ?_⟩
  · intro s hs
    show ∃ u, 1 ≤ u ∧ u ≤ 4 ∧ (s_srcs w (-1) w (s_round0 S) n).1 35 s = nI u
    rw [t1.1 35 (by decide) (by decide), e 35 (by decide)]
    exact h3 s hs
  · show (s_srcs w (-1) w (s_round0 S) n).1 0 12 = _
    rw [t1.2.2.1 12 (by decide), e 0 (by decide)]
  · show (s_srcs w (-1) w (s_round0 S) n).1 0 13 = _
    rw [t1.2.2.1 13 (by decide), e 0 (by decide)]
  · show (s_srcs w (-1) w (s_round0 S) n).1 0 14 = _
    rw [t1.2.2.1 14 (by decide), e 0 (by decide)]
theorem IR_close {w n : Nat} (hw : w ≤ 4) {S : SS} (h : IR w n S) : IR w n (s_close w n S) := by
  unfold s_close
  by_cases h1 : s_any n S = true
  · rw [if_pos h1]; exact h
  · rw [if_neg h1]
    by_cases h2 : S.1 0 11 ≠ 0 ∨ S.1 0 12 ≠ -1 ∨ ¬ S.1 0 14 < S.1 0 13
    · rw [if_pos h2]
      exact IR_0 h (i := 10) 0 (TH_0q h.2.2.2.1 (by rw [sp_r, if_neg (by omega)])) (RO_0q h.2.2.2.2 (by rw [sp_r, if_neg (by omega)]) (by rw [sp_r, if_neg (by omega)]))
    · rw [if_neg h2]
      refine IR_round hw h ?_
      obtain ⟨r, q, hrq, hq9, er, eq'⟩ := h.2.2.2.2
      have hlt : S.1 0 14 < S.1 0 13 := Classical.byContradiction fun z => h2 (Or.inr (Or.inr z))
      rw [er, eq'] at hlt
      have := (nlt (by omega) (by omega)).mp hlt
      refine ⟨r + 1, q, by omega, hq9, ?_, ?_⟩
      · rw [sp_r, if_pos ⟨rfl, rfl⟩, er, nI_1]
      · rw [sp_r, if_neg (by omega)]; exact eq'
theorem cN_one {p q : Nat → Bool} {t : Nat} : ∀ m, t < m → (∀ i, i ≠ t → q i = p i) → q t = false → cN p m = cN q m + if p t = true then 1 else 0 := by
  intro m
  induction m with
  | zero => intro h; exact absurd h (Nat.not_lt_zero _)
  | succ m ih =>
    intro h h1 h2
    show cN p m + (if p m = true then 1 else 0) = cN q m + (if q m = true then 1 else 0) + if p t = true then 1 else 0
    by_cases e : t = m
    · subst e
      rw [cN_congr (f := q) (g := p) t (fun i hi => h1 i (by omega)), h2, if_neg Bool.false_ne_true]
      omega
    · rw [ih (by omega) h1 h2, h1 m (Ne.symm e)]
      omega
theorem HU_leave {w n : Nat} {S : SS} (hI : IV w n S) (h : HU w n S none) {t wk : Nat} (hk : wk < w) (ht : t < n) (hp : S.1 38 t = nI (3 + wk)) : HU w n (s_leave w S t wk) (some t) := by
  have hw := hI.1.w4
  have hn := hI.1.le
  have h0 := hI.1.ln 0 (by omega)
  have e1 : cd w 0 = 1 := by unfold cd; rw [if_pos rfl]
  have e20 : cd w (w + 1) = 20 := by unfold cd; rw [if_neg (by omega), if_pos rfl]
  have hr : ∀ i, isR w (s_leave w S t wk) i = isR w S i := fun i => by
    have e38 := leave_at (w := w) S t wk 38 i
    by_cases q : 38 = 38 ∧ i ∈ S.2 0 ∧ ¬ S.1 5 i &&& S.1 5 t = 0
    · rw [if_pos q] at e38
      rw [isR_cd hw (l := w + 1) (by omega) (e38.trans e20.symm), isR_cd hw (l := 0) (by omega) ((h0.2 i).mp q.2.1).2]
    · rw [if_neg q, if_neg (by omega), if_neg (by omega)] at e38
      unfold isR
      rw [e38]
  have h5 : ∀ i, (s_leave w S t wk).1 5 i = S.1 5 i := fun i => by rw [leave_at, if_neg (by omega), if_neg (by omega), if_neg (by omega)]
  intro s hs
  have key : hu w n S none s = hu w n (s_leave w S t wk) (some t) s + if nb (S.1 5 t) s = true then 1 else 0 := by
    have hRt : isR w S t = true := by rw [isR_iff]; exact ⟨wk, hk, hp⟩
    unfold hu
    rw [cN_one (t := t) (q := fun i => isR w (s_leave w S t wk) i && decide (some t ≠ some i) && nb ((s_leave w S t wk).1 5 i) s) n ht]
    · congr 1
      have : (isR w S t && decide ((none : Option Nat) ≠ some t) && nb (S.1 5 t) s) = nb (S.1 5 t) s := by rw [hRt]; simp
      rw [this]
    · intro i hi
      rw [hr, h5]
      have : decide (some t ≠ some i) = true := by rw [decide_eq_true_iff]; exact fun q => hi (Option.some.inj q).symm
      rw [this]
      simp
    · simp
  have h36 : (s_leave w S t wk).1 36 s = if nb (S.1 5 t) s = true then S.1 36 s - 1 else S.1 36 s := by
    rw [leave_at, if_neg (by omega)]
    by_cases q : nb (S.1 5 t) s = true
    · rw [if_pos ⟨rfl, hs, q⟩, if_pos q]
    · rw [if_neg (fun z => q z.2.2), if_neg (by omega), if_neg q]
  rw [h36]
  by_cases q : nb (S.1 5 t) s = true
  · rw [if_pos q] at key ⊢
    rw [h s hs, key]
    exact pk_sub (b := 1) (by omega)
  · rw [if_neg q] at key ⊢
    rw [h s hs, key, Nat.add_zero]
theorem RV_leave {w n : Nat} {S : SS} (hI : IV w n S) (h : RV w n S none) {t wk : Nat} (hr : S.1 37 wk = nI t) (ht : t < n) : RV w n (s_leave w S t wk) (some t) := by
  have hw := hI.1.w4
  have hn := hI.1.le
  have e20 : cd w (w + 1) = 20 := by unfold cd; rw [if_neg (by omega), if_pos rfl]
  intro i hi k hk q
  have q2 : S.1 38 i = nI (3 + k) := by
    rw [leave_at] at q
    by_cases z : 38 = 38 ∧ i ∈ S.2 0 ∧ ¬ S.1 5 i &&& S.1 5 t = 0
    · rw [if_pos z, ← e20] at q; exact absurd q.symm (n3_cd hw hk (by omega))
    · rw [if_neg z, if_neg (by omega), if_neg (by omega)] at q; exact q
  have h1 := (h i hi k hk q2).resolve_right (by simp)
  rw [leave_at, if_neg (by omega), if_neg (by omega)]
  by_cases e : k = wk
  · right
    rw [e, hr] at h1
    rw [(neq (by omega) (by omega)).mp h1]
  · left
    rw [if_neg (fun z => e z.2)]
    exact h1
/-- as IR, while t has left its body -/
def IQ (w n : Nat) (S : SS) (t : Nat) : Prop := RV w n S (some t) ∧ HU w n S (some t) ∧ CP S ∧ TH S ∧ RO S
theorem IQ_leave {w n : Nat} {S : SS} (hI : IV w n S) (h : IR w n S) {t wk : Nat} (hk : wk < w) (ht : t < n) (hr : S.1 37 wk = nI t) (hp : S.1 38 t = nI (3 + wk)) : IQ w n (s_leave w S t wk) t := by
  obtain ⟨h1, h2, h3, h4, h5⟩ := h
  have e : ∀ i, (s_leave w S t wk).1 0 i = S.1 0 i := fun i => by rw [leave_at, if_neg (by omega), if_neg (by omega), if_neg (by omega)]
  exact ⟨RV_leave hI h1 hr ht, HU_leave hI h2 hk ht hp, CP_fr h3 (kp1_leave (n := n) hI.1.w4 S t wk).1, TH_0q h4 (e 12), RO_0q h5 (e 13) (e 14)⟩
theorem IQ_tf {w n : Nat} (hw : w ≤ 4) {S S' : SS} {t : Nat} (h : IQ w n S t) (hf : tf n S S') (hr : nr w S S') : IQ w n S' t := by
  obtain ⟨h1, h2, h3, h4, h5⟩ := h
  refine ⟨RV_nr h1 (hf.1 37 (by decide) (by decide)) hr, HU_rq h2 (hf.1 36 (by decide) (by decide)) (hf.1 5 (by decide) (by decide)) (rq_tf hw hf hr), ?_, TH_0q h4 (hf.2.2.1 12 (by decide)), RO_0q h5 (hf.2.2.1 13 (by decide)) (hf.2.2.1 14 (by decide))⟩
  intro s hs
  rw [hf.1 35 (by decide) (by decide)]
  exact h3 s hs
theorem IR_of_ef {w n : Nat} (hw : w ≤ 4) {S S' : SS} {t : Nat} (h : IQ w n S t) (hf : ef n t S S') (hr : nr w (sp S 38 t 0) S') : IR w n S' := by
  obtain ⟨h1, h2, h3, h4, h5⟩ := h
  have key : ∀ i k, k < w → S'.1 38 i = nI (3 + k) → i ≠ t ∧ S.1 38 i = nI (3 + k) := fun i k hk q => by
    have := hr i k hk q
    rw [sp_r] at this
    by_cases e : i = t
    · rw [if_pos ⟨rfl, e⟩] at this; exact absurd this.symm (n3_0 (by omega))
    · rw [if_neg (fun z => e z.2)] at this; exact ⟨e, this⟩
  refine ⟨fun i hi k hk q => ?_, HU_eq h2 (hf.1 36 (by decide) (by decide)) (hf.1 5 (by decide) (by decide)) (fun i hi => ?_), ?_, TH_0q h4 (hf.2.2.1 12 (by decide)), RO_0q h5 (hf.2.2.1 13 (by decide)) (hf.2.2.1 14 (by decide))⟩
  · obtain ⟨e, q2⟩ := key i k hk q
    rw [hf.1 37 (by decide) (by decide)]
    exact Or.inl ((h1 i hi k hk q2).resolve_right (fun z => e (Option.some.inj z).symm))
  · rw [Bool.eq_iff_iff, Bool.and_eq_true, Bool.and_eq_true, isR_iff, isR_iff, decide_eq_true_iff, decide_eq_true_iff]
    constructor
    · rintro ⟨⟨k, hk, q⟩, -⟩
      obtain ⟨e, q2⟩ := key i k hk q
      exact ⟨⟨k, hk, q2⟩, fun z => e (Option.some.inj z).symm⟩
    · rintro ⟨⟨k, hk, q⟩, e⟩
      refine ⟨⟨k, hk, ?_⟩, by simp⟩
      rw [hf.2.2.2.1 i (fun z => e (by rw [z])) (by rw [q]; exact n3_0 (by omega)) (by rw [q]; exact n3_2 (by omega))]
      exact q
  · intro s hs
    rw [hf.1 35 (by decide) (by decide)]
    exact h3 s hs
theorem IR_end {w n : Nat} {S : SS} {t wk : Nat} (hL : LV w n S t wk) (hj : JW n S) (hP : PE w n S t) (h : IQ w n S t) (c : Int32) (fl : Bool) : IR w n (s_end w n c wk 4 S t fl).2 :=
  IR_of_ef hL.1.w4 h (ef_end c (Nat.le_of_lt hL.2.2.2.2.1) 4 S t fl hL.1 hj hP) ((nr_end hL.1.w4 c (Nat.le_of_lt hL.2.2.2.2.1) 4 S t fl).2 (by decide))
theorem IQ_fin1 {w n : Nat} {S : SS} {t wk : Nat} (hL : LV w n S t wk) (h : IQ w n S t) : IQ w n (s_fin1 w n S t wk) t := by
  unfold s_fin1
  by_cases q : S.1 0 11 = 0 ∧ (S.1 2 t = 2 ∨ S.1 2 t = 3)
  · rw [if_pos q]; exact IQ_tf hL.1.w4 h (tf_spawn w S t wk) (nr_spawn hL.1.w4 S t (Nat.le_of_lt hL.2.2.2.2.1))
  · rw [if_neg q]; exact h
theorem IR_fin2 {w n : Nat} {S : SS} {t wk : Nat} (hL : LV w n S t wk) (hj : JX n S t) (h : IQ w n S t) (c : Int32) : IR w n (s_fin2 w n S t wk c).2 := by
  have hw := hL.1.w4
  unfold s_fin2
  by_cases q : S.1 2 t = 2 ∧ s_act n S (nI t) = true
  · rw [if_pos q]
    refine IR_of_ef hw h ⟨fun k _ _ => sp_ne S 38 t 2 k (by omega), sp_ne S 38 t 2 40 (by decide), fun i _ => by rw [sp_r, if_neg (by omega)], fun i hi _ _ => by rw [sp_r, if_neg (fun z => hi z.2)], fun k i hi _ _ => by rw [sp_r, if_neg (by have := hL.2.2.2.1; omega)]⟩ (fun i k hk z => ?_)
    rw [sp_r] at z ⊢
    by_cases e : i = t
    · rw [if_pos ⟨rfl, e⟩] at z; exact absurd z.symm (n3_2 (by omega))
    · rw [if_neg (fun y => e y.2)] at z; rw [if_neg (fun y => e y.2)]; exact z
  · rw [if_neg q]
    obtain ⟨h1, h2⟩ := fin2_PE hL hj q
    exact IR_close hw (IR_end hL h2 h1 h c false)
theorem IR_finish {w n : Nat} {S : SS} (hI : IV w n S) (h : IR w n S) (x c : Int32) : IR w n (s_finish w n S x c).2 := by
  unfold s_finish
  by_cases hc : ¬ isT w x = true ∨ S.1 37 (tn x) = -1
  · rw [if_pos hc]; exact h
  · rw [if_neg hc]
    have h1 : isT w x = true := Classical.byContradiction fun q => hc (Or.inl q)
    have hw := hI.1.w4
    obtain ⟨k, hk, rfl⟩ := isT_of (by omega) h1
    have h2 : ¬ S.1 37 (tn (nI k)) = -1 := fun q => hc (Or.inr q)
    rw [tnI (by omega)] at h2 ⊢
    obtain ⟨g1, g2⟩ := run_of hI.2.2.1 hI.1.le hk h2
    obtain ⟨i1, i2⟩ := LV_leave hI hk g1 g2
    obtain ⟨j1, j2⟩ := fin1_inv i1 i2
    exact IR_fin2 j1 j2 (IQ_fin1 i1 (IQ_leave hI h hk g1 g2 (by
      rcases hI.2.2.1 k hk with e | ⟨t', z1, z2, z3⟩
      · exact absurd e h2
      · rw [z2, tnI (by have := hI.1.le; omega)]; exact z3))) c
theorem IQ_fai1 {w n : Nat} (hn : n ≤ 24) {S : SS} {t : Nat} (ht : t < n) (h : IQ w n S t) : IQ w n (s_fai1 S t) t := by
  unfold s_fai1
  by_cases q : S.1 0 12 = -1
  · rw [if_pos q]
    obtain ⟨h1, h2, h3, -, h5⟩ := h
    have e := fun k (q : k ≠ 0) => sp_ne S 0 12 (nI t) k q
    exact ⟨RV_nr h1 (e 37 (by decide)) (nr_eq (e 38 (by decide))), HU_rq h2 (e 36 (by decide)) (e 5 (by decide)) (fun i _ k _ => by rw [e 38 (by decide)]), CP_fr h3 (fr.sp0 S 12 _), Or.inr ⟨t, by omega, by rw [sp_r, if_pos ⟨rfl, rfl⟩]⟩, RO_0q h5 (by rw [sp_r, if_neg (by omega)]) (by rw [sp_r, if_neg (by omega)])⟩
  · rw [if_neg q]; exact h
theorem IR_fail {w n : Nat} {S : SS} (hI : IV w n S) (h : IR w n S) (x : Int32) : IR w n (s_fail w n S x).2 := by
  unfold s_fail
  by_cases hc : ¬ isT w x = true ∨ S.1 37 (tn x) = -1
  · rw [if_pos hc]; exact h
  · rw [if_neg hc]
    have h1 : isT w x = true := Classical.byContradiction fun q => hc (Or.inl q)
    have hw := hI.1.w4
    obtain ⟨k, hk, rfl⟩ := isT_of (by omega) h1
    have h2 : ¬ S.1 37 (tn (nI k)) = -1 := fun q => hc (Or.inr q)
    rw [tnI (by omega)] at h2 ⊢
    obtain ⟨g1, g2⟩ := run_of hI.2.2.1 hI.1.le hk h2
    obtain ⟨i1, i2⟩ := LV_leave hI hk g1 g2
    obtain ⟨j1, j2, j3⟩ := fai1_inv i1 i2
    refine IR_close hw (IR_end j1 j2 j3 (IQ_fai1 hI.1.le g1 (IQ_leave hI h hk g1 g2 ?_)) (-1) true)
    rcases hI.2.2.1 k hk with e | ⟨t', z1, z2, z3⟩
    · exact absurd e h2
    · rw [z2, tnI (by have := hI.1.le; omega)]; exact z3
theorem IR_same {w n : Nat} {S S' : SS} (h : IR w n S) (h36 : S'.1 36 = S.1 36) (h37 : S'.1 37 = S.1 37) (h5 : S'.1 5 = S.1 5) (h35 : S'.1 35 = S.1 35) (hr : rq w n S S') (h0 : S'.1 0 = S.1 0) : IR w n S' := by
  obtain ⟨h1, h2, h3, h4, h6⟩ := h
  refine ⟨fun t ht k hk q => ?_, HU_rq h2 h36 h5 hr, ?_, TH_0q h4 (by rw [h0]), RO_0q h6 (by rw [h0]) (by rw [h0])⟩
  · rw [h37]; exact h1 t ht k hk ((hr t ht k hk).mp q)
  · unfold CP; rw [h35]; exact h3
theorem IR_ecw {w n : Nat} (hw : w ≤ 4) : ∀ m (S : SS), IR w n S → IR w n (s_ecw n m S) := by
  intro m
  induction m with
  | zero => intro S h; exact h
  | succ m ih =>
    intro S h
    refine ih _ ?_
    by_cases q : S.1 38 m = 2 ∧ ¬ s_act n S (nI m) = true
    · rw [if_pos q]
      have e := fun k (z : k ≠ 38) => sp_ne S 38 m 0 k z
      refine IR_same h (e 36 (by decide)) (e 37 (by decide)) (e 5 (by decide)) (e 35 (by decide)) (fun t _ k hk => ?_) (e 0 (by decide))
      rw [sp_r]
      by_cases z : t = m
      · rw [if_pos ⟨rfl, z⟩, z, q.1]
        exact ⟨fun y => absurd y.symm (n3_0 (by omega)), fun y => absurd y.symm (n3_2 (by omega))⟩
      · rw [if_neg (fun y => z y.2)]
    · rw [if_neg q]; exact h
theorem IR_cancel {w n : Nat} (hw : w ≤ 4) {S : SS} (h : IR w n S) : IR w n (s_cancel w n S).2 := by
  unfold s_cancel
  by_cases q : S.1 0 10 = 0 ∨ S.1 0 11 ≠ 0
  · rw [if_pos q]; exact h
  · rw [if_neg q]
    have h1 := IR_0 h (i := 11) 1 (TH_0q h.2.2.2.1 (by rw [sp_r, if_neg (by omega)])) (RO_0q h.2.2.2.2 (by rw [sp_r, if_neg (by omega)]) (by rw [sp_r, if_neg (by omega)]))
    refine IR_close hw (IR_ecw hw n _ ?_)
    have r : ∀ k i, (s_drop w n (sp S 0 11 1)).2.1 k i = if k = 38 ∧ i < n ∧ pl ((sp S 0 11 1).1 38 i) = true then 0 else (sp S 0 11 1).1 k i := s_drp_at (sp S 0 11 1) n
    have e : ∀ k, k ≠ 38 → (s_drop w n (sp S 0 11 1)).2.1 k = (sp S 0 11 1).1 k := fun k z => by
      funext i
      rw [r, if_neg (fun y => z y.1)]
    refine IR_same h1 (e 36 (by decide)) (e 37 (by decide)) (e 5 (by decide)) (e 35 (by decide)) (fun t ht k hk => ?_) (e 0 (by decide))
    rw [r]
    by_cases z : 38 = 38 ∧ t < n ∧ pl ((sp S 0 11 1).1 38 t) = true
    · rw [if_pos z]
      refine ⟨fun y => absurd y.symm (n3_0 (by omega)), fun y => ?_⟩
      rw [y] at z
      exact absurd z.2.2 (pl_n (by omega) (by omega))
    · rw [if_neg z]
theorem IR_start {w n : Nat} (hw : w ≤ 4) {S : SS} (h : IR w n S) (x ck : Int32) : IR w n (s_start w n S x ck).2 := by
  unfold s_start
  by_cases q : S.1 0 10 ≠ 0 ∨ x < 1 ∨ 9 < x ∨ ck ≠ 0
  · rw [if_pos q]; exact h
  · rw [if_neg q]
    have hx1 : ¬ x < 1 := fun z => q (Or.inr (Or.inl z))
    have hx9 : ¬ 9 < x := fun z => q (Or.inr (Or.inr (Or.inl z)))
    obtain ⟨j, hj, rfl⟩ : ∃ j, j < 2 ^ 31 ∧ x = nI j := nI_of (fun z => hx1 (Int32.lt_trans z (by decide)))
    have hj9 : j ≤ 9 := by
      have := mt (nI_ltI (a := 9) (by decide) hj).mpr hx9
      omega
    have hj1 : 1 ≤ j := by
      have := mt (nI_ltI (b := 1) hj (by decide)).mpr hx1
      omega
    have e : ∀ k, k ≠ 0 → k ≠ 40 → (s_st0 S (nI j)).1 k = S.1 k := fun k z z2 => by
      funext i
      unfold s_st0
      rw [s_fill_at, if_neg (fun y => z2 y.1), sp_r, if_neg (fun y => z y.1), sp_r, if_neg (fun y => z y.1), sp_r, if_neg (fun y => z y.1), sp_r, if_neg (fun y => z y.1), sp_r, if_neg (fun y => z y.1), sp_r, if_neg (fun y => z y.1), sp_r, if_neg (fun y => z y.1)]
    have e12 : (s_st0 S (nI j)).1 0 12 = -1 := by
      unfold s_st0
      rw [s_fill_at, if_neg (by omega), sp_r, if_neg (by omega), sp_r, if_neg (by omega), sp_r, if_neg (by omega), sp_r, if_neg (by omega), sp_r, if_pos ⟨rfl, rfl⟩]
    have e13 : (s_st0 S (nI j)).1 0 13 = nI j := by
      unfold s_st0
      rw [s_fill_at, if_neg (by omega), sp_r, if_neg (by omega), sp_r, if_neg (by omega), sp_r, if_neg (by omega), sp_r, if_pos ⟨rfl, rfl⟩]
    have e14 : (s_st0 S (nI j)).1 0 14 = 0 := by
      unfold s_st0
      rw [s_fill_at, if_neg (by omega), sp_r, if_neg (by omega), sp_r, if_neg (by omega), sp_r, if_pos ⟨rfl, rfl⟩]
    obtain ⟨h1, h2, h3, -, -⟩ := h
    refine IR_round hw ⟨RV_nr h1 (e 37 (by decide) (by decide)) (nr_eq (e 38 (by decide) (by decide))), HU_rq h2 (e 36 (by decide) (by decide)) (e 5 (by decide) (by decide)) (fun t _ k _ => by rw [e 38 (by decide) (by decide)]), ?_, Or.inl e12, ⟨0, j, by omega, hj9, e14, e13⟩⟩ ?_
    · unfold CP; rw [e 35 (by decide) (by decide)]; exact h3
    · refine ⟨1, j, hj1, hj9, ?_, ?_⟩
      · rw [sp_r, if_pos ⟨rfl, rfl⟩, e14]; rfl
      · rw [sp_r, if_neg (by omega)]; exact e13
