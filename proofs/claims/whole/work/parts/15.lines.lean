/-! Lines and places; tokens -/
/-- the place's number of those that stand in line l (0: the parked) -/
def cd (w l : Nat) : Int32 := if l = 0 then 1 else if l = w + 1 then 20 else nI (9 + l)
def s_ready (w : Nat) (S : SS) (t l : Nat) : SS := sq (sp S 38 t (cd w (l + 1))) (l + 1) (S.2 (l + 1) ++ [t])
def s_token (w : Nat) (S : SS) (t l : Nat) : SS := if S.1 38 t = 0 then s_ready w S t l else sp S 0 15 (S.1 0 15 + 1)
/-- a token reaches every source among the tasks 0 .. m-1 with that parent -/
def s_srcs (w : Nat) (p : Int32) (l : Nat) (S : SS) : Nat → SS
  | 0 => S
  | m + 1 => if S.1 3 m = p ∧ S.1 7 m = 0 then s_token w (s_srcs w p l S m) m l else s_srcs w p l S m
/-- what stays: the graph and the capacities -/
def fr (S S' : SS) : Prop := ∀ k, 1 ≤ k → k < 36 → S'.1 k = S.1 k
theorem fr.rf (S : SS) : fr S S := fun _ _ _ => rfl
theorem fr.tr {S S' S2 : SS} (h : fr S S') (h2 : fr S' S2) : fr S S2 := fun k h3 h4 => (h2 k h3 h4).trans (h k h3 h4)
theorem fr.sp0 (S : SS) (i : Nat) (x : Int32) : fr S (sp S 0 i x) := fun k h3 _ => mp_ne _ _ _ _ (by omega)
theorem fr.sp (S : SS) {k : Nat} (hk : 36 ≤ k) (i : Nat) (x : Int32) : fr S (sp S k i x) := fun k' _ h4 => mp_ne _ _ _ _ (by omega)
theorem fr.sq (S : SS) (l : Nat) (L : List Nat) : fr S (sq S l L) := fun _ _ _ => rfl
theorem fr_ready (w : Nat) (S : SS) (t l : Nat) : fr S (s_ready w S t l) := fr.sp S (by decide) _ _
theorem fr_token (w : Nat) (S : SS) (t l : Nat) : fr S (s_token w S t l) := by
  unfold s_token
  by_cases h : S.1 38 t = 0
  · rw [if_pos h]; exact fr_ready w S t l
  · rw [if_neg h]; exact fr.sp0 S _ _
theorem fr_srcs (w : Nat) (p : Int32) (l : Nat) (S : SS) : ∀ m, fr S (s_srcs w p l S m) := by
  intro m
  induction m with
  | zero => exact fr.rf S
  | succ m ih =>
    unfold s_srcs
    by_cases h : S.1 3 m = p ∧ S.1 7 m = 0
    · rw [if_pos h]; exact ih.tr (fr_token w _ m l)
    · rw [if_neg h]; exact ih
theorem GR_f34 {n : Nat} {S S' : SS} (h : ∀ k, 1 ≤ k → k < 34 → S'.1 k = S.1 k) (hG : GR n S.1) : GR n S'.1 := by
  have h1 := h 1 (by decide) (by decide)
  have h2 := h 2 (by decide) (by decide)
  have h3 := h 3 (by decide) (by decide)
  have h4 := h 4 (by decide) (by decide)
  have h5 := h 5 (by decide) (by decide)
  have h6 := h 6 (by decide) (by decide)
  have h7 := h 7 (by decide) (by decide)
  have h8 := h 8 (by decide) (by decide)
  have hn := hG.le
  have hE : ∀ t, t < n → S'.1 (10 + t) = S.1 (10 + t) := fun t ht => h (10 + t) (by omega) (by omega)
  have hs : ∀ (f g : Nat → Nat) m, m ≤ n → (∀ q, q < n → f q = g q) → sN f m = sN g m := by
    intro f g m
    induction m with
    | zero => intro _ _; rfl
    | succ m ih => intro hm q; show sN f m + f m = sN g m + g m; rw [ih (by omega) q, q m (by omega)]
  refine ⟨⟨hn, by rw [h1]; exact hG.cnt⟩, by rw [h2]; exact hG.kind, by rw [h3]; exact hG.par, by rw [h3, h4]; exact hG.lev, by rw [h5]; exact hG.need, ?_, by rw [h6, h7, h8]; exact hG.beh, ?_, ?_⟩
  · intro t ht
    rw [h6, hE t ht, h3]
    exact hG.2.2.2.2.2.1 t ht
  · intro t ht
    rw [h7, hG.ein t ht]
    refine congrArg nI (hs _ _ n (Nat.le_refl _) (fun q hq => ?_))
    unfold ec
    rw [h6, hE q hq]
  · intro t ht
    rw [h8, hG.esn t ht]
    refine congrArg nI (hs _ _ n (Nat.le_refl _) (fun q hq => ?_))
    unfold ec
    rw [h2, h6, hE q hq]
theorem GR_fr {n : Nat} {S S' : SS} (h : fr S S') (hG : GR n S.1) : GR n S'.1 := GR_f34 (fun k a b => h k a (by omega)) hG
/-- the lines and the places agree -/
def LN (w n : Nat) (S : SS) : Prop := ∀ l, l < w + 2 → (S.2 l).Nodup ∧ ∀ t, t ∈ S.2 l ↔ t < n ∧ S.1 38 t = cd w l
theorem nodup_len : ∀ (n : Nat) (L : List Nat), L.Nodup → (∀ x ∈ L, x < n) → L.length ≤ n := by
  intro n
  induction n with
  | zero =>
    intro L _ h
    cases L with
    | nil => exact Nat.le_refl _
    | cons x L => exact absurd (h x (List.mem_cons_self ..)) (Nat.not_lt_zero _)
  | succ n ih =>
    intro L hd h
    have h1 := ih (L.erase n) (hd.erase n) (fun x hx => by
      have h2 := (hd.mem_erase_iff).mp hx
      have h3 := h x h2.2
      have h4 := h2.1
      omega)
    rw [List.length_erase] at h1
    by_cases hm : n ∈ L
    · rw [if_pos hm] at h1; omega
    · rw [if_neg hm] at h1; omega
theorem LN.len {w n : Nat} {S : SS} (h : LN w n S) {l : Nat} (hl : l < w + 2) : (S.2 l).length ≤ n := nodup_len n _ (h l hl).1 (fun t ht => (((h l hl).2 t).mp ht).1)
theorem LN.len1 {w n : Nat} {S : SS} (h : LN w n S) {l t : Nat} (hl : l < w + 2) (ht : t < n) (hp : S.1 38 t ≠ cd w l) : (S.2 l).length < n := by
  have := nodup_len n (t :: S.2 l) (List.nodup_cons.mpr ⟨fun q => hp (((h l hl).2 t).mp q).2, (h l hl).1⟩) (fun x hx => by
    rcases List.mem_cons.mp hx with rfl | hx
    · exact ht
    · exact (((h l hl).2 x).mp hx).1)
  exact this
theorem cd_0 {w l : Nat} (hw : w ≤ 4) (hl : l < w + 2) : cd w l ≠ 0 := by
  unfold cd
  by_cases h0 : l = 0
  · rw [if_pos h0]; decide
  · rw [if_neg h0]
    by_cases h1 : l = w + 1
    · rw [if_pos h1]; decide
    · rw [if_neg h1]; exact nI_ne0 (by omega) (by omega)
/-- the number that stands for a place, as a Nat -/
def cdn (w l : Nat) : Nat := if l = 0 then 1 else if l = w + 1 then 20 else 9 + l
theorem cd_n (w l : Nat) : cd w l = nI (cdn w l) := by
  unfold cd cdn
  by_cases h0 : l = 0
  · rw [if_pos h0, if_pos h0]; rfl
  · rw [if_neg h0, if_neg h0]
    by_cases h1 : l = w + 1
    · rw [if_pos h1, if_pos h1]; rfl
    · rw [if_neg h1, if_neg h1]
theorem cdn_lt {w l : Nat} (hw : w ≤ 4) (hl : l < w + 2) : cdn w l < 21 := by
  unfold cdn
  by_cases h0 : l = 0
  · rw [if_pos h0]; omega
  · rw [if_neg h0]
    by_cases h1 : l = w + 1
    · rw [if_pos h1]; omega
    · rw [if_neg h1]; omega
theorem cd_inj {w l l' : Nat} (hw : w ≤ 4) (hl : l < w + 2) (hl' : l' < w + 2) (h : cd w l = cd w l') : l = l' := by
  rw [cd_n, cd_n] at h
  have a1 := cdn_lt hw hl
  have a2 := cdn_lt hw hl'
  have h := (neq (by omega) (by omega)).mp h
  unfold cdn at h
  (repeat' split at h) <;> omega
theorem LN_ready {w n : Nat} (hw : w ≤ 4) {S : SS} (h : LN w n S) {t l : Nat} (ht : t < n) (hl : l ≤ w) (hp : ∀ l', l' < w + 2 → S.1 38 t ≠ cd w l') : LN w n (s_ready w S t l) := by
  intro l' hl'
  show (va_up S.2 (l + 1) _ l').Nodup ∧ ∀ t', t' ∈ va_up S.2 (l + 1) _ l' ↔ t' < n ∧ mp S.1 38 t (cd w (l + 1)) 38 t' = cd w l'
  have hL := h l' hl'
  have hn : t ∉ S.2 l' := fun q => hp l' hl' ((hL.2 t).mp q).2
  unfold va_up
  by_cases e : l' = l + 1
  · subst e
    rw [if_pos rfl]
    refine ⟨List.nodup_append.mpr ⟨hL.1, List.pairwise_singleton _ t, fun x hx y hy => ?_⟩, fun t' => ?_⟩
    · rw [List.mem_singleton.mp hy]
      exact fun q => hn (q ▸ hx)
    · rw [List.mem_append, List.mem_singleton, hL.2, mp_at]
      by_cases e : t' = t
      · subst e
        rw [if_pos ⟨rfl, rfl⟩]
        exact ⟨fun _ => ⟨ht, rfl⟩, fun _ => Or.inr rfl⟩
      · rw [if_neg (fun q => e q.2)]
        exact ⟨fun q => q.elim id (fun z => absurd z e), Or.inl⟩
  · rw [if_neg e]
    refine ⟨hL.1, fun t' => ?_⟩
    rw [hL.2, mp_at]
    by_cases e2 : t' = t
    · subst e2
      rw [if_pos ⟨rfl, rfl⟩]
      exact ⟨fun q => absurd q.2 (hp l' hl'), fun q => absurd (cd_inj hw hl' (by omega) q.2.symm) e⟩
    · rw [if_neg (fun q => e2 q.2)]
theorem LN_eq {w n : Nat} {S S' : SS} (h : LN w n S) (h1 : S'.2 = S.2) (h2 : S'.1 38 = S.1 38) : LN w n S' := by
  intro l hl
  rw [h1, h2]
  exact h l hl
theorem LN_token {w n : Nat} (hw : w ≤ 4) {S : SS} (h : LN w n S) {t l : Nat} (ht : t < n) (hl : l ≤ w) : LN w n (s_token w S t l) := by
  unfold s_token
  by_cases e : S.1 38 t = 0
  · rw [if_pos e]
    exact LN_ready hw h ht hl (fun l' hl' q => cd_0 hw hl' (q.symm.trans e))
  · rw [if_neg e]
    exact LN_eq h rfl (show mp S.1 0 15 (S.1 0 15 + 1) 38 = S.1 38 from mp_ne _ _ _ _ (by decide))
theorem LN_srcs {w n : Nat} (hw : w ≤ 4) {S : SS} (h : LN w n S) (p : Int32) {l : Nat} (hl : l ≤ w) : ∀ m, m ≤ n → LN w n (s_srcs w p l S m) := by
  intro m
  induction m with
  | zero => intro _; exact h
  | succ m ih =>
    intro hm
    unfold s_srcs
    by_cases e : S.1 3 m = p ∧ S.1 7 m = 0
    · rw [if_pos e]; exact LN_token hw (ih (by omega)) (by omega) hl
    · rw [if_neg e]; exact ih (by omega)
theorem tok_0 {w : Nat} (S : SS) (t l : Nat) : (s_token w S t l).1 0 0 = S.1 0 0 := by
  unfold s_token
  by_cases e : S.1 38 t = 0
  · rw [if_pos e]; show mp S.1 38 t (cd w (l + 1)) 0 0 = _; rw [mp_at, if_neg (by omega)]
  · rw [if_neg e, sp_r, if_neg (by omega)]
theorem srcs_0 {w : Nat} (p : Int32) (l : Nat) (S : SS) : ∀ m, (s_srcs w p l S m).1 0 0 = S.1 0 0 := by
  intro m
  induction m with
  | zero => rfl
  | succ m ih =>
    unfold s_srcs
    by_cases e : S.1 3 m = p ∧ S.1 7 m = 0
    · rw [if_pos e, tok_0, ih]
    · rw [if_neg e, ih]
def s_act (n : Nat) (S : SS) (p : Int32) : Bool := (List.range n).any fun t => decide (S.1 3 t = p ∧ S.1 38 t ≠ 0)
def s_any (n : Nat) (S : SS) : Bool := (List.range n).any fun t => decide (S.1 38 t ≠ 0)
theorem s_act_iff (n : Nat) (S : SS) (p : Int32) : s_act n S p = true ↔ ∃ t, t < n ∧ S.1 3 t = p ∧ S.1 38 t ≠ 0 := by
  simp [s_act, List.any_eq_true]
theorem s_any_iff (n : Nat) (S : SS) : s_any n S = true ↔ ∃ t, t < n ∧ S.1 38 t ≠ 0 := by
  simp [s_any, List.any_eq_true]
section CE1
variable {l : Launch} {D : va_G} {cI cZ cL cE : ClassId} {a : Nat → Nat} {w : Nat}
theorem kE_isWorker (hJ : IJ (sX D cI cZ cL cE a w)) (hw : w ≤ 4) (M : MM) (hc : M 0 0 = nI w) (x : Int32) : Ci l (sX D cI cZ cL cE a w) yE_isWorker wE_isWorker rmE_isWorker [.ref (a 0), .int x] M (fun r M' => M' = M ∧ r = if isT w x = true then 1 else 0) := by
  refine oE_isWorker hJ hw ⟨fun h => ⟨rfl, ?_⟩, fun h => ⟨fun h1 => ⟨rfl, ?_⟩, fun h1 => ⟨rfl, ?_⟩⟩⟩
  · rw [if_neg]
    rw [isT, decide_eq_true_iff]
    exact fun q => Int32.not_lt.mpr q.1 h
  · rw [if_neg]
    rw [isT, decide_eq_true_iff, ← hc]
    exact fun q => Int32.not_lt.mpr h1 q.2
  · rw [if_pos]
    rw [isT, decide_eq_true_iff, ← hc]
    exact ⟨Int32.not_lt.mp h, Int32.not_le.mp h1⟩
theorem kE_isSemaphore (hJ : IJ (sX D cI cZ cL cE a w)) (hw : w ≤ 4) (M : MM) (x : Int32) : Ci l (sX D cI cZ cL cE a w) yE_isSemaphore wE_isSemaphore rmE_isSemaphore [.int x] M (fun r M' => M' = M ∧ r = if isT 4 x = true then 1 else 0) := by
  refine oE_isSemaphore hJ hw ⟨fun h => ⟨rfl, ?_⟩, fun h => ⟨fun h1 => ⟨rfl, ?_⟩, fun h1 => ⟨rfl, ?_⟩⟩⟩
  · rw [if_neg]
    rw [isT, decide_eq_true_iff]
    exact fun q => Int32.not_lt.mpr q.1 h
  · rw [if_neg]
    rw [isT, decide_eq_true_iff]
    exact fun q => Int32.not_lt.mpr h1 q.2
  · rw [if_pos]
    rw [isT, decide_eq_true_iff]
    exact ⟨Int32.not_lt.mp h, Int32.not_le.mp h1⟩
theorem kE_hasActiveTask (hJ : IJ (sX D cI cZ cL cE a w)) (hw : w ≤ 4) {n : Nat} (hn : n ≤ 24) {S : SS} (M : MM) (hX : RX w S M) (hc : S.1 1 0 = nI n) : Ci l (sX D cI cZ cL cE a w) yE_hasActiveTask wE_hasActiveTask rmE_hasActiveTask [.ref (a 0)] M (fun r M' => M' = M ∧ r = if s_any n S = true then 1 else 0) := by
  have hc : M 1 0 = nI n := by rw [hX.at (by decide)]; exact hc
  refine oE_hasActiveTask hJ (fun G hl hR F => ?_)
  subst hl
  have lp : ∀ m k, k + m = n → (∀ i, i < k → S.1 38 i = 0) → wx G (sX D cI cZ cL cE a w) 2 (Qxi G (sX D cI cZ cL cE a w) (fun r M' => M' = M ∧ r = if s_any n S = true then 1 else 0)) M 2 [(0, .ref (a 0)), (1, .int (nI k))] [] := by
    intro m
    induction m with
    | zero =>
      intro k hk hi
      have h4 : M 1 0 ≤ nI k := by rw [hc]; exact (nle (by omega) (by omega)).mpr (by omega)
      refine sE_hasActiveTask_2 F hw hR (K2 := fun _ _ => False) (fun _ _ q => q.elim) ⟨fun _ => ⟨rfl, ?_⟩, fun q => absurd h4 q⟩
      rw [if_neg]
      rw [s_any_iff]
      rintro ⟨i, h1, h2⟩
      exact h2 (hi i (by omega))
    | succ m ih =>
      intro k hk hi
      have h4 : ¬ M 1 0 ≤ nI k := by rw [hc]; intro q; have := (nle (by omega) (by omega)).mp q; omega
      refine sE_hasActiveTask_2 F hw hR (K2 := fun M' x1 => M' = M ∧ x1 = nI (k + 1) ∧ S.1 38 k = 0) ?_ ⟨fun q => absurd q h4, fun _ => ⟨k, rfl, by omega, fun h5 => ⟨rfl, nI_1 k, by rw [← hX.at (by decide)]; exact h5⟩, fun h5 => ⟨rfl, ?_⟩⟩⟩
      · rintro M' x1 ⟨rfl, rfl, hh⟩
        refine ih (k + 1) (by omega) (fun i hi1 => ?_)
        by_cases e : i = k
        · subst e; exact hh
        · exact hi i (by omega)
      · rw [if_pos]
        rw [s_any_iff]
        exact ⟨k, by omega, by rw [← hX.at (by decide)]; exact h5⟩
  refine sE_hasActiveTask_0 F hw hR (K2 := fun M' x1 => M' = M ∧ x1 = nI 0) ?_ ⟨rfl, rfl⟩
  rintro M' x1 ⟨rfl, rfl⟩
  exact lp n 0 (by omega) (fun i hi => absurd hi (Nat.not_lt_zero _))
theorem kE_hasActiveChild (hJ : IJ (sX D cI cZ cL cE a w)) (hw : w ≤ 4) {n : Nat} (hn : n ≤ 24) {S : SS} (M : MM) (hX : RX w S M) (hc : S.1 1 0 = nI n) (x : Int32) : Ci l (sX D cI cZ cL cE a w) yE_hasActiveChild wE_hasActiveChild rmE_hasActiveChild [.ref (a 0), .int x] M (fun r M' => M' = M ∧ r = if s_act n S x = true then 1 else 0) := by
  have hc : M 1 0 = nI n := by rw [hX.at (by decide)]; exact hc
  refine oE_hasActiveChild hJ (fun G hl hR F => ?_)
  subst hl
  have lp : ∀ m k, k + m = n → (∀ i, i < k → ¬ (S.1 3 i = x ∧ S.1 38 i ≠ 0)) → wx G (sX D cI cZ cL cE a w) 3 (Qxi G (sX D cI cZ cL cE a w) (fun r M' => M' = M ∧ r = if s_act n S x = true then 1 else 0)) M 2 [(0, .ref (a 0)), (1, .int x), (2, .int (nI k))] [] := by
    intro m
    induction m with
    | zero =>
      intro k hk hi
      have h4 : M 1 0 ≤ nI k := by rw [hc]; exact (nle (by omega) (by omega)).mpr (by omega)
      refine sE_hasActiveChild_2 F hw hR (K2 := fun _ _ _ => False) (fun _ _ _ q => q.elim) ⟨fun _ => ⟨rfl, ?_⟩, fun q => absurd h4 q⟩
      rw [if_neg]
      rw [s_act_iff]
      rintro ⟨i, h1, h2⟩
      exact hi i (by omega) h2
    | succ m ih =>
      intro k hk hi
      have h4 : ¬ M 1 0 ≤ nI k := by rw [hc]; intro q; have := (nle (by omega) (by omega)).mp q; omega
      have e3 : M 3 k = S.1 3 k := hX.at (by decide) k
      have e38 : M 38 k = S.1 38 k := hX.at (by decide) k
      refine sE_hasActiveChild_2 F hw hR (K2 := fun M' x1 x2 => M' = M ∧ x1 = x ∧ x2 = nI (k + 1) ∧ ¬ (S.1 3 k = x ∧ S.1 38 k ≠ 0)) ?_ ⟨fun q => absurd q h4, fun _ => ⟨k, rfl, by omega, fun h5 => ⟨rfl, rfl, nI_1 k, fun q => h5 (e3.trans q.1)⟩, fun h5 => ⟨fun h6 => ⟨rfl, rfl, nI_1 k, fun q => q.2 (e38.symm.trans h6)⟩, fun h6 => ⟨rfl, ?_⟩⟩⟩⟩
      · rintro M' x1 x2 ⟨rfl, rfl, rfl, hh⟩
        refine ih (k + 1) (by omega) (fun i hi1 => ?_)
        by_cases e : i = k
        · subst e; exact hh
        · exact hi i (by omega)
      · rw [if_pos]
        rw [s_act_iff]
        exact ⟨k, by omega, e3.symm.trans h5, fun q => h6 (e38.trans q)⟩
  refine sE_hasActiveChild_0 F hw hR (K2 := fun M' x1 x2 => M' = M ∧ x1 = x ∧ x2 = nI 0) ?_ ⟨rfl, rfl, rfl⟩
  rintro M' x1 x2 ⟨rfl, rfl, rfl⟩
  exact lp n 0 (by omega) (fun i hi => absurd hi (Nat.not_lt_zero _))
theorem kE_makeReady (hJ : IJ (sX D cI cZ cL cE a w)) (hw : w ≤ 4) {S : SS} (M : MM) (hX : RX w S M) (h0 : S.1 0 0 = nI w) {t k : Nat} (ht : t < 24) (hk : k ≤ w) (h24 : (S.2 (k + 1)).length < 24) : Cv l (sX D cI cZ cL cE a w) yE_makeReady wE_makeReady rmE_makeReady [.ref (a 0), .int (nI t), .int (nI k)] M (fun M' => RX w (s_ready w S t k) M') := by
  have e0 : M 0 0 = nI w := by rw [hX.at (by decide)]; exact h0
  refine oE_makeReady hJ hw ⟨fun h => ⟨t, rfl, ht, ?_⟩, fun h => ⟨t, rfl, ht, ?_⟩⟩
  · rintro M2 rfl
    have hX2 := hX.sp (k := 38) (by decide) t (10 + nI k)
    refine ⟨k, rfl, by omega, _, kL_append hJ hw (i := k + 1) (by omega) _ (hX2.2 (k + 1) (by omega)) h24 t, fun M' hc => ?_⟩
    have hk' : ¬ k = w := fun q => h (by rw [e0, q])
    have : cd w (k + 1) = 10 + nI k := by
      unfold cd
      rw [if_neg (by omega), if_neg (by omega), show 9 + (k + 1) = 10 + k by omega, ← nI_add]
      rfl
    unfold s_ready
    rw [this]
    exact hX2.sq hc
  · rintro M2 rfl
    have hX2 := hX.sp (k := 38) (by decide) t 20
    refine ⟨k, rfl, by omega, _, kL_append hJ hw (i := k + 1) (by omega) _ (hX2.2 (k + 1) (by omega)) h24 t, fun M' hc => ?_⟩
    have hk' : k = w := by
      rw [e0] at h
      exact (neq (by omega) (by omega)).mp h
    have : cd w (k + 1) = 20 := by
      unfold cd
      rw [if_neg (by omega), if_pos (by omega)]
    unfold s_ready
    rw [this]
    exact hX2.sq hc
theorem kE_sendToken (hJ : IJ (sX D cI cZ cL cE a w)) (hw : w ≤ 4) {n : Nat} (hn : n ≤ 24) {S : SS} (M : MM) (hX : RX w S M) (h0 : S.1 0 0 = nI w) (hN : LN w n S) {t k : Nat} (ht : t < n) (hk : k ≤ w) : Cv l (sX D cI cZ cL cE a w) yE_sendToken wE_sendToken rmE_sendToken [.ref (a 0), .int (nI t), .int (nI k)] M (fun M' => RX w (s_token w S t k) M') := by
  have e38 : M 38 t = S.1 38 t := hX.at (by decide) t
  have e15 : M 0 15 = S.1 0 15 := hX.at (by decide) 15
  refine oE_sendToken hJ hw ⟨t, rfl, by omega, fun h => ?_, fun h => ?_⟩
  · rintro M2 rfl
    unfold s_token
    rw [if_neg (by rw [← e38]; exact h), e15]
    exact hX.sp (by decide) _ _
  · have e : S.1 38 t = 0 := e38.symm.trans h
    refine ⟨_, kE_makeReady hJ hw M hX h0 (t := t) (k := k) (by omega) hk ?_, fun M' hM => ?_⟩
    · have := hN.len1 (l := k + 1) (by omega) ht (fun q => cd_0 hw (by omega) (q.symm.trans e))
      omega
    · unfold s_token
      rw [if_pos e]
      exact hM
theorem kE_sendToSources (hJ : IJ (sX D cI cZ cL cE a w)) (hw : w ≤ 4) {n : Nat} {S : SS} (M : MM) (hX : RX w S M) (h0 : S.1 0 0 = nI w) (hG : GR n S.1) (hN : LN w n S) (p : Int32) {k : Nat} (hk : k ≤ w) : Cv l (sX D cI cZ cL cE a w) yE_sendToSources wE_sendToSources rmE_sendToSources [.ref (a 0), .int p, .int (nI k)] M (fun M' => RX w (s_srcs w p k S n) M') := by
  have hn := hG.le
  refine oE_sendToSources hJ (fun G hl hR F => ?_)
  subst hl
  have lp : ∀ m j M', j + m = n → RX w (s_srcs w p k S j) M' → wx G (sX D cI cZ cL cE a w) 4 (Qxv G (sX D cI cZ cL cE a w) (fun M' => RX w (s_srcs w p k S n) M')) M' 2 [(0, .ref (a 0)), (1, .int p), (2, .int (nI k)), (3, .int (nI j))] [] := by
    intro m
    induction m with
    | zero =>
      intro j M' hj hX'
      have hj : j = n := by omega
      subst hj
      have f1 := fr_srcs w p k S j
      have h4 : M' 1 0 ≤ nI j := by rw [hX'.at (by decide), f1 1 (by decide) (by decide), hG.cnt]; exact (nle (by omega) (by omega)).mpr (by omega)
      exact sE_sendToSources_2 F hw hR (K2 := fun _ _ _ _ => False) (fun _ _ _ _ q => q.elim) ⟨fun _ => hX', fun q => absurd h4 q⟩
    | succ m ih =>
      intro j M' hj hX'
      have f1 := fr_srcs w p k S j
      have h4 : ¬ M' 1 0 ≤ nI j := by rw [hX'.at (by decide), f1 1 (by decide) (by decide), hG.cnt]; intro q; have := (nle (by omega) (by omega)).mp q; omega
      have e3 : M' 3 j = S.1 3 j := by rw [hX'.at (by decide), f1 3 (by decide) (by decide)]
      have e7 : M' 7 j = S.1 7 j := by rw [hX'.at (by decide), f1 7 (by decide) (by decide)]
      refine sE_sendToSources_2 F hw hR (K2 := fun M2 x1 x2 x3 => x1 = p ∧ x2 = nI k ∧ x3 = nI (j + 1) ∧ RX w (s_srcs w p k S (j + 1)) M2) ?_ ⟨fun q => absurd q h4, fun _ => ⟨j, rfl, by omega, fun h5 => ⟨rfl, rfl, nI_1 j, ?_⟩, fun h5 => ⟨_, kG_isSource hJ hw M' (by omega), ?_⟩⟩⟩
      · rintro M2 x1 x2 x3 ⟨rfl, rfl, rfl, hh⟩
        exact ih (j + 1) M2 (by omega) hh
      · unfold s_srcs
        rw [if_neg (fun q => h5 (e3.trans q.1))]
        exact hX'
      · rintro r M2 ⟨rfl, rfl⟩
        by_cases h7 : M2 7 j = 0
        · rw [if_pos h7]
          refine ⟨fun q => absurd q (by decide), fun _ => ⟨_, kE_sendToken hJ hw hn M2 hX' (by rw [srcs_0]; exact h0) (LN_srcs hw hN p hk j (by omega)) (t := j) (by omega) hk, fun M3 hM3 => ⟨rfl, rfl, nI_1 j, ?_⟩⟩⟩
          unfold s_srcs
          rw [if_pos ⟨e3.symm.trans h5, e7.symm.trans h7⟩]
          exact hM3
        · rw [if_neg h7]
          refine ⟨fun _ => ⟨rfl, rfl, nI_1 j, ?_⟩, fun q => absurd rfl q⟩
          unfold s_srcs
          rw [if_neg (fun q => h7 (e7.trans q.2))]
          exact hX'
  refine sE_sendToSources_0 F hw hR (K2 := fun M' x1 x2 x3 => M' = M ∧ x1 = p ∧ x2 = nI k ∧ x3 = nI 0) ?_ ⟨rfl, rfl, rfl, rfl⟩
  rintro M' x1 x2 x3 ⟨rfl, rfl, rfl, rfl⟩
  exact lp n 0 M' (by omega) hX
end CE1
