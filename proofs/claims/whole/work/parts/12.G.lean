/-! The graph: what is said of it, and what its methods do -/
def cN (p : Nat → Bool) : Nat → Nat
  | 0 => 0
  | m + 1 => cN p m + if p m = true then 1 else 0
def sN (f : Nat → Nat) : Nat → Nat
  | 0 => 0
  | m + 1 => sN f m + f m
/-- edges a -> t; edges into t; strong ones -/
def ec (R : MM) (a t : Nat) : Nat := cN (fun k => decide (R (10 + a) k = nI t)) (tn (R 6 a))
def ei (R : MM) (n t : Nat) : Nat := sN (fun a => ec R a t) n
def es (R : MM) (n t : Nat) : Nat := sN (fun a => if R 2 a = 1 then 0 else ec R a t) n
def GR (n : Nat) (R : MM) : Prop :=
  (n ≤ 24 ∧ R 1 0 = nI n) ∧
  (∀ t, t < n → ∃ k, k ≤ 3 ∧ R 2 t = nI k) ∧
  (∀ t, t < n → R 3 t = -1 ∨ ∃ p, p < t ∧ R 3 t = nI p) ∧
  (∀ t, t < n → ∃ v, v ≤ 3 ∧ R 4 t = nI v ∧ ∀ p, p < t → R 3 t = nI p → ∃ u, u + 1 = v ∧ R 4 p = nI u) ∧
  (∀ t, t < n → ∃ k, k < 16 ∧ R 5 t = nI k) ∧
  (∀ t, t < n → ∃ c, c ≤ 6 ∧ R 6 t = nI c ∧ ∀ k, k < c → ∃ b, b < n ∧ R (10 + t) k = nI b ∧ R 3 b = R 3 t) ∧
  (∀ t, n ≤ t → R 6 t = 0 ∧ R 7 t = 0 ∧ R 8 t = 0) ∧
  (∀ t, t < n → R 7 t = nI (ei R n t)) ∧
  (∀ t, t < n → R 8 t = nI (es R n t))
section GRP
variable {n : Nat} {R : MM}
theorem GR.le (h : GR n R) : n ≤ 24 := h.1.1
theorem GR.cnt (h : GR n R) : R 1 0 = nI n := h.1.2
theorem GR.kind (h : GR n R) : ∀ t, t < n → ∃ k, k ≤ 3 ∧ R 2 t = nI k := h.2.1
theorem GR.par (h : GR n R) : ∀ t, t < n → R 3 t = -1 ∨ ∃ p, p < t ∧ R 3 t = nI p := h.2.2.1
theorem GR.lev (h : GR n R) : ∀ t, t < n → ∃ v, v ≤ 3 ∧ R 4 t = nI v ∧ ∀ p, p < t → R 3 t = nI p → ∃ u, u + 1 = v ∧ R 4 p = nI u := h.2.2.2.1
theorem GR.need (h : GR n R) : ∀ t, t < n → ∃ k, k < 16 ∧ R 5 t = nI k := h.2.2.2.2.1
theorem GR.edg (h : GR n R) : ∀ t, t < n → ∃ c, c ≤ 6 ∧ R 6 t = nI c ∧ ∀ k, k < c → ∃ b, b < n ∧ R (10 + t) k = nI b := fun t ht => by
  obtain ⟨c, h1, h2, h3⟩ := h.2.2.2.2.2.1 t ht
  exact ⟨c, h1, h2, fun k hk => by obtain ⟨b, h4, h5, -⟩ := h3 k hk; exact ⟨b, h4, h5⟩⟩
theorem GR.beh (h : GR n R) : ∀ t, n ≤ t → R 6 t = 0 ∧ R 7 t = 0 ∧ R 8 t = 0 := h.2.2.2.2.2.2.1
theorem GR.ein (h : GR n R) : ∀ t, t < n → R 7 t = nI (ei R n t) := h.2.2.2.2.2.2.2.1
theorem GR.esn (h : GR n R) : ∀ t, t < n → R 8 t = nI (es R n t) := h.2.2.2.2.2.2.2.2
end GRP
def isT (n : Nat) (x : Int32) : Bool := decide (0 ≤ x ∧ x < nI n)
theorem isT_nI {n t : Nat} (hn : n < 1000) (ht : t < n) : isT n (nI t) = true := by
  rw [isT, decide_eq_true_iff]
  exact ⟨nI_pos' (by omega), (nlt (by omega) hn).mpr ht⟩
theorem isT_of {n : Nat} {x : Int32} (hn : n < 1000) (h : isT n x = true) : ∃ t, t < n ∧ x = nI t := by
  rw [isT, decide_eq_true_iff] at h
  exact lt_tn hn (Int32.not_lt.mpr h.1) h.2
def s_hasE (R : MM) (a : Nat) (x : Int32) : Bool := (List.range (tn (R 6 a))).any fun k => decide (R (10 + a) k = x)
def s_src (n : Nat) (R : MM) (p : Int32) : Bool := (List.range n).any fun t => decide (R 3 t = p ∧ R 7 t = 0)
def s_nosrc (n : Nat) (R : MM) : Bool := (List.range n).any fun t => !(s_src n R (R 3 t))
def s_takes (n : Nat) (R : MM) (k p d : Int32) : Bool := decide (n < 24) && decide (0 ≤ k ∧ k ≤ 3) && decide (0 ≤ d ∧ d ≤ 15) && (decide (p = -1) || (isT n p && decide (R 2 (tn p) = 2 ∨ R 2 (tn p) = 3) && decide (R 4 (tn p) < 3)))
def s_takesE (n : Nat) (R : MM) (x y : Int32) : Bool := isT n x && isT n y && decide (R 3 (tn x) = R 3 (tn y)) && decide (R 6 (tn x) < 6) && !(s_hasE R (tn x) y)
section CG
variable {l : Launch} {D : va_G} {cI cZ cL cE : ClassId} {a : Nat → Nat} {w : Nat}
theorem kG_isTask (hJ : IJ (sX D cI cZ cL cE a w)) (hw : w ≤ 4) {n : Nat} (_hn : n ≤ 24) (M : MM) (hc : M 1 0 = nI n) (x : Int32) : Ci l (sX D cI cZ cL cE a w) yG_isTask wG_isTask rmG_isTask [.ref (a 1), .int x] M (fun r M' => M' = M ∧ r = if isT n x = true then 1 else 0) := by
  refine oG_isTask hJ hw ⟨fun h => ⟨rfl, ?_⟩, fun h => ⟨fun h1 => ⟨rfl, ?_⟩, fun h1 => ⟨rfl, ?_⟩⟩⟩
  · rw [if_neg]
    rw [isT, decide_eq_true_iff]
    exact fun q => Int32.not_lt.mpr q.1 h
  · rw [if_neg]
    rw [isT, decide_eq_true_iff, ← hc]
    exact fun q => Int32.not_lt.mpr h1 q.2
  · rw [if_pos]
    rw [isT, decide_eq_true_iff, ← hc]
    exact ⟨Int32.not_lt.mp h, Int32.not_le.mp h1⟩
theorem kG_isSource (hJ : IJ (sX D cI cZ cL cE a w)) (hw : w ≤ 4) (M : MM) {t : Nat} (ht : t < 24) : Ci l (sX D cI cZ cL cE a w) yG_isSource wG_isSource rmG_isSource [.ref (a 1), .int (nI t)] M (fun r M' => M' = M ∧ r = if M 7 t = 0 then 1 else 0) := by
  refine oG_isSource hJ hw ⟨t, rfl, ht, fun h => ⟨rfl, by rw [if_neg h]⟩, fun h => ⟨rfl, by rw [if_pos h]⟩⟩
theorem kG_canHoldChildren (hJ : IJ (sX D cI cZ cL cE a w)) (hw : w ≤ 4) (M : MM) {t : Nat} (ht : t < 24) : Ci l (sX D cI cZ cL cE a w) yG_canHoldChildren wG_canHoldChildren rmG_canHoldChildren [.ref (a 1), .int (nI t)] M (fun r M' => M' = M ∧ r = if M 2 t = 2 ∨ M 2 t = 3 then 1 else 0) := by
  refine oG_canHoldChildren hJ hw ⟨t, rfl, ht, fun h => ⟨rfl, by rw [if_pos (Or.inl h)]⟩, fun h => ⟨fun h1 => ⟨rfl, by rw [if_neg (fun q => q.elim h h1)]⟩, fun h1 => ⟨rfl, by rw [if_pos (Or.inr h1)]⟩⟩⟩
theorem kG_takesTask (hJ : IJ (sX D cI cZ cL cE a w)) (hw : w ≤ 4) {n : Nat} (hn : n ≤ 24) (M : MM) (hc : M 1 0 = nI n) (k p d : Int32) : Ci l (sX D cI cZ cL cE a w) yG_takesTask wG_takesTask rmG_takesTask [.ref (a 1), .int k, .int p, .int d] M (fun r M' => M' = M ∧ r = if s_takes n M k p d = true then 1 else 0) := by
  have h24 : (24 : Int32) ≤ M 1 0 ↔ 24 ≤ n := by rw [hc]; exact nle (a := 24) (by omega) (by omega)
  refine oG_takesTask hJ hw ⟨fun h => ⟨rfl, ?_⟩, fun h => ⟨fun h1 => ⟨rfl, ?_⟩, fun h1 => ⟨fun h2 => ⟨fun h3 => ⟨rfl, ?_⟩, fun h3 => ⟨fun h4 => ⟨fun h5 => ⟨rfl, ?_⟩, fun h5 => ⟨_, kG_isTask hJ hw hn M hc p, ?_⟩⟩, fun h4 => ⟨rfl, ?_⟩⟩⟩, fun h2 => ⟨rfl, ?_⟩⟩⟩⟩
  · rw [if_neg]; simp only [s_takes, Bool.and_eq_true, decide_eq_true_iff]; have := h24.mp h; omega
  · rw [if_neg]; simp only [s_takes, Bool.and_eq_true, decide_eq_true_iff]; exact fun q => Int32.not_lt.mpr q.1.1.2.1 h1
  · rw [if_neg]; simp only [s_takes, Bool.and_eq_true, decide_eq_true_iff]; exact fun q => Int32.not_lt.mpr q.1.2.1 h3
  · rw [if_pos]
    simp only [s_takes, Bool.and_eq_true, decide_eq_true_iff, Bool.or_eq_true]
    exact ⟨⟨⟨by have := mt h24.mpr h; omega, Int32.not_lt.mp h1, h2⟩, Int32.not_lt.mp h3, h4⟩, Or.inl h5⟩
  · rintro r M' ⟨rfl, rfl⟩
    cases hT : isT n p with
    | false =>
      refine ⟨fun _ => ⟨rfl, ?_⟩, fun q => absurd rfl q⟩
      rw [if_neg]; simp only [s_takes, Bool.and_eq_true, Bool.or_eq_true, decide_eq_true_iff, hT]
      exact fun q => q.2.elim h5 (fun z => Bool.false_ne_true z.1.1)
    | true =>
      obtain ⟨j, hj, rfl⟩ := isT_of (by omega) hT
      refine ⟨fun q => absurd q (by decide), fun _ => ⟨_, kG_canHoldChildren hJ hw M' (t := j) (by omega), ?_⟩⟩
      rintro r M2 ⟨rfl, rfl⟩
      by_cases hk : M2 2 j = 2 ∨ M2 2 j = 3
      · rw [if_pos hk]
        refine ⟨fun q => absurd q (by decide), fun _ => ⟨j, rfl, by omega, fun h6 => ⟨rfl, ?_⟩, fun h6 => ⟨rfl, ?_⟩⟩⟩
        · rw [if_neg]; simp only [s_takes, Bool.and_eq_true, Bool.or_eq_true, decide_eq_true_iff, hT, tnI (show j < 1000 by omega)]
          exact fun q => q.2.elim h5 (fun z => Int32.not_lt.mpr h6 z.2)
        · rw [if_pos]; simp only [s_takes, Bool.and_eq_true, Bool.or_eq_true, decide_eq_true_iff, hT, tnI (show j < 1000 by omega)]
          exact ⟨⟨⟨by have := mt h24.mpr h; omega, Int32.not_lt.mp h1, h2⟩, Int32.not_lt.mp h3, h4⟩, Or.inr ⟨⟨trivial, hk⟩, Int32.not_le.mp h6⟩⟩
      · rw [if_neg hk]
        refine ⟨fun _ => ⟨rfl, ?_⟩, fun q => absurd rfl q⟩
        rw [if_neg]; simp only [s_takes, Bool.and_eq_true, Bool.or_eq_true, decide_eq_true_iff, hT, tnI (show j < 1000 by omega)]
        exact fun q => q.2.elim h5 (fun z => hk z.1.2)
  · rw [if_neg]; simp only [s_takes, Bool.and_eq_true, decide_eq_true_iff]; exact fun q => h4 q.1.2.2
  · rw [if_neg]; simp only [s_takes, Bool.and_eq_true, decide_eq_true_iff]; exact fun q => h2 q.1.1.2.2
theorem kG_hasEdge (hJ : IJ (sX D cI cZ cL cE a w)) (hw : w ≤ 4) (M : MM) {t c : Nat} (ht : t < 24) (hc : M 6 t = nI c) (hc6 : c ≤ 6) (x : Int32) : Ci l (sX D cI cZ cL cE a w) yG_hasEdge wG_hasEdge rmG_hasEdge [.ref (a 1), .int (nI t), .int x] M (fun r M' => M' = M ∧ r = if s_hasE M t x = true then 1 else 0) := by
  refine oG_hasEdge hJ (fun G hl hR F => ?_)
  subst hl
  have lp : ∀ m k, k + m = c → (∀ i, i < k → M (10 + t) i ≠ x) → wx G (sX D cI cZ cL cE a w) 4 (Qxi G (sX D cI cZ cL cE a w) (fun r M' => M' = M ∧ r = if s_hasE M t x = true then 1 else 0)) M 2 [(0, .ref (a 1)), (1, .int (nI t)), (2, .int x), (3, .int (nI k))] [] := by
    intro m
    induction m with
    | zero =>
      intro k hk hi
      have h4 : M 6 t ≤ nI k := by rw [hc]; exact (nle (by omega) (by omega)).mpr (by omega)
      refine sG_hasEdge_2 F hw hR (K2 := fun _ _ _ _ => False) (fun _ _ _ _ q => q.elim) ⟨t, rfl, ht, fun _ => ⟨rfl, ?_⟩, fun q => absurd h4 q⟩
      rw [if_neg]
      simp only [s_hasE, hc, tnI (show c < 1000 by omega), List.any_eq_true, List.mem_range, decide_eq_true_iff]
      rintro ⟨i, h1, h2⟩
      exact hi i (by omega) h2
    | succ m ih =>
      intro k hk hi
      have h4 : ¬ M 6 t ≤ nI k := by rw [hc]; intro q; have := (nle (by omega) (by omega)).mp q; omega
      refine sG_hasEdge_2 F hw hR (K2 := fun M' x1 x2 x3 => M' = M ∧ x1 = nI t ∧ x2 = x ∧ x3 = nI (k + 1) ∧ M (10 + t) k ≠ x) ?_ ⟨t, rfl, ht, fun q => absurd q h4, fun _ => ⟨k, rfl, by omega, fun h5 => ⟨rfl, rfl, rfl, nI_1 k, h5⟩, fun h5 => ⟨rfl, ?_⟩⟩⟩
      · rintro M' x1 x2 x3 ⟨rfl, rfl, rfl, rfl, hh⟩
        refine ih (k + 1) (by omega) (fun i hi1 => ?_)
        by_cases e : i = k
        · subst e; exact hh
        · exact hi i (by omega)
      · rw [if_pos]
        simp only [s_hasE, hc, tnI (show c < 1000 by omega), List.any_eq_true, List.mem_range, decide_eq_true_iff]
        exact ⟨k, by omega, h5⟩
  refine sG_hasEdge_0 F hw hR (K2 := fun M' x1 x2 x3 => M' = M ∧ x1 = nI t ∧ x2 = x ∧ x3 = nI 0) ?_ ⟨rfl, rfl, rfl, rfl⟩
  rintro M' x1 x2 x3 ⟨rfl, rfl, rfl, rfl⟩
  exact lp c 0 (by omega) (fun i hi => absurd hi (Nat.not_lt_zero _))
theorem kG_takesEdge (hJ : IJ (sX D cI cZ cL cE a w)) (hw : w ≤ 4) {n : Nat} (M : MM) (hG : GR n M) (x y : Int32) : Ci l (sX D cI cZ cL cE a w) yG_takesEdge wG_takesEdge rmG_takesEdge [.ref (a 1), .int x, .int y] M (fun r M' => M' = M ∧ r = if s_takesE n M x y = true then 1 else 0) := by
  have hn := hG.le
  refine oG_takesEdge hJ hw ⟨_, kG_isTask hJ hw hn M hG.cnt x, ?_⟩
  rintro r M' ⟨rfl, rfl⟩
  cases hT : isT n x with
  | false =>
    refine ⟨fun _ => ⟨rfl, ?_⟩, fun q => absurd rfl q⟩
    rw [if_neg]; simp [s_takesE, hT]
  | true =>
    obtain ⟨i, hi, rfl⟩ := isT_of (by omega) hT
    refine ⟨fun q => absurd q (by decide), fun _ => ⟨_, kG_isTask hJ hw hn M' hG.cnt y, ?_⟩⟩
    rintro r M2 ⟨rfl, rfl⟩
    cases hU : isT n y with
    | false =>
      refine ⟨fun _ => ⟨rfl, ?_⟩, fun q => absurd rfl q⟩
      rw [if_neg]; simp [s_takesE, hU]
    | true =>
      obtain ⟨j, hj, rfl⟩ := isT_of (by omega) hU
      obtain ⟨c, hc6, hc, -⟩ := hG.edg i hi
      have e1 := tnI (show i < 1000 by omega)
      have e2 := tnI (show j < 1000 by omega)
      refine ⟨fun q => absurd q (by decide), fun _ => ⟨i, rfl, by omega, j, rfl, by omega, fun h => ⟨rfl, ?_⟩, fun h => ⟨fun h1 => ⟨rfl, ?_⟩, fun h1 => ⟨_, kG_hasEdge hJ hw M2 (by omega) hc hc6 (nI j), ?_⟩⟩⟩⟩
      · rw [if_neg]; simp [s_takesE, e1, e2, h]
      · rw [if_neg]; simp only [s_takesE, e1, e2, Bool.and_eq_true, decide_eq_true_iff]
        exact fun q => Int32.not_lt.mpr h1 q.1.2
      · rintro r M3 ⟨rfl, rfl⟩
        cases hE : s_hasE M3 i (nI j) with
        | false =>
          refine ⟨fun q => absurd rfl q, fun _ => ⟨rfl, ?_⟩⟩
          rw [if_pos]; simp only [s_takesE, e1, e2, hT, hU, hE, h, Bool.and_eq_true, decide_eq_true_iff]
          exact ⟨⟨⟨⟨trivial, trivial⟩, trivial⟩, Int32.not_le.mp h1⟩, rfl⟩
        | true =>
          refine ⟨fun _ => ⟨rfl, ?_⟩, fun q => absurd q (by decide)⟩
          rw [if_neg]; simp [s_takesE, e1, hE]
theorem kG_hasSource (hJ : IJ (sX D cI cZ cL cE a w)) (hw : w ≤ 4) {n : Nat} (hn : n ≤ 24) (M : MM) (hc : M 1 0 = nI n) (x : Int32) : Ci l (sX D cI cZ cL cE a w) yG_hasSource wG_hasSource rmG_hasSource [.ref (a 1), .int x] M (fun r M' => M' = M ∧ r = if s_src n M x = true then 1 else 0) := by
  refine oG_hasSource hJ (fun G hl hR F => ?_)
  subst hl
  have lp : ∀ m k, k + m = n → (∀ i, i < k → ¬ (M 3 i = x ∧ M 7 i = 0)) → wx G (sX D cI cZ cL cE a w) 3 (Qxi G (sX D cI cZ cL cE a w) (fun r M' => M' = M ∧ r = if s_src n M x = true then 1 else 0)) M 2 [(0, .ref (a 1)), (1, .int x), (2, .int (nI k))] [] := by
    intro m
    induction m with
    | zero =>
      intro k hk hi
      have h4 : M 1 0 ≤ nI k := by rw [hc]; exact (nle (by omega) (by omega)).mpr (by omega)
      refine sG_hasSource_2 F hw hR (K2 := fun _ _ _ => False) (fun _ _ _ q => q.elim) ⟨fun _ => ⟨rfl, ?_⟩, fun q => absurd h4 q⟩
      rw [if_neg]
      simp only [s_src, List.any_eq_true, List.mem_range, decide_eq_true_iff]
      rintro ⟨i, h1, h2⟩
      exact hi i (by omega) h2
    | succ m ih =>
      intro k hk hi
      have h4 : ¬ M 1 0 ≤ nI k := by rw [hc]; intro q; have := (nle (by omega) (by omega)).mp q; omega
      refine sG_hasSource_2 F hw hR (K2 := fun M' x1 x2 => M' = M ∧ x1 = x ∧ x2 = nI (k + 1) ∧ ¬ (M 3 k = x ∧ M 7 k = 0)) ?_ ⟨fun q => absurd q h4, fun _ => ⟨k, rfl, by omega, fun h5 => ⟨rfl, rfl, nI_1 k, fun q => h5 q.1⟩, fun h5 => ⟨_, kG_isSource hJ hw M (by omega), ?_⟩⟩⟩
      · rintro M' x1 x2 ⟨rfl, rfl, rfl, hh⟩
        refine ih (k + 1) (by omega) (fun i hi1 => ?_)
        by_cases e : i = k
        · subst e; exact hh
        · exact hi i (by omega)
      · rintro r M' ⟨rfl, rfl⟩
        by_cases h7 : M' 7 k = 0
        · rw [if_pos h7]
          refine ⟨fun q => absurd q (by decide), fun _ => ⟨rfl, ?_⟩⟩
          rw [if_pos]
          simp only [s_src, List.any_eq_true, List.mem_range, decide_eq_true_iff]
          exact ⟨k, by omega, h5, h7⟩
        · rw [if_neg h7]
          exact ⟨fun _ => ⟨rfl, rfl, nI_1 k, fun q => h7 q.2⟩, fun q => absurd rfl q⟩
  refine sG_hasSource_0 F hw hR (K2 := fun M' x1 x2 => M' = M ∧ x1 = x ∧ x2 = nI 0) ?_ ⟨rfl, rfl, rfl⟩
  rintro M' x1 x2 ⟨rfl, rfl, rfl⟩
  exact lp n 0 (by omega) (fun i hi => absurd hi (Nat.not_lt_zero _))
theorem kG_hasGroupWithoutSource (hJ : IJ (sX D cI cZ cL cE a w)) (hw : w ≤ 4) {n : Nat} (hn : n ≤ 24) (M : MM) (hc : M 1 0 = nI n) : Ci l (sX D cI cZ cL cE a w) yG_hasGroupWithoutSource wG_hasGroupWithoutSource rmG_hasGroupWithoutSource [.ref (a 1)] M (fun r M' => M' = M ∧ r = if s_nosrc n M = true then 1 else 0) := by
  refine oG_hasGroupWithoutSource hJ (fun G hl hR F => ?_)
  subst hl
  have lp : ∀ m k, k + m = n → (∀ i, i < k → s_src n M (M 3 i) = true) → wx G (sX D cI cZ cL cE a w) 2 (Qxi G (sX D cI cZ cL cE a w) (fun r M' => M' = M ∧ r = if s_nosrc n M = true then 1 else 0)) M 2 [(0, .ref (a 1)), (1, .int (nI k))] [] := by
    intro m
    induction m with
    | zero =>
      intro k hk hi
      have h4 : M 1 0 ≤ nI k := by rw [hc]; exact (nle (by omega) (by omega)).mpr (by omega)
      refine sG_hasGroupWithoutSource_2 F hw hR (K2 := fun _ _ => False) (fun _ _ q => q.elim) ⟨fun _ => ⟨rfl, ?_⟩, fun q => absurd h4 q⟩
      rw [if_neg]
      simp only [s_nosrc, List.any_eq_true, List.mem_range]
      rintro ⟨i, h1, h2⟩
      rw [hi i (by omega)] at h2
      exact Bool.false_ne_true h2
    | succ m ih =>
      intro k hk hi
      have h4 : ¬ M 1 0 ≤ nI k := by rw [hc]; intro q; have := (nle (by omega) (by omega)).mp q; omega
      refine sG_hasGroupWithoutSource_2 F hw hR (K2 := fun M' x1 => M' = M ∧ x1 = nI (k + 1) ∧ s_src n M (M 3 k) = true) ?_ ⟨fun q => absurd q h4, fun _ => ⟨k, rfl, by omega, _, kG_hasSource hJ hw hn M hc (M 3 k), ?_⟩⟩
      · rintro M' x1 ⟨rfl, rfl, hh⟩
        refine ih (k + 1) (by omega) (fun i hi1 => ?_)
        by_cases e : i = k
        · subst e; exact hh
        · exact hi i (by omega)
      · rintro r M' ⟨rfl, rfl⟩
        cases hs : s_src n M' (M' 3 k) with
        | true => exact ⟨fun _ => ⟨rfl, nI_1 k, rfl⟩, fun q => absurd q (by decide)⟩
        | false =>
          refine ⟨fun q => absurd rfl q, fun _ => ⟨rfl, ?_⟩⟩
          rw [if_pos]
          simp only [s_nosrc, List.any_eq_true, List.mem_range]
          exact ⟨k, by omega, by rw [hs]; rfl⟩
  refine sG_hasGroupWithoutSource_0 F hw hR (K2 := fun M' x1 => M' = M ∧ x1 = nI 0) ?_ ⟨rfl, rfl⟩
  rintro M' x1 ⟨rfl, rfl⟩
  exact lp n 0 (by omega) (fun i hi => absurd hi (Nat.not_lt_zero _))
end CG
