/-! The reference: its graph, and what it says of it -/
/-- the reference's graph is the state's -/
def RG (n : Nat) (S : SS) (M : MM) : Prop := M 0 1 = nI n ∧ M 1 = S.1 2 ∧ M 2 = S.1 3 ∧ M 3 = S.1 4 ∧ M 4 = S.1 5 ∧ M 11 = S.1 6 ∧ ∀ t k, t < 24 → k < 6 → M 12 (6 * t + k) = S.1 (10 + t) k
theorem nar1 {x : Int32} (h : x = 1 ∨ x = 0) : narrow .boolean (.int x) = .int x := by
  rcases h with rfl | rfl
  · rfl
  · rfl
theorem sN_le {f : Nat → Nat} {b : Nat} : ∀ m, (∀ q, q < m → f q ≤ b) → sN f m ≤ m * b := by
  intro m
  induction m with
  | zero => intro _; exact Nat.zero_le _
  | succ m ih =>
    intro h
    have h1 := ih (fun q hq => h q (by omega))
    have h2 := h m (by omega)
    show sN f m + f m ≤ (m + 1) * b
    rw [Nat.add_mul, Nat.one_mul]
    omega
theorem cN_le {f : Nat → Bool} : ∀ m, cN f m ≤ m := by
  intro m
  induction m with
  | zero => exact Nat.le_refl _
  | succ m ih =>
    show cN f m + (if f m = true then 1 else 0) ≤ m + 1
    by_cases h : f m = true
    · rw [if_pos h]; omega
    · rw [if_neg h]; omega
theorem ec_le {n : Nat} {R : MM} (hG : GR n R) {a t : Nat} (ha : a < n) : ec R a t ≤ 6 := Nat.le_trans (cN_le _) (hG.ecn ha).1
section DR1
variable {l : Launch} {D : va_G} {cI cZ : ClassId} {a : Nat → Nat} {n : Nat}
theorem kR_isTask (hJ : IJ (sM D cI cZ a)) (M : MM) (hc : M 0 1 = nI n) (x : Int32) : Ci l (sM D cI cZ a) yR_isTask wR_isTask rmR_isTask [.ref (a 0), .int x] M (fun r M' => M' = M ∧ r = if isT n x = true then 1 else 0) := by
  refine oR_isTask hJ ⟨fun h => ⟨rfl, ?_⟩, fun h => ⟨fun h1 => ⟨rfl, ?_⟩, fun h1 => ⟨rfl, ?_⟩⟩⟩
  · rw [if_neg]
    rw [isT, decide_eq_true_iff]
    exact fun q => Int32.not_lt.mpr q.1 h
  · rw [if_neg]
    rw [isT, decide_eq_true_iff, ← hc]
    exact fun q => Int32.not_lt.mpr h1 q.2
  · rw [if_pos]
    rw [isT, decide_eq_true_iff, ← hc]
    exact ⟨Int32.not_lt.mp h, Int32.not_le.mp h1⟩
theorem n6 (t k : Nat) : 6 * nI t + nI k = nI (6 * t + k) := by rw [show (6 : Int32) = nI 6 from rfl, pk_mul, nI_add]
theorem n24 (t k : Nat) : 24 * nI t + nI k = nI (24 * t + k) := by rw [show (24 : Int32) = nI 24 from rfl, pk_mul, nI_add]
theorem kR_edges (hJ : IJ (sM D cI cZ a)) {S : SS} (M : MM) (hM : RG n S M) (hG : GR n S.1) {t b : Nat} (ht : t < n) : Ci l (sM D cI cZ a) yR_edges wR_edges rmR_edges [.ref (a 0), .int (nI t), .int (nI b)] M (fun r M' => M' = M ∧ r = nI (ec S.1 t b)) := by
  have hn := hG.le
  obtain ⟨c6, ec6⟩ := hG.ecn ht
  have e11 : M 11 t = nI (tn (S.1 6 t)) := by rw [hM.2.2.2.2.2.1]; exact ec6
  refine oR_edges hJ (fun G hl hR F => ?_)
  subst hl
  have lp : ∀ m k, k + m = tn (S.1 6 t) → wx G (sM D cI cZ a) 5 (Qxi G (sM D cI cZ a) (fun r M' => M' = M ∧ r = nI (ec S.1 t b))) M 5 [(0, .ref (a 0)), (1, .int (nI t)), (2, .int (nI b)), (3, .int (nI (cN (fun k => decide (S.1 (10 + t) k = nI b)) k))), (4, .int (nI k))] [] := by
    intro m
    induction m with
    | zero =>
      intro k hk
      have hk : k = tn (S.1 6 t) := by omega
      have h4 : M 11 t ≤ nI k := by rw [e11]; exact (nle (by omega) (by omega)).mpr (by omega)
      refine sR_edges_5 F hR (K5 := fun _ _ _ _ _ => False) (fun _ _ _ _ _ q => q.elim) ⟨t, rfl, by omega, fun _ => ⟨rfl, ?_⟩, fun q => absurd h4 q⟩
      rw [hk]; rfl
    | succ m ih =>
      intro k hk
      have h4 : ¬ M 11 t ≤ nI k := by rw [e11]; intro q; have := (nle (by omega) (by omega)).mp q; omega
      have e12 : M 12 (6 * t + k) = S.1 (10 + t) k := hM.2.2.2.2.2.2 t k (by omega) (by omega)
      refine sR_edges_5 F hR (K5 := fun M' x1 x2 x3 x4 => M' = M ∧ x1 = nI t ∧ x2 = nI b ∧ x3 = nI (cN (fun k => decide (S.1 (10 + t) k = nI b)) (k + 1)) ∧ x4 = nI (k + 1)) ?_ ⟨t, rfl, by omega, fun q => absurd q h4, fun _ => ⟨6 * t + k, n6 t k, by omega, fun h5 => ⟨rfl, rfl, rfl, ?_, nI_1 k⟩, fun h5 => ⟨rfl, rfl, rfl, ?_, nI_1 k⟩⟩⟩
      · rintro M' x1 x2 x3 x4 ⟨rfl, rfl, rfl, rfl, rfl⟩
        exact ih (k + 1) (by omega)
      · show _ = nI (cN _ k + if decide (S.1 (10 + t) k = nI b) = true then 1 else 0)
        rw [if_neg (by rw [decide_eq_true_iff, ← e12]; exact h5), Nat.add_zero]
      · show _ = nI (cN _ k + if decide (S.1 (10 + t) k = nI b) = true then 1 else 0)
        rw [if_pos (by rw [decide_eq_true_iff, ← e12]; exact h5), nI_1]
  refine sR_edges_0 F hR (K5 := fun M' x1 x2 x3 x4 => M' = M ∧ x1 = nI t ∧ x2 = nI b ∧ x3 = nI 0 ∧ x4 = nI 0) ?_ ⟨rfl, rfl, rfl, rfl, rfl⟩
  rintro M' x1 x2 x3 x4 ⟨rfl, rfl, rfl, rfl, rfl⟩
  exact lp (tn (S.1 6 t)) 0 (by omega)
/-- edges into b: all of them, or the strong ones -/
def inN (R : MM) (so : Bool) (b : Nat) (m : Nat) : Nat := sN (fun a => if so = true ∧ R 2 a = 1 then 0 else ec R a b) m
theorem inN_f (R : MM) (b m : Nat) : inN R false b m = ei R m b := by
  unfold inN ei
  exact sN_congr m (fun q _ => by rw [if_neg (fun z => Bool.false_ne_true z.1)])
theorem inN_t (R : MM) (b m : Nat) : inN R true b m = es R m b := by
  unfold inN es
  refine sN_congr m (fun q _ => ?_)
  by_cases h : R 2 q = 1
  · rw [if_pos ⟨rfl, h⟩, if_pos h]
  · rw [if_neg (fun z => h z.2), if_neg h]
theorem inN_le {R : MM} (hG : GR n R) (so : Bool) (b : Nat) {m : Nat} (hm : m ≤ n) : inN R so b m ≤ 144 := by
  have hn := hG.le
  refine Nat.le_trans (sN_le (b := 6) m (fun q hq => ?_)) (by omega)
  by_cases h : so = true ∧ R 2 q = 1
  · rw [if_pos h]; omega
  · rw [if_neg h]; exact ec_le hG (by omega)
theorem kR_into (hJ : IJ (sM D cI cZ a)) {S : SS} (M : MM) (hM : RG n S M) (hG : GR n S.1) {b : Nat} (so : Bool) (x : Int32) (hx : x = if so = true then 1 else 0) : Ci l (sM D cI cZ a) yR_into wR_into rmR_into [.ref (a 0), .int (nI b), .int x] M (fun r M' => M' = M ∧ r = nI (inN S.1 so b n)) := by
  have hn := hG.le
  refine oR_into hJ (fun G hl hR F => ?_)
  subst hl
  have lp : ∀ m k, k + m = n → wx G (sM D cI cZ a) 5 (Qxi G (sM D cI cZ a) (fun r M' => M' = M ∧ r = nI (inN S.1 so b n))) M 5 [(0, .ref (a 0)), (1, .int (nI b)), (2, .int x), (3, .int (nI (inN S.1 so b k))), (4, .int (nI k))] [] := by
    intro m
    induction m with
    | zero =>
      intro k hk
      have hk : k = n := by omega
      have h4 : M 0 1 ≤ nI k := by rw [hM.1]; exact (nle (by omega) (by omega)).mpr (by omega)
      refine sR_into_5 F hR (K5 := fun _ _ _ _ _ => False) (fun _ _ _ _ _ q => q.elim) ⟨fun _ => ⟨rfl, by rw [hk]⟩, fun q => absurd h4 q⟩
    | succ m ih =>
      intro k hk
      have h4 : ¬ M 0 1 ≤ nI k := by rw [hM.1]; intro q; have := (nle (by omega) (by omega)).mp q; omega
      have e1 : M 1 k = S.1 2 k := by rw [hM.2.1]
      have hs : inN S.1 so b (k + 1) = inN S.1 so b k + if so = true ∧ S.1 2 k = 1 then 0 else ec S.1 k b := rfl
      refine sR_into_5 F hR (K5 := fun M' x1 x2 x3 x4 => M' = M ∧ x1 = nI b ∧ x2 = x ∧ x3 = nI (inN S.1 so b (k + 1)) ∧ x4 = nI (k + 1)) ?_ ⟨fun q => absurd q h4, fun _ => ⟨fun h5 => ⟨_, kR_edges hJ M hM hG (by omega), ?_⟩, fun h5 => ⟨k, rfl, by omega, fun h6 => ⟨_, kR_edges hJ M hM hG (by omega), ?_⟩, fun h6 => ⟨rfl, rfl, rfl, ?_, nI_1 k⟩⟩⟩⟩
      · rintro M' x1 x2 x3 x4 ⟨rfl, rfl, h2, rfl, rfl⟩
        rw [h2]
        exact ih (k + 1) (by omega)
      · rintro r M' ⟨rfl, rfl⟩
        refine ⟨rfl, rfl, rfl, ?_, nI_1 k⟩
        rw [hs, if_neg, nI_add]
        rintro ⟨q, -⟩
        rw [hx, if_pos q] at h5
        exact absurd h5 (by decide)
      · rintro r M' ⟨rfl, rfl⟩
        refine ⟨rfl, rfl, rfl, ?_, nI_1 k⟩
        rw [hs, if_neg, nI_add]
        exact fun q => h6 (e1.trans q.2)
      · rw [hs, if_pos, Nat.add_zero]
        refine ⟨?_, e1.symm.trans h6⟩
        cases so
        · rw [hx] at h5; exact absurd rfl h5
        · rfl
  refine sR_into_0 F hR (K5 := fun M' x1 x2 x3 x4 => M' = M ∧ x1 = nI b ∧ x2 = x ∧ x3 = nI 0 ∧ x4 = nI 0) ?_ ⟨rfl, rfl, rfl, rfl, rfl⟩
  rintro M' x1 x2 x3 x4 ⟨rfl, rfl, h2, rfl, rfl⟩
  rw [h2]
  exact lp n 0 (by omega)
theorem kR_into0 (hJ : IJ (sM D cI cZ a)) {S : SS} (M : MM) (hM : RG n S M) (hG : GR n S.1) {b : Nat} (hb : b < n) : Ci l (sM D cI cZ a) yR_into wR_into rmR_into [.ref (a 0), .int (nI b), .int 0] M (fun r M' => M' = M ∧ r = S.1 7 b) := by
  have := kR_into (l := l) (b := b) hJ M hM hG false 0 rfl
  rw [inN_f, ← hG.ein b hb] at this
  exact this
theorem kR_into1 (hJ : IJ (sM D cI cZ a)) {S : SS} (M : MM) (hM : RG n S M) (hG : GR n S.1) {b : Nat} (hb : b < n) : Ci l (sM D cI cZ a) yR_into wR_into rmR_into [.ref (a 0), .int (nI b), .int 1] M (fun r M' => M' = M ∧ r = S.1 8 b) := by
  have := kR_into (l := l) (b := b) hJ M hM hG true 1 rfl
  rw [inN_t, ← hG.esn b hb] at this
  exact this
theorem any_succ (p : Nat → Bool) (m : Nat) : (List.range (m + 1)).any p = ((List.range m).any p || p m) := by
  rw [List.range_succ, List.any_append]
  simp
theorem kR_groupHasSource (hJ : IJ (sM D cI cZ a)) {S : SS} (M : MM) (hM : RG n S M) (hG : GR n S.1) (x : Int32) : Ci l (sM D cI cZ a) yR_groupHasSource wR_groupHasSource rmR_groupHasSource [.ref (a 0), .int x] M (fun r M' => M' = M ∧ r = if s_src n S.1 x = true then 1 else 0) := by
  have hn := hG.le
  refine oR_groupHasSource hJ (fun G hl hR F => ?_)
  subst hl
  have lp : ∀ m k, k + m = n → wx G (sM D cI cZ a) 4 (Qxi G (sM D cI cZ a) (fun r M' => M' = M ∧ r = if s_src n S.1 x = true then 1 else 0)) M 4 [(0, .ref (a 0)), (1, .int x), (2, .int (if s_src k S.1 x = true then 1 else 0)), (3, .int (nI k))] [] := by
    intro m
    induction m with
    | zero =>
      intro k hk
      have hk : k = n := by omega
      subst hk
      have h4 : M 0 1 ≤ nI k := by rw [hM.1]; exact (nle (by omega) (by omega)).mpr (by omega)
      refine sR_groupHasSource_4 F hR (K4 := fun _ _ _ _ => False) (fun _ _ _ _ q => q.elim) ⟨fun _ => ⟨nar1 ?_, rfl, rfl⟩, fun q => absurd h4 q⟩
      by_cases h : s_src k S.1 x = true
      · rw [if_pos h]; exact Or.inl rfl
      · rw [if_neg h]; exact Or.inr rfl
    | succ m ih =>
      intro k hk
      have h4 : ¬ M 0 1 ≤ nI k := by rw [hM.1]; intro q; have := (nle (by omega) (by omega)).mp q; omega
      have e2 : M 2 k = S.1 3 k := by rw [hM.2.2.1]
      have hs : s_src (k + 1) S.1 x = (s_src k S.1 x || decide (S.1 3 k = x ∧ S.1 7 k = 0)) := any_succ _ k
      refine sR_groupHasSource_4 F hR (K4 := fun M' x1 x2 x3 => M' = M ∧ x1 = x ∧ x2 = (if s_src (k + 1) S.1 x = true then 1 else 0) ∧ x3 = nI (k + 1)) ?_ ⟨fun q => absurd q h4, fun _ => ⟨fun h5 => ⟨rfl, rfl, ?_, nI_1 k⟩, fun h5 => ⟨k, rfl, by omega, fun h6 => ⟨rfl, rfl, ?_, nI_1 k⟩, fun h6 => ⟨_, kR_into0 hJ M hM hG (by omega), ?_⟩⟩⟩⟩
      · rintro M' x1 x2 x3 ⟨rfl, rfl, rfl, rfl⟩
        exact ih (k + 1) (by omega)
      · cases h : s_src k S.1 x with
        | true => rw [hs, h]; rfl
        | false => rw [h] at h5; exact absurd rfl h5
      · cases h : s_src k S.1 x with
        | true => rw [h] at h5; exact absurd h5 (by decide)
        | false =>
          have : decide (S.1 3 k = x ∧ S.1 7 k = 0) = false := by rw [decide_eq_false_iff_not]; exact fun q => h6 (e2.trans q.1)
          rw [hs, h, this]; rfl
      · rintro r M' ⟨rfl, rfl⟩
        cases h : s_src k S.1 x with
        | true => rw [h] at h5; exact absurd h5 (by decide)
        | false =>
          refine ⟨fun h7 => ⟨rfl, rfl, ?_, nI_1 k⟩, fun h7 => ⟨rfl, rfl, ?_, nI_1 k⟩⟩
          · have : decide (S.1 3 k = x ∧ S.1 7 k = 0) = false := by rw [decide_eq_false_iff_not]; exact fun q => h7 q.2
            rw [hs, h, this]; rfl
          · have : decide (S.1 3 k = x ∧ S.1 7 k = 0) = true := by rw [decide_eq_true_iff]; exact ⟨e2.symm.trans h6, h7⟩
            rw [hs, h, this]; rfl
  refine sR_groupHasSource_0 F hR (K4 := fun M' x1 x2 x3 => M' = M ∧ x1 = x ∧ x2 = 0 ∧ x3 = nI 0) ?_ ⟨rfl, rfl, rfl, rfl⟩
  rintro M' x1 x2 x3 ⟨rfl, rfl, rfl, rfl⟩
  exact lp n 0 (by omega)
end DR1
