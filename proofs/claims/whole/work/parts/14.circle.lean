/-! Bits, and the search for a circle by striking out -/
theorem sh_two : ∀ i, i < 32 → ((1 : Int32) <<< (nI i &&& 31)).toBitVec = BitVec.twoPow 32 i := by decide +kernel
theorem nb_bit (x : Int32) {i : Nat} (hi : i < 32) : nb x i = x.toBitVec.getLsbD i := by
  have h : (x &&& (1 <<< (nI i &&& 31))).toBitVec = x.toBitVec &&& BitVec.twoPow 32 i := by rw [Int32.toBitVec_and, sh_two i hi]
  have h2 : (x &&& (1 <<< (nI i &&& 31))) = 0 ↔ x.toBitVec.getLsbD i = false := by
    rw [← Int32.toBitVec_inj, h]
    rw [BitVec.and_twoPow]
    cases hb : x.toBitVec.getLsbD i
    · simp
    · simp only [if_true, Bool.true_eq_false, iff_false]
      intro q
      have := congrArg (fun v => v.getLsbD i) q
      simp [hi] at this
  rw [nb]
  cases hb : x.toBitVec.getLsbD i
  · rw [decide_eq_false_iff_not]; exact fun q => q (h2.mpr hb)
  · rw [decide_eq_true_iff]; intro q; have := h2.mp q; rw [hb] at this; exact Bool.false_ne_true this.symm
theorem nb_mask : ∀ n, n ≤ 24 → ∀ i, i < 32 → ((1 <<< (nI n &&& 31) - 1 : Int32)).toBitVec.getLsbD i = decide (i < n) := by decide +kernel
theorem sh_not : ∀ t, t < 32 → ∀ i, i < 32 → (((1 <<< (nI t &&& 31)) ^^^ (-1) : Int32)).toBitVec.getLsbD i = decide (i ≠ t) := by decide +kernel
/-- the set that a number holds -/
def bs (x : Int32) (P : Nat → Prop) : Prop := ∀ i, i < 32 → (x.toBitVec.getLsbD i = true ↔ P i)
theorem bs_all {n : Nat} (hn : n ≤ 24) : bs (1 <<< (nI n &&& 31) - 1) (fun q => q < n) := fun i hi => by
  rw [nb_mask n hn i hi, decide_eq_true_iff]
theorem bs_out {x : Int32} {P : Nat → Prop} (h : bs x P) {t : Nat} (ht : t < 32) : bs (x &&& ((1 <<< (nI t &&& 31)) ^^^ (-1))) (fun q => P q ∧ q ≠ t) := fun i hi => by
  rw [Int32.toBitVec_and, BitVec.getLsbD_and, sh_not t ht i hi, Bool.and_eq_true, decide_eq_true_iff, h i hi]
theorem bs_0 {x : Int32} {P : Nat → Prop} (h : bs x P) (hP : ∀ q, P q → q < 32) : x = 0 ↔ ¬ ∃ q, P q := by
  constructor
  · rintro rfl ⟨q, hq⟩
    have := (h q (hP q hq)).mpr hq
    simp at this
  · intro hn
    rw [← Int32.toBitVec_inj]
    apply BitVec.eq_of_getLsbD_eq
    intro i hi
    have : ¬ x.toBitVec.getLsbD i = true := fun q => hn ⟨i, (h i hi).mp q⟩
    rw [Bool.not_eq_true] at this
    rw [this]
    simp
/-- strong edges -/
def se (R : MM) (a b : Nat) : Prop := R 2 a ≠ 1 ∧ ∃ k, k < tn (R 6 a) ∧ R (10 + a) k = nI b
section CG2
variable {l : Launch} {D : va_G} {cI cZ cL cE : ClassId} {a : Nat → Nat} {w : Nat}
theorem kG_leadsStronglyInto (hJ : IJ (sX D cI cZ cL cE a w)) (hw : w ≤ 4) {n : Nat} (M : MM) (hG : GR n M) {t : Nat} (ht : t < n) (x : Int32) (P : Nat → Prop) (hx : bs x P) : Ci l (sX D cI cZ cL cE a w) yG_leadsStronglyInto wG_leadsStronglyInto rmG_leadsStronglyInto [.ref (a 1), .int (nI t), .int x] M (fun r M' => M' = M ∧ (r = 1 ∨ r = 0) ∧ (r = 1 ↔ ∃ b, b < n ∧ se M t b ∧ P b)) := by
  have hn := hG.le
  obtain ⟨c, hc6, hc, he⟩ := hG.edg t ht
  have hcn : tn (M 6 t) = c := by rw [hc]; exact tnI (by omega)
  refine oG_leadsStronglyInto hJ (fun G hl hR F => ?_)
  subst hl
  have lp : M 2 t ≠ 1 → ∀ m k, k + m = c → (∀ i b, i < k → b < n → M (10 + t) i = nI b → ¬ P b) → wx G (sX D cI cZ cL cE a w) 4 (Qxi G (sX D cI cZ cL cE a w) (fun r M' => M' = M ∧ (r = 1 ∨ r = 0) ∧ (r = 1 ↔ ∃ b, b < n ∧ se M t b ∧ P b))) M 14 [(0, .ref (a 1)), (1, .int (nI t)), (2, .int x), (3, .int (nI k))] [] := by
    intro h2 m
    induction m with
    | zero =>
      intro k hk hi
      have h4 : M 6 t ≤ nI k := by rw [hc]; exact (nle (by omega) (by omega)).mpr (by omega)
      refine sG_leadsStronglyInto_14 F hw hR (K14 := fun _ _ _ _ => False) (fun _ _ _ _ q => q.elim) ⟨t, rfl, by omega, fun _ => ⟨rfl, Or.inr rfl, fun q => absurd q (by decide), ?_⟩, fun q => absurd h4 q⟩
      rintro ⟨b, hb, ⟨-, i, h5, h6⟩, h7⟩
      exact absurd h7 (hi i b (by omega) hb h6)
    | succ m ih =>
      intro k hk hi
      have h4 : ¬ M 6 t ≤ nI k := by rw [hc]; intro q; have := (nle (by omega) (by omega)).mp q; omega
      obtain ⟨b, hb, hb2⟩ := he k (by omega)
      have key : (x &&& (1 <<< ((M (10 + t) k) &&& 31))) = 0 ↔ ¬ P b := by
        rw [hb2, ← hx b (by omega), ← nb_bit x (by omega), nb, decide_eq_true_iff, Decidable.not_not]
      refine sG_leadsStronglyInto_14 F hw hR (K14 := fun M' x1 x2 x3 => M' = M ∧ x1 = nI t ∧ x2 = x ∧ x3 = nI (k + 1) ∧ ¬ P b) ?_ ⟨t, rfl, by omega, fun q => absurd q h4, fun _ => ⟨k, rfl, by omega, fun h5 => ⟨rfl, rfl, rfl, nI_1 k, key.mp h5⟩, fun h5 => ⟨rfl, Or.inl rfl, fun _ => ?_, fun _ => rfl⟩⟩⟩
      · rintro M' x1 x2 x3 ⟨rfl, rfl, rfl, rfl, hh⟩
        refine ih (k + 1) (by omega) (fun i b' hi1 hb' hi2 => ?_)
        by_cases e : i = k
        · subst e
          rw [hb2] at hi2
          rw [← (neq (by omega) (by omega)).mp hi2]
          exact hh
        · exact hi i b' (by omega) hb' hi2
      · exact ⟨b, hb, ⟨h2, k, by omega, hb2⟩, Classical.byContradiction fun q => h5 (key.mpr q)⟩
  refine sG_leadsStronglyInto_0 F hw hR (K14 := fun M' x1 x2 x3 => M' = M ∧ x1 = nI t ∧ x2 = x ∧ x3 = nI 0 ∧ M 2 t ≠ 1) ?_ ⟨t, rfl, by omega, fun h => ⟨rfl, rfl, rfl, rfl, h⟩, fun h => ⟨rfl, Or.inr rfl, fun q => absurd q (by decide), ?_⟩⟩
  · rintro M' x1 x2 x3 ⟨rfl, rfl, rfl, rfl, hh⟩
    exact lp hh c 0 (by omega) (fun i b hi => absurd hi (Nat.not_lt_zero _))
  · rintro ⟨b, hb, h3, h4⟩
    exact absurd h h3.1
theorem kG_hasStrongCycle (hJ : IJ (sX D cI cZ cL cE a w)) (hw : w ≤ 4) {n : Nat} (M : MM) (hG : GR n M) : Ci l (sX D cI cZ cL cE a w) yG_hasStrongCycle wG_hasStrongCycle rmG_hasStrongCycle [.ref (a 1)] M (fun r M' => M' = M ∧ (r = 1 ∨ r = 0) ∧ (r = 1 ↔ cy n (se M))) := by
  have hn := hG.le
  refine oG_hasStrongCycle hJ (fun G hl hR F => ?_)
  subst hl
  have lp : ∀ m p, p + m = n → ∀ x, bs x (kp n (se M) p) → wx G (sX D cI cZ cL cE a w) 4 (Qxi G (sX D cI cZ cL cE a w) (fun r M' => M' = M ∧ (r = 1 ∨ r = 0) ∧ (r = 1 ↔ cy n (se M)))) M 11 [(0, .ref (a 1)), (1, .int x), (2, .int (nI p))] [] := by
    intro m
    induction m with
    | zero =>
      intro p hp x hx
      have hp : p = n := by omega
      subst hp
      have h4 : M 1 0 ≤ nI p := by rw [hG.cnt]; exact (nle (by omega) (by omega)).mpr (by omega)
      have h0 := bs_0 hx (fun q hq => by have := kp_lt _ _ hq; omega)
      rw [kp_iff] at h0
      refine sG_hasStrongCycle_11 F hw hR (K21 := fun _ _ _ _ => False) (fun _ _ _ _ q => q.elim) ⟨fun _ => ⟨fun h => ⟨rfl, Or.inr rfl, fun q => absurd q (by decide), fun q => absurd q (h0.mp h)⟩, fun h => ⟨rfl, Or.inl rfl, fun _ => Classical.byContradiction fun q => h (h0.mpr q), fun _ => rfl⟩⟩, fun q => absurd h4 q⟩
    | succ m ih =>
      intro p hp x hx
      have h4 : ¬ M 1 0 ≤ nI p := by rw [hG.cnt]; intro q; have := (nle (by omega) (by omega)).mp q; omega
      have lp2 : ∀ m2 t, t + m2 = n → ∀ x, bs x (ks n (se M) (kp n (se M) p) t) → wx G (sX D cI cZ cL cE a w) 4 (Qxi G (sX D cI cZ cL cE a w) (fun r M' => M' = M ∧ (r = 1 ∨ r = 0) ∧ (r = 1 ↔ cy n (se M)))) M 21 [(0, .ref (a 1)), (1, .int x), (2, .int (nI p)), (3, .int (nI t))] [] := by
        intro m2
        induction m2 with
        | zero =>
          intro t ht x hx
          have ht : t = n := by omega
          subst ht
          have h5 : M 1 0 ≤ nI t := by rw [hG.cnt]; exact (nle (by omega) (by omega)).mpr (by omega)
          refine sG_hasStrongCycle_21 F hw hR (K11 := fun M' x1 x2 => M' = M ∧ x1 = x ∧ x2 = nI (p + 1)) (K21 := fun _ _ _ _ => False) ?_ (fun _ _ _ _ q => q.elim) ⟨fun _ => ⟨rfl, rfl, nI_1 p⟩, fun q => absurd h5 q⟩
          rintro M' x1 x2 ⟨rfl, rfl, rfl⟩
          exact ih (p + 1) (by omega) x1 hx
        | succ m2 ih2 =>
          intro t ht x hx
          have h5 : ¬ M 1 0 ≤ nI t := by rw [hG.cnt]; intro q; have := (nle (by omega) (by omega)).mp q; omega
          refine sG_hasStrongCycle_21 F hw hR (K11 := fun _ _ _ => False) (K21 := fun M' x1 x2 x3 => M' = M ∧ x2 = nI p ∧ x3 = nI (t + 1) ∧ bs x1 (ks n (se M) (kp n (se M) p) (t + 1))) (fun _ _ _ q => q.elim) ?_ ⟨fun q => absurd q h5, fun _ => ⟨_, kG_leadsStronglyInto hJ hw M hG (by omega) x _ hx, ?_⟩⟩
          · rintro M' x1 x2 x3 ⟨rfl, rfl, rfl, hh⟩
            exact ih2 (t + 1) (by omega) x1 hh
          · rintro r M' ⟨rfl, hr, hr2⟩
            refine ⟨fun h6 => ⟨rfl, rfl, nI_1 t, fun i hi => ?_⟩, fun h6 => ⟨rfl, rfl, nI_1 t, fun i hi => ?_⟩⟩
            · rw [hx i hi]
              have h7 := hr2.mp (hr.resolve_right h6)
              exact ⟨fun q => ⟨q, fun _ => h7⟩, fun q => q.1⟩
            · rw [bs_out hx (by omega) i hi]
              have h7 : ¬ r = 1 := by rw [h6]; decide
              rw [hr2] at h7
              exact ⟨fun q => ⟨q.1, fun e => absurd e q.2⟩, fun q => ⟨q.1, fun e => h7 (q.2 e)⟩⟩
      refine sG_hasStrongCycle_11 F hw hR (K21 := fun M' x1 x2 x3 => M' = M ∧ x1 = x ∧ x2 = nI p ∧ x3 = nI 0) ?_ ⟨fun q => absurd q h4, fun _ => ⟨rfl, rfl, rfl, rfl⟩⟩
      rintro M' x1 x2 x3 ⟨rfl, rfl, rfl, rfl⟩
      exact lp2 n 0 (by omega) x1 hx
  refine sG_hasStrongCycle_0 F hw hR (K11 := fun M' x1 x2 => M' = M ∧ x1 = 1 <<< (nI n &&& 31) - 1 ∧ x2 = nI 0) ?_ ⟨rfl, by rw [hG.cnt], rfl⟩
  rintro M' x1 x2 ⟨rfl, rfl, rfl⟩
  exact lp n 0 (by omega) _ (bs_all hn)
end CG2
