/-! The reference looks for a circle by closing under paths -/
def W13 (M M' : MM) : Prop := ∀ k, k ≠ 13 → M' k = M k
theorem W13.mp {M M' : MM} (h : W13 M M') (i : Nat) (x : Int32) : W13 M (mp M' 13 i x) := fun k hk => by rw [mp_ne _ _ _ _ hk]; exact h k hk
theorem RG_13 {n : Nat} {S : SS} {M M' : MM} (h : W13 M M') (hM : RG n S M) : RG n S M' := by
  unfold RG
  rw [h 0 (by decide), h 1 (by decide), h 2 (by decide), h 3 (by decide), h 4 (by decide), h 11 (by decide), h 12 (by decide)]
  exact hM
/-- the bits of leads up to (p, q) in the order of the rows say B, the others A -/
def lb (n : Nat) (M : MM) (A B : Nat → Nat → Prop) (p q : Nat) : Prop := ∀ u v, u < n → v < n → (¬ M 13 (24 * u + v) = 0 ↔ if u < p ∨ (u = p ∧ v < q) then B u v else A u v)
theorem lb_row {n : Nat} {M : MM} {A B : Nat → Nat → Prop} {p : Nat} (h : lb n M A B p n) : lb n M A B (p + 1) 0 := fun u v hu hv => by
  rw [h u v hu hv]
  by_cases e : u < p ∨ (u = p ∧ v < n)
  · rw [if_pos e, if_pos (by omega)]
  · rw [if_neg e, if_neg (by omega)]
theorem lb_all {n : Nat} {M : MM} {A B : Nat → Nat → Prop} (h : lb n M A B n 0) : ∀ u v, u < n → v < n → (¬ M 13 (24 * u + v) = 0 ↔ B u v) := fun u v hu hv => by
  rw [h u v hu hv, if_pos (Or.inl hu)]
theorem lb_put {n : Nat} (hn : n ≤ 24) {M : MM} {A B : Nat → Nat → Prop} {p q : Nat} (hp : p < n) (hq : q < n) (h : lb n M A B p q) {x : Int32} (hx : ¬ x = 0 ↔ B p q) : lb n (mp M 13 (24 * p + q) x) A B p (q + 1) := fun u v hu hv => by
  rw [mp_at]
  by_cases e : u = p ∧ v = q
  · obtain ⟨rfl, rfl⟩ := e
    rw [if_pos ⟨rfl, rfl⟩, if_pos (by omega)]
    exact hx
  · rw [if_neg (by omega), h u v hu hv]
    by_cases e2 : u < p ∨ (u = p ∧ v < q)
    · rw [if_pos e2, if_pos (by omega)]
    · rw [if_neg e2, if_neg (by omega)]
section DR2
variable {l : Launch} {D : va_G} {cI cZ : ClassId} {a : Nat → Nat} {n : Nat}
theorem ec_se {R : MM} (_hG : GR n R) {p q : Nat} (_hp : p < n) : 0 < ec R p q ↔ ∃ k, k < tn (R 6 p) ∧ R (10 + p) k = nI q := by
  unfold ec
  have key : ∀ m, 0 < cN (fun k => decide (R (10 + p) k = nI q)) m ↔ ∃ k, k < m ∧ R (10 + p) k = nI q := by
    intro m
    induction m with
    | zero => exact ⟨fun h => absurd h (Nat.lt_irrefl _), fun ⟨k, h, _⟩ => absurd h (Nat.not_lt_zero _)⟩
    | succ m ih =>
      show 0 < cN _ m + (if decide (R (10 + p) m = nI q) = true then 1 else 0) ↔ _
      by_cases h : R (10 + p) m = nI q
      · rw [if_pos (by rw [decide_eq_true_iff]; exact h)]
        exact ⟨fun _ => ⟨m, by omega, h⟩, fun _ => by omega⟩
      · rw [if_neg (by rw [decide_eq_true_iff]; exact h), Nat.add_zero, ih]
        constructor
        · rintro ⟨k, h1, h2⟩; exact ⟨k, by omega, h2⟩
        · rintro ⟨k, h1, h2⟩
          refine ⟨k, ?_, h2⟩
          have : k ≠ m := fun e => h (e ▸ h2)
          omega
  exact key _
theorem kR_circle (hJ : IJ (sM D cI cZ a)) {S : SS} (M : MM) (hM : RG n S M) (hG : GR n S.1) : Ci l (sM D cI cZ a) yR_circle wR_circle rmR_circle [.ref (a 0)] M (fun r M' => W13 M M' ∧ (r = 1 ∨ r = 0) ∧ (r = 1 ↔ cy n (se S.1))) := by
  have hn := hG.le
  refine oR_circle hJ (fun G hl hR F => ?_)
  subst hl
  have c01 : ∀ M', W13 M M' → M' 0 1 = nI n := fun M' h => by rw [h 0 (by decide)]; exact hM.1
  have l3 : ∀ m k M' (x : Int32), k + m = n → W13 M M' → (∀ u v, u < n → v < n → (¬ M' 13 (24 * u + v) = 0 ↔ pI (se S.1) n u v)) → (x = 1 ∨ x = 0) → (x = 1 ↔ ∃ t, t < k ∧ pI (se S.1) n t t) → wx G (sM D cI cZ a) 5 (Qxi G (sM D cI cZ a) (fun r M' => W13 M M' ∧ (r = 1 ∨ r = 0) ∧ (r = 1 ↔ cy n (se S.1)))) M' 189 [(0, .ref (a 0)), (1, .int x), (2, .int (nI k))] [] := by
    intro m
    induction m with
    | zero =>
      intro k M' x hk hW hb h1 h2
      have hk : k = n := by omega
      subst hk
      have h4 : M' 0 1 ≤ nI k := by rw [c01 M' hW]; exact (nle (by omega) (by omega)).mpr (by omega)
      refine sR_circle_189 F hR (K189 := fun _ _ _ => False) (fun _ _ _ q => q.elim) ⟨fun _ => ⟨nar1 h1, hW, h1, ?_⟩, fun q => absurd h4 q⟩
      rw [h2, pI_cy]
    | succ m ih =>
      intro k M' x hk hW hb h1 h2
      have h4 : ¬ M' 0 1 ≤ nI k := by rw [c01 M' hW]; intro q; have := (nle (by omega) (by omega)).mp q; omega
      have e25 : (25 : Int32) * nI k = nI (24 * k + k) := by rw [show (25 : Int32) = nI 25 from rfl, pk_mul]; congr 1; omega
      refine sR_circle_189 F hR (K189 := fun M2 x1 x2 => M2 = M' ∧ x2 = nI (k + 1) ∧ (x1 = 1 ∨ x1 = 0) ∧ (x1 = 1 ↔ ∃ t, t < k + 1 ∧ pI (se S.1) n t t)) ?_ ⟨fun q => absurd q h4, fun _ => ⟨fun h5 => ⟨rfl, nI_1 k, Or.inl rfl, ⟨fun _ => ?_, fun _ => rfl⟩⟩, fun h5 => ⟨24 * k + k, e25, by omega, fun h6 => ⟨rfl, nI_1 k, Or.inr rfl, ⟨fun q => absurd q (by decide), ?_⟩⟩, fun h6 => ⟨rfl, nI_1 k, Or.inl rfl, ⟨fun _ => ⟨k, by omega, (hb k k (by omega) (by omega)).mp h6⟩, fun _ => rfl⟩⟩⟩⟩⟩
      · rintro M2 x1 x2 ⟨rfl, rfl, g1, g2⟩
        exact ih (k + 1) M2 x1 (by omega) hW hb g1 g2
      · obtain ⟨t, t1, t2⟩ := h2.mp (h1.resolve_right h5)
        exact ⟨t, by omega, t2⟩
      · rintro ⟨t, t1, t2⟩
        by_cases e : t = k
        · subst e; exact absurd h6 ((hb t t (by omega) (by omega)).mpr t2)
        · have := h2.mpr ⟨t, by omega, t2⟩
          rw [h5] at this
          exact absurd this (by decide)
  have l2 : ∀ m c M', c + m = n → W13 M M' → (∀ u v, u < n → v < n → (¬ M' 13 (24 * u + v) = 0 ↔ pI (se S.1) c u v)) → wx G (sM D cI cZ a) 5 (Qxi G (sM D cI cZ a) (fun r M' => W13 M M' ∧ (r = 1 ∨ r = 0) ∧ (r = 1 ↔ cy n (se S.1)))) M' 69 [(0, .ref (a 0)), (1, .int (nI c))] [] := by
    intro m
    induction m with
    | zero =>
      intro c M' hc hW hb
      have hc : c = n := by omega
      subst hc
      have h4 : M' 0 1 ≤ nI c := by rw [c01 M' hW]; exact (nle (by omega) (by omega)).mpr (by omega)
      refine sR_circle_69 F hR (K79 := fun _ _ _ => False) (K189 := fun M2 x1 x2 => M2 = M' ∧ x1 = 0 ∧ x2 = nI 0) (fun _ _ _ q => q.elim) ?_ ⟨fun _ => ⟨rfl, rfl, rfl⟩, fun q => absurd h4 q⟩
      rintro M2 x1 x2 ⟨rfl, rfl, rfl⟩
      exact l3 c 0 M2 0 (by omega) hW hb (Or.inr rfl) ⟨fun q => absurd q (by decide), fun ⟨t, h, _⟩ => absurd h (Nat.not_lt_zero _)⟩
    | succ m ih =>
      intro c M' hc hW hb
      have h4 : ¬ M' 0 1 ≤ nI c := by rw [c01 M' hW]; intro q; have := (nle (by omega) (by omega)).mp q; omega
      have hAB1 : ∀ u, (pI (se S.1) (c + 1) u c ↔ pI (se S.1) c u c) := fun u => ⟨fun h => h.elim id (fun z => z.1), Or.inl⟩
      have hAB2 : ∀ v, (pI (se S.1) (c + 1) c v ↔ pI (se S.1) c c v) := fun v => ⟨fun h => h.elim id (fun z => z.2), Or.inl⟩
      have l2c : ∀ m3 p q M2, p < n → q + m3 = n → W13 M M2 → lb n M2 (pI (se S.1) c) (pI (se S.1) (c + 1)) p q → (∀ M3, W13 M M3 → lb n M3 (pI (se S.1) c) (pI (se S.1) (c + 1)) p n → wx G (sM D cI cZ a) 5 (Qxi G (sM D cI cZ a) (fun r M' => W13 M M' ∧ (r = 1 ∨ r = 0) ∧ (r = 1 ↔ cy n (se S.1)))) M3 79 [(0, .ref (a 0)), (1, .int (nI c)), (2, .int (nI (p + 1)))] []) → wx G (sM D cI cZ a) 5 (Qxi G (sM D cI cZ a) (fun r M' => W13 M M' ∧ (r = 1 ∨ r = 0) ∧ (r = 1 ↔ cy n (se S.1)))) M2 89 [(0, .ref (a 0)), (1, .int (nI c)), (2, .int (nI p)), (3, .int (nI q))] [] := by
        intro m3
        induction m3 with
        | zero =>
          intro p q M2 hp hq hW2 hb2 cont
          have hq : q = n := by omega
          subst hq
          have h5 : M2 0 1 ≤ nI q := by rw [c01 M2 hW2]; exact (nle (by omega) (by omega)).mpr (by omega)
          refine sR_circle_89 F hR (K79 := fun M3 x1 x2 => M3 = M2 ∧ x1 = nI c ∧ x2 = nI (p + 1)) (K89 := fun _ _ _ _ => False) ?_ (fun _ _ _ _ q => q.elim) ⟨fun _ => ⟨rfl, rfl, nI_1 p⟩, fun q => absurd h5 q⟩
          rintro M3 x1 x2 ⟨rfl, rfl, rfl⟩
          exact cont M3 hW2 hb2
        | succ m3 ih3 =>
          intro p q M2 hp hq hW2 hb2 cont
          have h5 : ¬ M2 0 1 ≤ nI q := by rw [c01 M2 hW2]; intro z; have := (nle (by omega) (by omega)).mp z; omega
          have ac : ¬ M2 13 (24 * p + c) = 0 ↔ pI (se S.1) c p c := by
            rw [hb2 p c hp (by omega)]
            by_cases e : p < p ∨ (p = p ∧ c < q)
            · rw [if_pos e]; exact hAB1 p
            · rw [if_neg e]
          have cb : ¬ M2 13 (24 * c + q) = 0 ↔ pI (se S.1) c c q := by
            rw [hb2 c q (by omega) (by omega)]
            by_cases e : c < p ∨ (c = p ∧ q < q)
            · rw [if_pos e]; exact hAB2 q
            · rw [if_neg e]
          have ab : ¬ M2 13 (24 * p + q) = 0 ↔ pI (se S.1) c p q := by
            rw [hb2 p q hp (by omega), if_neg (by omega)]
          refine sR_circle_89 F hR (K79 := fun _ _ _ => False) (K89 := fun M3 x1 x2 x3 => x1 = nI c ∧ x2 = nI p ∧ x3 = nI (q + 1) ∧ W13 M M3 ∧ lb n M3 (pI (se S.1) c) (pI (se S.1) (c + 1)) p (q + 1)) (fun _ _ _ q => q.elim) ?_ ⟨fun z => absurd z h5, fun _ => ⟨24 * p + c, n24 p c, by omega, fun h6 => ⟨24 * p + q, n24 p q, by omega, fun h7 => ?_, fun h7 => ?_⟩, fun h6 => ⟨24 * c + q, n24 c q, by omega, fun h7 => ⟨24 * p + q, n24 p q, by omega, fun h8 => ?_, fun h8 => ?_⟩, fun h7 => ⟨24 * p + q, n24 p q, by omega, fun h8 => ?_, fun h8 => ?_⟩⟩⟩⟩
          · rintro M3 x1 x2 x3 ⟨rfl, rfl, rfl, g1, g2⟩
            exact ih3 p (q + 1) M3 hp (by omega) g1 g2 cont
          · rintro M3 rfl
            exact ⟨rfl, rfl, nI_1 q, hW2.mp _ _, lb_put hn hp (by omega) hb2 ⟨fun _ => Or.inl (ab.mp h7), fun _ => by decide⟩⟩
          · rintro M3 rfl
            exact ⟨rfl, rfl, nI_1 q, hW2.mp _ _, lb_put hn hp (by omega) hb2 ⟨fun z => absurd rfl z, fun z => z.elim (fun y => absurd h7 (ab.mpr y)) (fun y => absurd h6 (ac.mpr y.1))⟩⟩
          · rintro M3 rfl
            exact ⟨rfl, rfl, nI_1 q, hW2.mp _ _, lb_put hn hp (by omega) hb2 ⟨fun _ => Or.inl (ab.mp h8), fun _ => by decide⟩⟩
          · rintro M3 rfl
            exact ⟨rfl, rfl, nI_1 q, hW2.mp _ _, lb_put hn hp (by omega) hb2 ⟨fun z => absurd rfl z, fun z => z.elim (fun y => absurd h8 (ab.mpr y)) (fun y => absurd h7 (cb.mpr y.2))⟩⟩
          · rintro M3 rfl
            exact ⟨rfl, rfl, nI_1 q, hW2.mp _ _, lb_put hn hp (by omega) hb2 ⟨fun _ => Or.inl (ab.mp h8), fun _ => by decide⟩⟩
          · rintro M3 rfl
            exact ⟨rfl, rfl, nI_1 q, hW2.mp _ _, lb_put hn hp (by omega) hb2 ⟨fun _ => Or.inr ⟨ac.mp h6, cb.mp h7⟩, fun _ => by decide⟩⟩
      have l2b : ∀ m2 p M2, p + m2 = n → W13 M M2 → lb n M2 (pI (se S.1) c) (pI (se S.1) (c + 1)) p 0 → wx G (sM D cI cZ a) 5 (Qxi G (sM D cI cZ a) (fun r M' => W13 M M' ∧ (r = 1 ∨ r = 0) ∧ (r = 1 ↔ cy n (se S.1)))) M2 79 [(0, .ref (a 0)), (1, .int (nI c)), (2, .int (nI p))] [] := by
        intro m2
        induction m2 with
        | zero =>
          intro p M2 hp hW2 hb2
          have hp : p = n := by omega
          have h5 : M2 0 1 ≤ nI p := by rw [c01 M2 hW2]; exact (nle (by omega) (by omega)).mpr (by omega)
          refine sR_circle_79 F hR (K69 := fun M3 x1 => M3 = M2 ∧ x1 = nI (c + 1)) (K89 := fun _ _ _ _ => False) ?_ (fun _ _ _ _ q => q.elim) ⟨fun _ => ⟨rfl, nI_1 c⟩, fun q => absurd h5 q⟩
          rintro M3 x1 ⟨rfl, rfl⟩
          rw [hp] at hb2
          exact ih (c + 1) M3 (by omega) hW2 (lb_all hb2)
        | succ m2 ih2 =>
          intro p M2 hp hW2 hb2
          have h5 : ¬ M2 0 1 ≤ nI p := by rw [c01 M2 hW2]; intro q; have := (nle (by omega) (by omega)).mp q; omega
          refine sR_circle_79 F hR (K69 := fun _ _ => False) (K89 := fun M3 x1 x2 x3 => M3 = M2 ∧ x1 = nI c ∧ x2 = nI p ∧ x3 = nI 0) (fun _ _ q => q.elim) ?_ ⟨fun q => absurd q h5, fun _ => ⟨rfl, rfl, rfl, rfl⟩⟩
          rintro M3 x1 x2 x3 ⟨rfl, rfl, rfl, rfl⟩
          exact l2c n p 0 M3 (by omega) (by omega) hW2 hb2 (fun M4 g1 g2 => ih2 (p + 1) M4 (by omega) g1 (lb_row g2))
      refine sR_circle_69 F hR (K79 := fun M2 x1 x2 => M2 = M' ∧ x1 = nI c ∧ x2 = nI 0) (K189 := fun _ _ _ => False) ?_ (fun _ _ _ q => q.elim) ⟨fun q => absurd q h4, fun _ => ⟨rfl, rfl, rfl⟩⟩
      rintro M2 x1 x2 ⟨rfl, rfl, rfl⟩
      exact l2b n 0 M2 (by omega) hW (fun u v hu hv => by rw [if_neg (by omega)]; exact hb u v hu hv)
  have l1b : ∀ m q p M2, p < n → q + m = n → W13 M M2 → lb n M2 (fun _ _ => True) (se S.1) p q ∨ True → (∀ u v, u < n → v < n → (u < p ∨ (u = p ∧ v < q)) → (¬ M2 13 (24 * u + v) = 0 ↔ se S.1 u v)) → (∀ M3, W13 M M3 → (∀ u v, u < n → v < n → u < p + 1 → (¬ M3 13 (24 * u + v) = 0 ↔ se S.1 u v)) → wx G (sM D cI cZ a) 5 (Qxi G (sM D cI cZ a) (fun r M' => W13 M M' ∧ (r = 1 ∨ r = 0) ∧ (r = 1 ↔ cy n (se S.1)))) M3 2 [(0, .ref (a 0)), (1, .int (nI (p + 1)))] []) → wx G (sM D cI cZ a) 5 (Qxi G (sM D cI cZ a) (fun r M' => W13 M M' ∧ (r = 1 ∨ r = 0) ∧ (r = 1 ↔ cy n (se S.1)))) M2 12 [(0, .ref (a 0)), (1, .int (nI p)), (2, .int (nI q))] [] := by
    intro m
    induction m with
    | zero =>
      intro q p M2 hp hq hW2 _ hb2 cont
      have hq : q = n := by omega
      have h5 : M2 0 1 ≤ nI q := by rw [c01 M2 hW2]; exact (nle (by omega) (by omega)).mpr (by omega)
      refine sR_circle_12 F hR (K2 := fun M3 x1 => M3 = M2 ∧ x1 = nI (p + 1)) (K12 := fun _ _ _ => False) ?_ (fun _ _ _ q => q.elim) ⟨fun _ => ⟨rfl, nI_1 p⟩, fun q => absurd h5 q⟩
      rintro M3 x1 ⟨rfl, rfl⟩
      exact cont M3 hW2 (fun u v hu hv h => hb2 u v hu hv (by omega))
    | succ m ih =>
      intro q p M2 hp hq hW2 _ hb2 cont
      have h5 : ¬ M2 0 1 ≤ nI q := by rw [c01 M2 hW2]; intro z; have := (nle (by omega) (by omega)).mp z; omega
      have e1 : M2 1 p = S.1 2 p := by rw [(RG_13 hW2 hM).2.1]
      have put : ∀ x : Int32, (¬ x = 0 ↔ se S.1 p q) → ∀ u v, u < n → v < n → (u < p ∨ (u = p ∧ v < q + 1)) → (¬ mp M2 13 (24 * p + q) x 13 (24 * u + v) = 0 ↔ se S.1 u v) := fun x hx u v hu hv h => by
        rw [mp_at]
        by_cases e : u = p ∧ v = q
        · obtain ⟨rfl, rfl⟩ := e
          rw [if_pos ⟨rfl, rfl⟩]; exact hx
        · rw [if_neg (by omega)]; exact hb2 u v hu hv (by omega)
      refine sR_circle_12 F hR (K2 := fun _ _ => False) (K12 := fun M3 x1 x2 => x1 = nI p ∧ x2 = nI (q + 1) ∧ W13 M M3 ∧ ∀ u v, u < n → v < n → (u < p ∨ (u = p ∧ v < q + 1)) → (¬ M3 13 (24 * u + v) = 0 ↔ se S.1 u v)) (fun _ _ q => q.elim) ?_ ⟨fun z => absurd z h5, fun _ => ⟨p, rfl, by omega, fun h6 => ⟨24 * p + q, n24 p q, by omega, ?_⟩, fun h6 => ⟨_, kR_edges hJ M2 (RG_13 hW2 hM) hG hp, ?_⟩⟩⟩
      · rintro M3 x1 x2 ⟨rfl, rfl, g1, g2⟩
        exact ih (q + 1) p M3 hp (by omega) g1 (Or.inr trivial) g2 cont
      · rintro M3 rfl
        exact ⟨rfl, nI_1 q, hW2.mp _ _, put 0 ⟨fun z => absurd rfl z, fun z => absurd (e1.symm.trans h6) z.1⟩⟩
      · rintro r M3 ⟨rfl, rfl⟩
        have hle := ec_le (t := q) hG hp
        have hc : nI (ec S.1 p q) ≤ 0 ↔ ec S.1 p q ≤ 0 := nle (b := 0) (by omega) (by omega)
        have hse : se S.1 p q ↔ 0 < ec S.1 p q := by
          rw [ec_se hG hp]
          exact ⟨fun z => z.2, fun z => ⟨fun y => h6 (e1.trans y), z⟩⟩
        refine ⟨fun h7 => ⟨24 * p + q, n24 p q, by omega, ?_⟩, fun h7 => ⟨24 * p + q, n24 p q, by omega, ?_⟩⟩
        · rintro M4 rfl
          exact ⟨rfl, nI_1 q, hW2.mp _ _, put 0 ⟨fun z => absurd rfl z, fun z => by have := hc.mp h7; have := hse.mp z; omega⟩⟩
        · rintro M4 rfl
          exact ⟨rfl, nI_1 q, hW2.mp _ _, put 1 ⟨fun _ => hse.mpr (by have := mt hc.mpr h7; omega), fun _ => by decide⟩⟩
  have l1 : ∀ m p M2, p + m = n → W13 M M2 → (∀ u v, u < n → v < n → u < p → (¬ M2 13 (24 * u + v) = 0 ↔ se S.1 u v)) → wx G (sM D cI cZ a) 5 (Qxi G (sM D cI cZ a) (fun r M' => W13 M M' ∧ (r = 1 ∨ r = 0) ∧ (r = 1 ↔ cy n (se S.1)))) M2 2 [(0, .ref (a 0)), (1, .int (nI p))] [] := by
    intro m
    induction m with
    | zero =>
      intro p M2 hp hW2 hb2
      have hp : p = n := by omega
      have h5 : M2 0 1 ≤ nI p := by rw [c01 M2 hW2]; exact (nle (by omega) (by omega)).mpr (by omega)
      refine sR_circle_2 F hR (K12 := fun _ _ _ => False) (K69 := fun M3 x1 => M3 = M2 ∧ x1 = nI 0) (fun _ _ _ q => q.elim) ?_ ⟨fun _ => ⟨rfl, rfl⟩, fun q => absurd h5 q⟩
      rintro M3 x1 ⟨rfl, rfl⟩
      exact l2 n 0 M3 (by omega) hW2 (fun u v hu hv => hb2 u v hu hv (by omega))
    | succ m ih =>
      intro p M2 hp hW2 hb2
      have h5 : ¬ M2 0 1 ≤ nI p := by rw [c01 M2 hW2]; intro q; have := (nle (by omega) (by omega)).mp q; omega
      refine sR_circle_2 F hR (K12 := fun M3 x1 x2 => M3 = M2 ∧ x1 = nI p ∧ x2 = nI 0) (K69 := fun _ _ => False) ?_ (fun _ _ q => q.elim) ⟨fun q => absurd q h5, fun _ => ⟨rfl, rfl, rfl⟩⟩
      rintro M3 x1 x2 ⟨rfl, rfl, rfl⟩
      exact l1b n 0 p M3 (by omega) (by omega) hW2 (Or.inr trivial) (fun u v hu hv h => hb2 u v hu hv (by omega)) (fun M4 g1 g2 => ih (p + 1) M4 (by omega) g1 g2)
  refine sR_circle_0 F hR (K2 := fun M' x1 => M' = M ∧ x1 = nI 0) ?_ ⟨rfl, rfl⟩
  rintro M' x1 ⟨rfl, rfl⟩
  exact l1 n 0 M' (by omega) (fun _ _ => rfl) (fun u v hu hv h => absurd h (Nat.not_lt_zero _))
theorem kR_check (hJ : IJ (sM D cI cZ a)) {S : SS} (M : MM) (hM : RG n S M) (hG : GR n S.1) : Ci l (sM D cI cZ a) yR_check wR_check rmR_check [.ref (a 0)] M (fun r M' => W13 M M' ∧ ckR n S.1 r) := by
  have hn := hG.le
  refine oR_check hJ (fun G hl hR F => ?_)
  subst hl
  have lp : n ≠ 0 → ∀ m k, k + m = n → (∀ i, i < k → s_src n S.1 (S.1 3 i) = true) → wx G (sM D cI cZ a) 2 (Qxi G (sM D cI cZ a) (fun r M' => W13 M M' ∧ ckR n S.1 r)) M 11 [(0, .ref (a 0)), (1, .int (nI k))] [] := by
    intro h0 m
    induction m with
    | zero =>
      intro k hk hi
      have h4 : M 0 1 ≤ nI k := by rw [hM.1]; exact (nle (by omega) (by omega)).mpr (by omega)
      have hns : s_nosrc n S.1 = false := by
        rw [← Bool.not_eq_true]
        simp only [s_nosrc, List.any_eq_true, List.mem_range]
        rintro ⟨i, h1, h2⟩
        rw [hi i (by omega)] at h2
        exact Bool.false_ne_true h2
      refine sR_check_11 F hR (K11 := fun _ _ => False) (fun _ _ q => q.elim) ⟨fun _ => ⟨_, kR_circle hJ M hM hG, ?_⟩, fun q => absurd h4 q⟩
      rintro r M' ⟨hW, h1, h2⟩
      refine ⟨fun q => ⟨hW, Or.inr (Or.inr (Or.inr ⟨h0, hns, fun z => ?_, rfl⟩))⟩, fun q => ⟨hW, Or.inr (Or.inr (Or.inl ⟨h0, hns, h2.mp (h1.resolve_right q), rfl⟩))⟩⟩
      rw [h2.mpr z] at q
      exact absurd q (by decide)
    | succ m ih =>
      intro k hk hi
      have h4 : ¬ M 0 1 ≤ nI k := by rw [hM.1]; intro q; have := (nle (by omega) (by omega)).mp q; omega
      have e2 : M 2 k = S.1 3 k := by rw [hM.2.2.1]
      refine sR_check_11 F hR (K11 := fun M' x1 => M' = M ∧ x1 = nI (k + 1) ∧ s_src n S.1 (S.1 3 k) = true) ?_ ⟨fun q => absurd q h4, fun _ => ⟨k, rfl, by omega, _, kR_groupHasSource hJ M hM hG (M 2 k), ?_⟩⟩
      · rintro M' x1 ⟨rfl, rfl, hh⟩
        refine ih (k + 1) (by omega) (fun i hi1 => ?_)
        by_cases e : i = k
        · subst e; exact hh
        · exact hi i (by omega)
      · rintro r M' ⟨rfl, rfl⟩
        rw [e2]
        cases hs : s_src n S.1 (S.1 3 k) with
        | true => exact ⟨fun _ => ⟨rfl, nI_1 k, rfl⟩, fun q => absurd q (by decide)⟩
        | false =>
          refine ⟨fun q => absurd rfl q, fun _ => ⟨fun _ _ => rfl, Or.inr (Or.inl ⟨h0, ?_, rfl⟩)⟩⟩
          simp only [s_nosrc, List.any_eq_true, List.mem_range]
          exact ⟨k, by omega, by rw [hs]; rfl⟩
  refine sR_check_0 F hR (K11 := fun M' x1 => M' = M ∧ x1 = nI 0 ∧ n ≠ 0) ?_ ⟨fun h => ⟨rfl, rfl, fun q => h (by rw [hM.1, q]; rfl)⟩, fun h => ⟨fun _ _ => rfl, Or.inl ⟨?_, rfl⟩⟩⟩
  · rintro M' x1 ⟨rfl, rfl, h0⟩
    exact lp h0 n 0 (by omega) (fun i hi => absurd hi (Nat.not_lt_zero _))
  · rw [hM.1] at h
    exact (neq (b := 0) (by omega) (by omega)).mp h
end DR2
