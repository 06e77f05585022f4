/-! The reference: begin, release -/
theorem tk_out {w n : Nat} (hw : w ≤ 4) {S S1 : SS} {t : Nat} (hN : LN w n S) (h : tk w S t S1) : ∀ l, l < w + 2 → t ∉ S1.2 l := by
  obtain ⟨l0, L, h5, h6, h7, h8, h9, h10⟩ := h
  have hp := (((hN l0 h6).2 t).mp h7).2
  intro l hl
  rw [h9]
  unfold va_up
  by_cases e : l = l0
  · rw [if_pos e]
    intro q
    exact ((h8 (hN l0 h6).1).2 t).mp q |>.2 rfl
  · rw [if_neg e]
    intro q
    exact e (cd_inj hw hl h6 ((((hN l hl).2 t).mp q).2.symm.trans hp))
theorem RM_run {w n : Nat} (hw : w ≤ 4) {S : SS} {M : MM} {c : Nat} (h : RM w n S M none c) {t k : Nat} (hk : k < w) : RM w n (s_run S t k) (mp (mp (mp M 5 t 3) 6 t (nI k)) 9 t (M 9 t + 1)) none c := by
  obtain ⟨⟨hg, a0, a8, a9, a14, b18, b19, b20, b21, b22, b23, b24⟩, hp, ⟨l1, l2, l3⟩, hh⟩ := h
  have at' : ∀ k' i, mp (mp (mp M 5 t 3) 6 t (nI k)) 9 t (M 9 t + 1) k' i = if k' = 9 ∧ i = t then M 9 t + 1 else if k' = 6 ∧ i = t then nI k else if k' = 5 ∧ i = t then 3 else M k' i := fun k' i => by rw [mp_at, mp_at, mp_at]
  have row : ∀ k', k' ≠ 9 → k' ≠ 6 → k' ≠ 5 → mp (mp (mp M 5 t 3) 6 t (nI k)) 9 t (M 9 t + 1) k' = M k' := fun k' q1 q2 q3 => by
    funext i
    rw [at', if_neg (fun z => q1 z.1), if_neg (fun z => q2 z.1), if_neg (fun z => q3 z.1)]
  have s1 : ∀ k' i, k' ≠ 36 → k' ≠ 37 → k' ≠ 38 → k' ≠ 40 → (s_run S t k).1 k' i = S.1 k' i := fun k' i q1 q2 q3 q4 => by
    unfold s_run
    rw [sp_r, if_neg (fun z => q4 z.1), sp_r, if_neg (fun z => q2 z.1), sp_r, if_neg (fun z => q3 z.1), s_hold_at, if_neg (fun z => q1 z.1)]
  have s38 : ∀ i, (s_run S t k).1 38 i = if i = t then nI (3 + k) else S.1 38 i := fun i => by
    unfold s_run
    rw [sp_r, if_neg (by omega), sp_r, if_neg (by omega), sp_r]
    by_cases e : i = t
    · rw [if_pos ⟨rfl, e⟩, if_pos e]
    · rw [if_neg (fun z => e z.2), if_neg e, s_hold_at, if_neg (by omega)]
  have sl : (s_run S t k).2 = S.2 := by unfold s_run; rw [sp_l, sp_l, sp_l, s_hold_l]
  have hf : fr S (s_run S t k) := fun k' _ h2 => by
    funext i
    exact s1 k' i (by omega) (by omega) (by omega) (by omega)
  refine ⟨⟨RG_keep hg (by rw [row 0 (by decide) (by decide) (by decide)]) (row 1 (by decide) (by decide) (by decide)) (row 2 (by decide) (by decide) (by decide)) (row 3 (by decide) (by decide) (by decide)) (row 4 (by decide) (by decide) (by decide)) (row 11 (by decide) (by decide) (by decide)) (row 12 (by decide) (by decide) (by decide)) hf, ?_, fun i hi => ?_, fun i hi => ?_, fun i hi => ?_, ?_, ?_, ?_, ?_, ?_, ?_, ?_⟩, fun i hi => ⟨fun _ => ?_, fun q => by cases q⟩, ⟨?_, ?_, ?_⟩, fun q i hi h2 h38 => ?_⟩
  · rw [row 0 (by decide) (by decide) (by decide)]; exact a0
  · rw [row 8 (by decide) (by decide) (by decide), s1 39 i (by decide) (by decide) (by decide) (by decide)]; exact a8 i hi
  · rw [at']
    unfold s_run
    rw [sp_r]
    by_cases e : i = t
    · rw [if_pos ⟨rfl, e⟩, if_pos ⟨rfl, e⟩, ← e, a9 i hi]
    · rw [if_neg (fun z => e z.2), if_neg (by omega), if_neg (by omega), if_neg (fun z => e z.2), sp_r, if_neg (by omega), sp_r, if_neg (by omega), s_hold_at, if_neg (by omega)]
      exact a9 i hi
  · rw [row 14 (by decide) (by decide) (by decide), s1 35 i (by decide) (by decide) (by decide) (by decide)]; exact a14 i hi
  · rw [row 0 (by decide) (by decide) (by decide), s1 0 10 (by decide) (by decide) (by decide) (by decide)]; exact b18
  · rw [row 0 (by decide) (by decide) (by decide), s1 0 11 (by decide) (by decide) (by decide) (by decide)]; exact b19
  · rw [row 0 (by decide) (by decide) (by decide), s1 0 12 (by decide) (by decide) (by decide) (by decide)]; exact b20
  · rw [row 0 (by decide) (by decide) (by decide), s1 0 13 (by decide) (by decide) (by decide) (by decide)]; exact b21
  · rw [row 0 (by decide) (by decide) (by decide), s1 0 14 (by decide) (by decide) (by decide) (by decide)]; exact b22
  · rw [row 0 (by decide) (by decide) (by decide), s1 0 15 (by decide) (by decide) (by decide) (by decide)]; exact b23
  · rw [row 0 (by decide) (by decide) (by decide), s1 0 16 (by decide) (by decide) (by decide) (by decide), s1 0 13 (by decide) (by decide) (by decide) (by decide)]; exact b24
  · rw [at', at', s38]
    by_cases e : i = t
    · rw [if_neg (by omega), if_neg (by omega), if_pos ⟨rfl, e⟩, if_neg (by omega), if_pos ⟨rfl, e⟩, if_pos e]
      exact Or.inr (Or.inr (Or.inr (Or.inl ⟨k, hk, rfl, rfl, rfl⟩)))
    · rw [if_neg (by omega), if_neg (by omega), if_neg (fun z => e z.2), if_neg (by omega), if_neg (fun z => e z.2), if_neg (by omega), if_neg e]
      exact (hp i hi).1 (by simp)
  · rw [row 0 (by decide) (by decide) (by decide)]; exact l1
  · rw [row 7 (by decide) (by decide) (by decide)]; exact l2
  · rw [row 7 (by decide) (by decide) (by decide), sl]; exact l3
  · rw [s1 0 11 (by decide) (by decide) (by decide) (by decide)] at q
    rw [s1 2 i (by decide) (by decide) (by decide) (by decide)] at h2
    rw [s38] at h38
    rw [row 10 (by decide) (by decide) (by decide), s1 41 i (by decide) (by decide) (by decide) (by decide)]
    by_cases e : i = t
    · rw [if_pos e] at h38; exact absurd h38 (n3_2 (by omega))
    · rw [if_neg e] at h38; exact hh q i hi h2 h38
/-- parked, or back from the parked: state st, since the clock -/
theorem RM_park {w n : Nat} {S : SS} {M : MM} {c : Nat} (h : RM w n S M none c) {t : Nat} (hn : ∀ l', l' < w + 2 → t ∉ S.2 l') (hc : c < 2 ^ 31) : RM w n (s_park S t) (mp (mp (mp M 5 t 1) 7 t (M 0 16)) 0 16 (M 0 16 + 1)) none (c + 1) := by
  obtain ⟨⟨hg, a0, a8, a9, a14, b18, b19, b20, b21, b22, b23, b24⟩, hp, ⟨l1, l2, l3⟩, hh⟩ := h
  have at' : ∀ k' i, mp (mp (mp M 5 t 1) 7 t (M 0 16)) 0 16 (M 0 16 + 1) k' i = if k' = 0 ∧ i = 16 then M 0 16 + 1 else if k' = 7 ∧ i = t then M 0 16 else if k' = 5 ∧ i = t then 1 else M k' i := fun k' i => by rw [mp_at, mp_at, mp_at]
  have row : ∀ k', k' ≠ 0 → k' ≠ 7 → k' ≠ 5 → mp (mp (mp M 5 t 1) 7 t (M 0 16)) 0 16 (M 0 16 + 1) k' = M k' := fun k' q1 q2 q3 => by
    funext i
    rw [at', if_neg (fun z => q1 z.1), if_neg (fun z => q2 z.1), if_neg (fun z => q3 z.1)]
  have r0 : ∀ i, i ≠ 16 → mp (mp (mp M 5 t 1) 7 t (M 0 16)) 0 16 (M 0 16 + 1) 0 i = M 0 i := fun i q => by
    rw [at', if_neg (fun z => q z.2), if_neg (by omega), if_neg (by omega)]
  have s1 : ∀ k' i, k' ≠ 38 → (s_park S t).1 k' i = S.1 k' i := fun k' i q => by
    show mp S.1 38 t 1 k' i = _
    rw [mp_at, if_neg (fun z => q z.1)]
  have s38 : ∀ i, (s_park S t).1 38 i = if i = t then 1 else S.1 38 i := fun i => by
    show mp S.1 38 t 1 38 i = _
    rw [mp_at]
    by_cases e : i = t
    · rw [if_pos ⟨rfl, e⟩, if_pos e]
    · rw [if_neg (fun z => e z.2), if_neg e]
  have r7 : ∀ i, mp (mp (mp M 5 t 1) 7 t (M 0 16)) 0 16 (M 0 16 + 1) 7 i = if i = t then nI c else M 7 i := fun i => by
    rw [at', if_neg (by omega)]
    by_cases e : i = t
    · rw [if_pos ⟨rfl, e⟩, if_pos e]; exact l1
    · rw [if_neg (fun z => e z.2), if_neg (by omega), if_neg e]
  have hf : fr S (s_park S t) := fun k' _ h2 => by
    funext i
    exact s1 k' i (by omega)
  refine ⟨⟨RG_keep hg (r0 1 (by decide)) (row 1 (by decide) (by decide) (by decide)) (row 2 (by decide) (by decide) (by decide)) (row 3 (by decide) (by decide) (by decide)) (row 4 (by decide) (by decide) (by decide)) (row 11 (by decide) (by decide) (by decide)) (row 12 (by decide) (by decide) (by decide)) hf, (r0 0 (by decide)).trans a0, fun i hi => ?_, fun i hi => ?_, fun i hi => ?_, ?_, ?_, ?_, ?_, ?_, ?_, ?_⟩, fun i hi => ⟨fun _ => ?_, fun q => by cases q⟩, ⟨?_, fun i hi => ?_, fun l' hl' => ?_⟩, fun q i hi h2 h38 => ?_⟩
  · rw [row 8 (by decide) (by decide) (by decide), s1 39 i (by decide)]; exact a8 i hi
  · rw [row 9 (by decide) (by decide) (by decide), s1 40 i (by decide)]; exact a9 i hi
  · rw [row 14 (by decide) (by decide) (by decide), s1 35 i (by decide)]; exact a14 i hi
  · rw [r0 18 (by decide), s1 0 10 (by decide)]; exact b18
  · rw [r0 19 (by decide), s1 0 11 (by decide)]; exact b19
  · rw [r0 20 (by decide), s1 0 12 (by decide)]; exact b20
  · rw [r0 21 (by decide), s1 0 13 (by decide)]; exact b21
  · rw [r0 22 (by decide), s1 0 14 (by decide)]; exact b22
  · rw [r0 23 (by decide), s1 0 15 (by decide)]; exact b23
  · rw [r0 24 (by decide), s1 0 16 (by decide), r0 17 (by decide), s1 0 13 (by decide)]; exact b24
  · rw [at', at', s38]
    by_cases e : i = t
    · rw [if_neg (by omega), if_neg (by omega), if_pos ⟨rfl, e⟩, if_pos e]
      exact Or.inr (Or.inl ⟨rfl, rfl⟩)
    · rw [if_neg (by omega), if_neg (by omega), if_neg (fun z => e z.2), if_neg (by omega), if_neg (by omega), if_neg (by omega), if_neg e]
      exact (hp i hi).1 (by simp)
  · rw [at', if_pos ⟨rfl, rfl⟩, l1, nI_1]
  · rw [r7]
    by_cases e : i = t
    · rw [if_pos e]; exact ⟨c, by omega, rfl⟩
    · rw [if_neg e]
      obtain ⟨v, v1, v2⟩ := l2 i hi
      exact ⟨v, by omega, v2⟩
  · obtain ⟨m1, m2⟩ := l3 l' hl'
    have hne : ∀ x ∈ S.2 l', x ≠ t := fun x hx q => hn l' hl' (q ▸ hx)
    have m1' : ∀ x ∈ S.2 l', tn (mp (mp (mp M 5 t 1) 7 t (M 0 16)) 0 16 (M 0 16 + 1) 7 x) < c := fun x hx => by rw [r7, if_neg (hne x hx)]; exact m1 x hx
    have m2' : (S.2 l').Pairwise (fun x y => tn (mp (mp (mp M 5 t 1) 7 t (M 0 16)) 0 16 (M 0 16 + 1) 7 x) < tn (mp (mp (mp M 5 t 1) 7 t (M 0 16)) 0 16 (M 0 16 + 1) 7 y)) := by
      refine List.Pairwise.imp_of_mem (fun {x y} hx hy q => ?_) m2
      rw [r7, if_neg (hne x hx), r7, if_neg (hne y hy)]
      exact q
    have et : tn (mp (mp (mp M 5 t 1) 7 t (M 0 16)) 0 16 (M 0 16 + 1) 7 t) = c := by rw [r7, if_pos rfl]; exact nI_clamp hc
    show (∀ x ∈ va_up S.2 0 (S.2 0 ++ [t]) l', _) ∧ (va_up S.2 0 (S.2 0 ++ [t]) l').Pairwise _
    unfold va_up
    by_cases e : l' = 0
    · subst e
      rw [if_pos rfl]
      refine ⟨fun x hx => ?_, List.pairwise_append.mpr ⟨m2', List.pairwise_singleton _ t, fun x hx y hy => ?_⟩⟩
      · rcases List.mem_append.mp hx with q | q
        · have := m1' x q; omega
        · rw [List.mem_singleton.mp q, et]; omega
      · rw [List.mem_singleton.mp hy, et]; exact m1' x hx
    · rw [if_neg e]
      exact ⟨fun x hx => by have := m1' x hx; omega, m2'⟩
  · rw [s1 0 11 (by decide)] at q
    rw [s1 2 i (by decide)] at h2
    rw [row 10 (by decide) (by decide) (by decide), s1 41 i (by decide)]
    rw [s38] at h38
    by_cases e : i = t
    · rw [if_pos e] at h38; exact absurd h38 (by decide)
    · rw [if_neg e] at h38; exact hh q i hi h2 h38
theorem HU_eq {w n : Nat} {S S' : SS} {ex ex' : Option Nat} (h : HU w n S ex) (h36 : S'.1 36 = S.1 36) (h5 : S'.1 5 = S.1 5) (hr : ∀ t, t < n → (isR w S' t && decide (ex' ≠ some t)) = (isR w S t && decide (ex ≠ some t))) : HU w n S' ex' := by
  intro s hs
  rw [h36, h s hs]
  unfold hu
  refine congrArg nI (cN_congr n (fun t ht => ?_))
  rw [hr t ht, h5]
theorem isR_cd {w : Nat} (hw : w ≤ 4) {S : SS} {t l : Nat} (hl : l < w + 2) (h : S.1 38 t = cd w l) : isR w S t = false := by
  rw [← Bool.not_eq_true, isR_iff]
  rintro ⟨k, hk, q⟩
  exact n3_cd hw hk hl (q.symm.trans h)
section DR7
variable {l : Launch} {D : va_G} {cI cZ : ClassId} {a : Nat → Nat} {w n : Nat}
theorem HU_park (hw : w ≤ 4) {S S1 : SS} {t : Nat} (hN : LN w n S) (htk : tk w S t S1) (h : HU w n S none) : HU w n (s_park S1 t) none := by
  obtain ⟨l0, L, h5, h6, h7, h8, h9, h10⟩ := htk
  have hp := (((hN l0 h6).2 t).mp h7).2
  have e1 : cd w 0 = 1 := by unfold cd; rw [if_pos rfl]
  refine HU_eq h ?_ ?_ (fun i hi => ?_)
  · funext i
    show mp S1.1 38 t 1 36 i = _
    rw [mp_at, if_neg (by omega), h10 36 i (by omega)]
  · funext i
    show mp S1.1 38 t 1 5 i = _
    rw [mp_at, if_neg (by omega), h10 5 i (by omega)]
  · by_cases e : i = t
    · subst e
      rw [isR_cd hw h6 hp, isR_cd (S := s_park S1 i) (l := 0) hw (by omega) (by show mp S1.1 38 i 1 38 i = _; rw [mp_at, if_pos ⟨rfl, rfl⟩, e1])]
    · have : (s_park S1 t).1 38 i = S.1 38 i := by
        show mp S1.1 38 t 1 38 i = _
        rw [mp_at, if_neg (fun z => e z.2), h10 38 i (by omega)]
      unfold isR
      rw [this]
theorem CP_fr {S S' : SS} (h : CP S) (hf : fr S S') : CP S' := fun s hs => by
  rw [hf 35 (by decide) (by decide)]
  exact h s hs
theorem kR_begin (hJ : IJ (sM D cI cZ a)) {S : SS} (M : MM) {c : Nat} (hM : RM w n S M none c) (hI : IV w n S) (hV : RV w n S none) (hH : HU w n S none) (hC : CP S) (hc : c + 24 < 2 ^ 31) (x : Int32) : Ci l (sM D cI cZ a) yR_begin wR_begin rmR_begin [.ref (a 0), .int x] M (fun r M' => r = (s_begin w S x).1 ∧ rs w n (s_begin w S x).2 none c 24 M M') := by
  have hF := hI.1
  have hn := hF.le
  have hw := hF.w4
  have e0 : M 0 0 = nI w := hM.a.2.1
  have e18 : M 0 18 = S.1 0 10 := RA.sc hM.a 10 (by decide) (by decide)
  refine oR_begin hJ (fun G hl hR F => ?_)
  subst hl
  have lp : ∀ k, k < w → ∀ f i S1 M1 c1, i + f = 24 → WF w n S1 → HU w n S1 none → CP S1 → c ≤ c1 → c1 ≤ c + i → RM w n S1 M1 none c1 → M1 10 = M 10 → s_turn w k 24 S = s_turn w k f S1 → wx G (sM D cI cZ a) 4 (Qxi G (sM D cI cZ a) (fun r M' => r = (s_turn w k 24 S).1 ∧ rs w n (s_turn w k 24 S).2 none c 24 M M')) M1 31 [(0, .ref (a 0)), (1, .int (nI k)), (2, .int (nI i))] [] := by
    intro k hk f
    induction f with
    | zero =>
      intro i S1 M1 c1 hi hF1 hH1 hC1 hc0 hc1 hM1 h10 hs
      have h4 : (24 : Int32) ≤ nI i := (nle (a := 24) (by omega) (by omega)).mpr (by omega)
      refine sR_begin_31 F hR (K31 := fun _ _ _ => False) (fun _ _ _ q => q.elim) ⟨fun _ => ?_, fun q => absurd h4 q⟩
      rw [hs]
      exact ⟨rfl, ⟨c1, hc0, by omega, hM1⟩, h10⟩
    | succ f ih =>
      intro i S1 M1 c1 hi hF1 hH1 hC1 hc0 hc1 hM1 h10 hs
      have h4 : ¬ (24 : Int32) ≤ nI i := fun q => by
        have := (nle (a := 24) (by omega) (by omega)).mp q
        omega
      refine sR_begin_31 F hR (K31 := fun M2 x1 x2 => x1 = nI k ∧ x2 = nI (i + 1) ∧ ∃ S2 c2, WF w n S2 ∧ HU w n S2 none ∧ CP S2 ∧ c ≤ c2 ∧ c2 ≤ c + (i + 1) ∧ RM w n S2 M2 none c2 ∧ M2 10 = M 10 ∧ s_turn w k 24 S = s_turn w k f S2) ?_ ⟨fun q => absurd q h4, fun _ => ⟨_, kR_take hJ M1 hM1 hF1 (by omega) hk, ?_⟩⟩
      · rintro M2 x1 x2 ⟨rfl, rfl, S2, c2, g1, g2, g3, g4, g5, g6, g7, g8⟩
        exact ih (i + 1) S2 M2 c2 (by omega) g1 g2 g3 g4 g5 g6 g7 g8
      · rintro r M2 ⟨rfl, hM2, h102⟩
        rcases take_tk hk S1 with h5 | ⟨t, S2, h5, htk⟩
        · rw [h5] at hM2 ⊢
          refine ⟨fun q => absurd q (show ¬ (0 : Int32) ≤ -1 by decide), fun _ => ?_⟩
          rw [hs]
          unfold s_turn
          rw [h5]
          exact ⟨rfl, ⟨c1, hc0, by omega, hM2⟩, h102.trans h10⟩
        · rw [h5] at hM2 ⊢
          have htk' := htk
          obtain ⟨l0, L, a5, a6, a7, a8, a9, a10⟩ := htk'
          have hpl := ((hF1.ln l0 a6).2 t).mp a7
          have ht := hpl.1
          have hG2 : GR n S2.1 := GR_fr (tk_fr htk) hF1.g
          have hH2 : HU w n S2 none := HU_eq hH1 (by funext i; exact a10 36 i (by omega)) (by funext i; exact a10 5 i (by omega)) (fun i _ => by unfold isR; rw [a10 38 i (by omega)])
          have hC2 := CP_fr hC1 (tk_fr htk)
          have hout := tk_out hw hF1.ln htk
          refine ⟨fun _ => ⟨_, kR_unitsFor hJ M2 hM2 hw hG2 hH2 hC2 ht, ?_⟩, fun q => absurd (nI_pos' (by omega)) q⟩
          rintro r M3 ⟨rfl, rfl⟩
          cases hfr : s_free S2 (S2.1 5 t) with
          | true =>
            refine ⟨fun q => absurd q (by decide), fun _ => ⟨t, rfl, by omega, ?_⟩⟩
            rintro M26 rfl M32 rfl M34 rfl
            have e9 : mp (mp M3 5 t 3) 6 t (nI k) 9 t = M3 9 t := by rw [mp_at, if_neg (by omega), mp_at, if_neg (by omega)]
            rw [e9, hs]
            unfold s_turn
            rw [h5]
            show oN (some t) = (if s_free S2 (S2.1 5 t) = true then _ else _ : Int32 × SS).1 ∧ rs w n (if s_free S2 (S2.1 5 t) = true then _ else _ : Int32 × SS).2 none c 24 M _
            rw [if_pos hfr]
            refine ⟨rfl, ⟨c1, hc0, by omega, RM_run hw hM2 hk⟩, ?_⟩
            rw [mp_ne _ _ _ _ (by decide), mp_ne _ _ _ _ (by decide), mp_ne _ _ _ _ (by decide)]
            exact h102.trans h10
          | false =>
            refine ⟨fun _ => ⟨t, rfl, by omega, ?_⟩, fun q => absurd rfl q⟩
            rintro M16 rfl M22 rfl M24 rfl
            have e16 : mp M3 5 t 1 0 16 = M3 0 16 := by rw [mp_at, if_neg (by omega)]
            have e16' : mp (mp M3 5 t 1) 7 t (M3 0 16) 0 16 = M3 0 16 := by rw [mp_at, if_neg (by omega)]; exact e16
            rw [e16, e16']
            refine ⟨rfl, nI_1 i, s_park S2 t, c1 + 1, hF1.k (kp1_park hw htk), HU_park hw hF1.ln htk hH1, CP_fr hC1 (kp1_park (n := n) hw htk).1, by omega, by omega, RM_park hM2 hout (by omega), ?_, ?_⟩
            · rw [mp_ne _ _ _ _ (by decide), mp_ne _ _ _ _ (by decide), mp_ne _ _ _ _ (by decide)]
              exact h102.trans h10
            · rw [hs]
              conv => lhs; unfold s_turn
              rw [h5]
              show (if s_free S2 (S2.1 5 t) = true then _ else _ : Int32 × SS) = _
              rw [if_neg (by rw [hfr]; exact Bool.false_ne_true)]
  have no : (S.1 0 10 = 0 ∨ ¬ isT w x = true ∨ S.1 37 (tn x) ≠ -1) → (-1 : Int32) = (s_begin w S x).1 ∧ rs w n (s_begin w S x).2 none c 24 M M := fun q => by
    unfold s_begin
    rw [if_pos q]
    exact ⟨rfl, ⟨c, by omega, by omega, hM⟩, rfl⟩
  refine sR_begin_0 F hR (K31 := fun M' x1 x2 => M' = M ∧ x1 = x ∧ x2 = nI 0 ∧ isT w x = true ∧ s_begin w S x = s_turn w (tn x) 24 S) ?_ ⟨fun h => no (Or.inl (e18.symm.trans h)), fun h => ⟨fun h1 => no (Or.inr (Or.inl ?_)), fun h1 => ⟨fun h2 => no (Or.inr (Or.inl ?_)), fun h2 => ⟨_, kR_running hJ M hM hI hV x, ?_⟩⟩⟩⟩
  · rintro M' x1 x2 ⟨rfl, h1, rfl, hT, hs⟩
    rw [h1]
    obtain ⟨k, hk, rfl⟩ := isT_of (by omega) hT
    rw [hs, tnI (by omega)]
    exact lp k hk 24 0 S M' c rfl hF hH hC (by omega) (by omega) hM rfl rfl
  · rw [isT, decide_eq_true_iff]
    exact fun q => Int32.not_lt.mpr q.1 h1
  · rw [isT, decide_eq_true_iff, ← e0]
    exact fun q => Int32.not_lt.mpr h2 q.2
  · have hT : isT w x = true := by
      rw [isT, decide_eq_true_iff, ← e0]
      exact ⟨Int32.not_lt.mp h1, Int32.not_le.mp h2⟩
    rintro r M8 ⟨rfl, rfl⟩
    rw [if_pos hT]
    obtain ⟨k, hk, rfl⟩ := isT_of (by omega) hT
    refine ⟨fun h3 => ⟨rfl, rfl, rfl, hT, ?_⟩, fun h3 => no (Or.inr (Or.inr (fun q => h3 (by rw [q]; decide))))⟩
    unfold s_begin
    rw [if_neg]
    rintro (q | q | q)
    · exact h (e18.trans q)
    · exact q hT
    · rw [tnI (by omega)] at q h3
      obtain ⟨g1, g2⟩ := run_of hI.2.2.1 hn hk q
      rw [g2] at h3
      exact nneg (by omega) h3
end DR7
