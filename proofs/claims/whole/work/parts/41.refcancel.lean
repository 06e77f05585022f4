/-! The reference: cancel. One pass downwards and four passes upwards leave the same tasks waiting. -/
theorem ecw_row (n : Nat) : ∀ m (S : SS), (∀ k, k ≠ 38 → (s_ecw n m S).1 k = S.1 k) ∧ (s_ecw n m S).2 = S.2 := by
  intro m
  induction m with
  | zero => intro S; exact ⟨fun _ _ => rfl, rfl⟩
  | succ m ih =>
    intro S
    unfold s_ecw
    obtain ⟨h1, h2⟩ := ih (if S.1 38 m = 2 ∧ ¬ s_act n S (nI m) = true then sp S 38 m 0 else S)
    by_cases q : S.1 38 m = 2 ∧ ¬ s_act n S (nI m) = true
    · rw [if_pos q] at h1 h2 ⊢
      exact ⟨fun k hk => (h1 k hk).trans (sp_ne S 38 m 0 k hk), h2⟩
    · rw [if_neg q] at h1 h2 ⊢
      exact ⟨h1, h2⟩
theorem s_act_eq {n : Nat} {S S' : SS} (h3 : S'.1 3 = S.1 3) {p : Int32} (h : ∀ t, t < n → S.1 3 t = p → (S'.1 38 t = 0 ↔ S.1 38 t = 0)) : s_act n S' p = s_act n S p := by
  rw [Bool.eq_iff_iff, s_act_iff, s_act_iff, h3]
  constructor
  · rintro ⟨t, a, b, c⟩; exact ⟨t, a, b, fun q => c ((h t a b).mpr q)⟩
  · rintro ⟨t, a, b, c⟩; exact ⟨t, a, b, fun q => c ((h t a b).mp q)⟩
theorem ecw_38 {n : Nat} : ∀ m (S : SS), GR n S.1 → m ≤ n → (∀ t, m ≤ t → (s_ecw n m S).1 38 t = S.1 38 t) ∧ (∀ t, (s_ecw n m S).1 38 t = S.1 38 t ∨ (S.1 38 t = 2 ∧ (s_ecw n m S).1 38 t = 0)) ∧ ∀ t, t < m → S.1 38 t = 2 → ((s_ecw n m S).1 38 t = 0 ↔ ¬ s_act n (s_ecw n m S) (nI t) = true) := by
  intro m
  induction m with
  | zero => intro S _ _; exact ⟨fun _ _ => rfl, fun _ => Or.inl rfl, fun t h => absurd h (Nat.not_lt_zero _)⟩
  | succ m ih =>
    intro S hG hm
    have hn := hG.le
    have hg : ∃ S2, S2 = (if S.1 38 m = 2 ∧ ¬ s_act n S (nI m) = true then sp S 38 m 0 else S) := ⟨_, rfl⟩
    obtain ⟨S2, e2⟩ := hg
    have hS2 : (∀ k, k ≠ 38 → S2.1 k = S.1 k) ∧ ∀ t, t ≠ m → S2.1 38 t = S.1 38 t := by
      rw [e2]
      by_cases q : S.1 38 m = 2 ∧ ¬ s_act n S (nI m) = true
      · rw [if_pos q]; exact ⟨fun k hk => sp_ne S 38 m 0 k hk, fun t ht => by rw [sp_r, if_neg (fun z => ht z.2)]⟩
      · rw [if_neg q]; exact ⟨fun _ _ => rfl, fun _ _ => rfl⟩
    have hG2 : GR n S2.1 := GR_f34 (S := S) (fun k _ hk => hS2.1 k (by omega)) hG
    obtain ⟨i1, i2, i3⟩ := ih S2 hG2 (by omega)
    have es : s_ecw n (m + 1) S = s_ecw n m S2 := by rw [e2]; rfl
    rw [es]
    have row3 : (s_ecw n m S2).1 3 = S.1 3 := by rw [(ecw_row n m S2).1 3 (by decide), hS2.1 3 (by decide)]
    have hact : s_act n (s_ecw n m S2) (nI m) = s_act n S (nI m) := s_act_eq row3 (fun t ht hp => by
      have := par_ne hG ht (by omega) hp
      rw [i1 t (by omega), hS2.2 t (by omega)])
    have hm38 : (s_ecw n m S2).1 38 m = S2.1 38 m := i1 m (Nat.le_refl _)
    refine ⟨fun t ht => by rw [i1 t (by omega), hS2.2 t (by omega)], fun t => ?_, fun t ht h38 => ?_⟩
    · by_cases e : t = m
      · rw [e, hm38, e2]
        by_cases q : S.1 38 m = 2 ∧ ¬ s_act n S (nI m) = true
        · rw [if_pos q, sp_r, if_pos ⟨rfl, rfl⟩]; exact Or.inr ⟨q.1, rfl⟩
        · rw [if_neg q]; exact Or.inl rfl
      · have := i2 t
        rw [hS2.2 t e] at this
        exact this
    · by_cases e : t = m
      · subst e
        rw [hact, hm38, e2]
        by_cases q : S.1 38 t = 2 ∧ ¬ s_act n S (nI t) = true
        · rw [if_pos q, sp_r, if_pos ⟨rfl, rfl⟩]; exact ⟨fun _ => q.2, fun _ => rfl⟩
        · rw [if_neg q, h38]
          exact ⟨fun z => absurd z (by decide), fun z => absurd ⟨h38, z⟩ q⟩
      · exact i3 t (by omega) (by rw [hS2.2 t e]; exact h38)
/-- the state on the way: some that will end are still waiting -/
def wy (n : Nat) (S0 F Z : SS) (P : Nat → Prop) : Prop := (∀ k, k ≠ 38 → Z.1 k = S0.1 k) ∧ Z.2 = S0.2 ∧ (∀ t, Z.1 38 t = F.1 38 t ∨ (Z.1 38 t = 2 ∧ F.1 38 t = 0 ∧ t < n ∧ S0.1 38 t = 2)) ∧ ∀ t, t < n → P t → Z.1 38 t = F.1 38 t
theorem wy_step {w n : Nat} {S0 Z : SS} (hG : GR n S0.1) (hF0 : ∀ t, t < n → S0.1 38 t = 2 → ((s_ecw n n S0).1 38 t = 0 ↔ ¬ s_act n (s_ecw n n S0) (nI t) = true)) (hF1 : ∀ t, (s_ecw n n S0).1 38 t = S0.1 38 t ∨ (S0.1 38 t = 2 ∧ (s_ecw n n S0).1 38 t = 0)) {P : Nat → Prop} (h : wy n S0 (s_ecw n n S0) Z P) {t : Nat} (ht : t < n) (hq : Z.1 38 t = 2) (ha : ¬ s_act n Z (nI t) = true) : (s_ecw n n S0).1 38 t = 0 ∧ wy n S0 (s_ecw n n S0) (sp Z 38 t 0) (fun q => P q ∨ q = t) := by
  obtain ⟨h1, h2, h3, h4⟩ := h
  have e3 : (s_ecw n n S0).1 3 = S0.1 3 := (ecw_row n n S0).1 3 (by decide)
  have hz : (s_ecw n n S0).1 38 t = 0 := by
    rcases h3 t with q | q
    · have h38 : S0.1 38 t = 2 := by
        rcases hF1 t with z | z
        · rw [← z, ← q]; exact hq
        · exact z.1
      rw [hF0 t ht h38, s_act_iff]
      rintro ⟨t', a, b, c⟩
      refine ha ?_
      rw [s_act_iff]
      refine ⟨t', a, by rw [h1 3 (by decide), ← e3]; exact b, fun z => ?_⟩
      rcases h3 t' with y | y
      · rw [y] at z; exact c z
      · rw [y.1] at z; exact absurd z (by decide)
    · exact q.2.1
  refine ⟨hz, fun k hk => (sp_ne Z 38 t 0 k hk).trans (h1 k hk), h2, fun q => ?_, fun q hq' hP => ?_⟩
  · rw [sp_r]
    by_cases e : q = t
    · rw [if_pos ⟨rfl, e⟩, e, hz]; exact Or.inl rfl
    · rw [if_neg (fun z => e z.2)]; exact h3 q
  · rw [sp_r]
    by_cases e : q = t
    · rw [if_pos ⟨rfl, e⟩, e, hz]
    · rw [if_neg (fun z => e z.2)]
      exact h4 q hq' (hP.resolve_right e)
section DR11
variable {l : Launch} {D : va_G} {cI cZ : ClassId} {a : Nat → Nat} {w n : Nat}
theorem PR_2 {w : Nat} (hw : w ≤ 4) {st sp pl : Int32} (h : PR w st sp pl) : st = 2 ↔ pl = 2 := by
  rcases h with ⟨rfl, rfl⟩ | ⟨rfl, rfl⟩ | ⟨rfl, rfl⟩ | ⟨k, hk, rfl, rfl, rfl⟩ | ⟨k, hk, rfl, rfl, rfl⟩
  · exact Iff.rfl
  · exact Iff.rfl
  · exact Iff.rfl
  · exact ⟨fun q => absurd q (by decide), fun q => absurd q (n3_2 (by omega))⟩
  · exact ⟨fun q => absurd q (by decide), fun q => absurd q (cd_2 hw (by omega))⟩
theorem PR_pl {w : Nat} (hw : w ≤ 4) {st sp p : Int32} (h : PR w st sp p) : (st = 4 ∨ st = 1) ↔ pl p = true := by
  rcases h with ⟨rfl, rfl⟩ | ⟨rfl, rfl⟩ | ⟨rfl, rfl⟩ | ⟨k, hk, rfl, rfl, rfl⟩ | ⟨k, hk, rfl, rfl, rfl⟩
  · decide
  · decide
  · decide
  · exact ⟨fun q => absurd q (by decide), fun q => absurd q (pl_n (by omega) (by omega))⟩
  · exact ⟨fun _ => pl_cd hw (by omega), fun _ => Or.inl rfl⟩
theorem kR_cancel (hJ : IJ (sM D cI cZ a)) {S : SS} (M : MM) {c : Nat} (hM : RM w n S M none c) (hI : IV w n S) (hR : IR w n S) (hc : c + 24 < 2 ^ 31) : Ci l (sM D cI cZ a) yR_cancel wR_cancel rmR_cancel [.ref (a 0)] M (fun r M' => r = (s_cancel w n S).1 ∧ rt w n (s_cancel w n S).2 none c 24 M') := by
  have hF := hI.1
  have hn := hF.le
  have hw := hF.w4
  have e18 : M 0 18 = S.1 0 10 := RA.sc hM.a 10 (by decide) (by decide)
  have e19 : M 0 19 = S.1 0 11 := RA.sc hM.a 11 (by decide) (by decide)
  have no : (S.1 0 10 = 0 ∨ S.1 0 11 ≠ 0) → (-1 : Int32) = (s_cancel w n S).1 ∧ rt w n (s_cancel w n S).2 none c 24 M := fun q => by
    unfold s_cancel
    rw [if_pos q]
    exact ⟨rfl, c, by omega, by omega, hM⟩
  refine oR_cancel hJ (fun G hl hR' F => ?_)
  subst hl
  by_cases hq : S.1 0 10 = 0 ∨ S.1 0 11 ≠ 0
  · refine sR_cancel_0 F hR' (K25 := fun _ _ _ => False) (fun _ _ _ q => q.elim) ⟨fun _ => no hq, fun h => ⟨fun h1 => ?_, fun _ => no hq⟩⟩
    rcases hq with z | z
    · exact absurd (e18.trans z) h
    · exact absurd (e19.symm.trans h1) z
  · have hs : s_cancel w n S = (nI (s_drop w n (sp S 0 11 1)).1, s_close w n (s_ecw n n (s_drop w n (sp S 0 11 1)).2)) := by
      unfold s_cancel
      rw [if_neg hq]
    rw [hs]
    have hI1 := IV_sp0 hI (i := 11) (by decide) 1
    have hI2 := IV_drop hI1
    have hI3 := IV_ecw n (Nat.le_refl _) _ hI2
    have hR3 : IR w n (s_ecw n n (s_drop w n (sp S 0 11 1)).2) := by
      have h1 := IR_0 hR (i := 11) 1 (TH_0q hR.2.2.2.1 (by rw [sp_r, if_neg (by omega)])) (RO_0q hR.2.2.2.2 (by rw [sp_r, if_neg (by omega)]) (by rw [sp_r, if_neg (by omega)]))
      refine IR_ecw hw n _ ?_
      have r : ∀ k i, (s_drop w n (sp S 0 11 1)).2.1 k i = if k = 38 ∧ i < n ∧ pl ((sp S 0 11 1).1 38 i) = true then 0 else (sp S 0 11 1).1 k i := s_drp_at (sp S 0 11 1) n
      have e : ∀ k, k ≠ 38 → (s_drop w n (sp S 0 11 1)).2.1 k = (sp S 0 11 1).1 k := fun k z => by
        funext i
        rw [r, if_neg (fun y => z y.1)]
      refine IR_same h1 (e 36 (by decide)) (e 37 (by decide)) (e 5 (by decide)) (e 35 (by decide)) (fun t ht k hk => ?_) (e 0 (by decide))
      rw [r]
      by_cases z : 38 = 38 ∧ t < n ∧ pl ((sp S 0 11 1).1 38 t) = true
      · rw [if_pos z]
        refine ⟨fun y => absurd y.symm (n3_0 (by omega)), fun y => ?_⟩
        rw [y] at z
        exact absurd z.2.2 (pl_n (by omega) (by omega))
      · rw [if_neg z]
    have hg : ∃ S0, S0 = (s_drop w n (sp S 0 11 1)).2 := ⟨_, rfl⟩
    obtain ⟨S0, eS0⟩ := hg
    rw [← eS0] at hI2 hI3 hR3 ⊢
    have hcnt : (s_drop w n (sp S 0 11 1)).1 = (s_drp (sp S 0 11 1) n).1 := rfl
    rw [hcnt]
    have hG0 := hI2.1.g
    obtain ⟨-, hF1, hF0⟩ := ecw_38 n S0 hG0 (Nat.le_refl _)
    -- what is left to do once all waiting ones are settled
    have fin : ∀ M1, RM w n (s_ecw n n S0) M1 none c → wx G (sM D cI cZ a) 4 (Qxi G (sM D cI cZ a) (fun r M' => r = nI (s_drp (sp S 0 11 1) n).1 ∧ rt w n (s_close w n (s_ecw n n S0)) none c 24 M')) M1 72 [(0, .ref (a 0)), (1, .int (nI (s_drp (sp S 0 11 1) n).1)), (2, .int (nI 4))] [] := by
      intro M1 hM1
      refine sR_cancel_72 F hR' (K79 := fun _ _ _ _ => False) (fun _ _ _ _ q => q.elim) ⟨fun _ => ⟨_, kR_settle hJ M1 hM1 hI3.1 hI3.2.2.2 hR3.2.2.2.1 hR3.2.2.2.2 hc, ?_⟩, fun q => absurd (by decide) q⟩
      rintro M6 ⟨⟨c6, g1, g2, g3⟩, -⟩
      exact ⟨rfl, c6, g1, g2, g3⟩
    -- one pass
    have pass : ∀ (i : Nat), i < 4 → (∀ M2 Z, wy n S0 (s_ecw n n S0) Z (fun t => ∃ v, S0.1 4 t = nI v ∧ 4 ≤ v + (i + 1) ∧ v < 1000) → RM w n Z M2 none c → wx G (sM D cI cZ a) 4 (Qxi G (sM D cI cZ a) (fun r M' => r = nI (s_drp (sp S 0 11 1) n).1 ∧ rt w n (s_close w n (s_ecw n n S0)) none c 24 M')) M2 72 [(0, .ref (a 0)), (1, .int (nI (s_drp (sp S 0 11 1) n).1)), (2, .int (nI (i + 1)))] []) →
        ∀ m j M1 Z, j + m = n → wy n S0 (s_ecw n n S0) Z (fun t => (∃ v, S0.1 4 t = nI v ∧ 4 ≤ v + i ∧ v < 1000) ∨ (t < j ∧ ∃ v, S0.1 4 t = nI v ∧ 4 ≤ v + (i + 1) ∧ v < 1000)) → RM w n Z M1 none c → wx G (sM D cI cZ a) 4 (Qxi G (sM D cI cZ a) (fun r M' => r = nI (s_drp (sp S 0 11 1) n).1 ∧ rt w n (s_close w n (s_ecw n n S0)) none c 24 M')) M1 79 [(0, .ref (a 0)), (1, .int (nI (s_drp (sp S 0 11 1) n).1)), (2, .int (nI i)), (3, .int (nI j))] [] := by
      intro i hi cont m
      induction m with
      | zero =>
        intro j M1 Z hj hZ hM1
        have hj : j = n := by omega
        have h4 : M1 0 1 ≤ nI j := by rw [hM1.g.1]; exact (nle (by omega) (by omega)).mpr (by omega)
        refine sR_cancel_79 F hR' (K72 := fun M2 x1 x2 => M2 = M1 ∧ x1 = nI (s_drp (sp S 0 11 1) n).1 ∧ x2 = nI (i + 1)) (K79 := fun _ _ _ _ => False) ?_ (fun _ _ _ _ q => q.elim) ⟨fun _ => ⟨rfl, rfl, nI_1 i⟩, fun q => absurd h4 q⟩
        rintro M2 x1 x2 ⟨rfl, rfl, rfl⟩
        refine cont M2 Z ⟨hZ.1, hZ.2.1, hZ.2.2.1, fun t ht hP => hZ.2.2.2 t ht (Or.inr ⟨by omega, hP⟩)⟩ hM1
      | succ m ih =>
        intro j M1 Z hj hZ hM1
        have h4 : ¬ M1 0 1 ≤ nI j := by rw [hM1.g.1]; intro q; have := (nle (by omega) (by omega)).mp q; omega
        have h52 : M1 5 j = 2 ↔ Z.1 38 j = 2 := PR_2 hw ((hM1.p j (by omega)).1 (by simp))
        -- j is settled where nothing happens
        have keepJ : (Z.1 38 j = 2 → s_act n Z (nI j) = true) → wy n S0 (s_ecw n n S0) Z (fun t => (∃ v, S0.1 4 t = nI v ∧ 4 ≤ v + i ∧ v < 1000) ∨ (t < j + 1 ∧ ∃ v, S0.1 4 t = nI v ∧ 4 ≤ v + (i + 1) ∧ v < 1000)) := fun hk => by
          obtain ⟨z1, z2, z3, z4⟩ := hZ
          refine ⟨z1, z2, z3, fun t ht hP => ?_⟩
          by_cases e : t = j
          · subst e
            rcases z3 t with q | q
            · exact q
            · exfalso
              obtain ⟨v, v1, v2, v3⟩ : ∃ v, S0.1 4 t = nI v ∧ 4 ≤ v + (i + 1) ∧ v < 1000 := by
                rcases hP with ⟨v, v1, v2, v3⟩ | ⟨-, y⟩
                · exact ⟨v, v1, by omega, v3⟩
                · exact y
              have hA := hk q.1
              rw [s_act_iff] at hA
              obtain ⟨t', a1, a2, a3⟩ := hA
              rw [z1 3 (by decide)] at a2
              have hpt := par_ne hG0 a1 ht a2
              obtain ⟨v', b1, b2, b3⟩ := hG0.lev t' a1
              obtain ⟨u, u1, u2⟩ := b3 t hpt a2
              rw [v1] at u2
              have huv := (neq (by omega) (by omega)).mp u2
              have hset := z4 t' a1 (Or.inl ⟨v', b2, by omega, by omega⟩)
              have hS038 : S0.1 38 t = 2 := q.2.2.2
              have hf := (hF0 t ht hS038).mp q.2.1
              refine hf ?_
              rw [s_act_iff]
              exact ⟨t', a1, by rw [(ecw_row n n S0).1 3 (by decide)]; exact a2, by rw [← hset]; exact a3⟩
          · refine z4 t ht ?_
            rcases hP with y | ⟨y1, y2⟩
            · exact Or.inl y
            · exact Or.inr ⟨by omega, y2⟩
        refine sR_cancel_79 F hR' (K72 := fun _ _ _ => False) (K79 := fun M2 x1 x2 x3 => x1 = nI (s_drp (sp S 0 11 1) n).1 ∧ x2 = nI i ∧ x3 = nI (j + 1) ∧ ∃ Z2, wy n S0 (s_ecw n n S0) Z2 (fun t => (∃ v, S0.1 4 t = nI v ∧ 4 ≤ v + i ∧ v < 1000) ∨ (t < j + 1 ∧ ∃ v, S0.1 4 t = nI v ∧ 4 ≤ v + (i + 1) ∧ v < 1000)) ∧ RM w n Z2 M2 none c) (fun _ _ _ q => q.elim) ?_ ⟨fun q => absurd q h4, fun _ => ⟨j, rfl, by omega, fun h5 => ⟨rfl, rfl, nI_1 j, Z, keepJ (fun q => absurd (h52.mpr q) h5), hM1⟩, fun h5 => ⟨_, kR_activeChild hJ M1 hM1 hw hn (nI j), ?_⟩⟩⟩
        · rintro M2 x1 x2 x3 ⟨rfl, rfl, rfl, Z2, g1, g2⟩
          exact ih (j + 1) M2 Z2 (by omega) g1 g2
        · rintro r M11 ⟨rfl, rfl⟩
          by_cases hA : s_act n Z (nI j) = true
          · rw [if_pos hA]
            exact ⟨fun _ => ⟨rfl, rfl, nI_1 j, Z, keepJ (fun _ => hA), hM1⟩, fun q => absurd q (by decide)⟩
          · rw [if_neg hA]
            refine ⟨fun q => absurd rfl q, fun _ => ?_⟩
            rintro M14 rfl
            obtain ⟨s1, s2⟩ := wy_step (w := w) hG0 hF0 hF1 hZ (by omega) (h52.mp h5) hA
            refine ⟨rfl, rfl, nI_1 j, sp Z 38 j 0, ⟨s2.1, s2.2.1, s2.2.2.1, fun t ht hP => s2.2.2.2 t ht ?_⟩, RM_idle hM1 (fun i q => by cases q)⟩
            by_cases e : t = j
            · exact Or.inr e
            · left
              rcases hP with y | ⟨y1, y2⟩
              · exact Or.inl y
              · exact Or.inr ⟨by omega, y2⟩
    have outer : ∀ f i, i + f = 4 → ∀ M1 Z, wy n S0 (s_ecw n n S0) Z (fun t => ∃ v, S0.1 4 t = nI v ∧ 4 ≤ v + i ∧ v < 1000) → RM w n Z M1 none c → wx G (sM D cI cZ a) 4 (Qxi G (sM D cI cZ a) (fun r M' => r = nI (s_drp (sp S 0 11 1) n).1 ∧ rt w n (s_close w n (s_ecw n n S0)) none c 24 M')) M1 72 [(0, .ref (a 0)), (1, .int (nI (s_drp (sp S 0 11 1) n).1)), (2, .int (nI i))] [] := by
      intro f
      induction f with
      | zero =>
        intro i hi M1 Z hZ hM1
        have hi : i = 4 := by omega
        subst hi
        have : Z = s_ecw n n S0 := by
          refine Prod.ext ?_ ?_
          · funext k q
            by_cases e : k = 38
            · subst e
              rcases hZ.2.2.1 q with z | ⟨-, -, z, -⟩
              · exact z
              · obtain ⟨v, v1, v2, -⟩ := hG0.lev q z
                exact hZ.2.2.2 q z ⟨v, v2, by omega, by omega⟩
            · rw [hZ.1 k e, (ecw_row n n S0).1 k e]
          · rw [hZ.2.1, (ecw_row n n S0).2]
        rw [this] at hM1
        exact fin M1 hM1
      | succ f ih =>
        intro i hi M1 Z hZ hM1
        have h4 : ¬ (4 : Int32) ≤ nI i := fun q => by
          have := (nle (a := 4) (by omega) (by omega)).mp q
          omega
        refine sR_cancel_72 F hR' (K79 := fun M2 x1 x2 x3 => M2 = M1 ∧ x1 = nI (s_drp (sp S 0 11 1) n).1 ∧ x2 = nI i ∧ x3 = nI 0) ?_ ⟨fun q => absurd q h4, fun _ => ⟨rfl, rfl, rfl, rfl⟩⟩
        rintro M2 x1 x2 x3 ⟨rfl, rfl, rfl, rfl⟩
        refine pass i (by omega) (fun M3 Z3 g1 g2 => ih (i + 1) (by omega) M3 Z3 g1 g2) n 0 M2 Z (by omega) ⟨hZ.1, hZ.2.1, hZ.2.2.1, fun t ht hP => hZ.2.2.2 t ht ?_⟩ hM1
        rcases hP with y | ⟨y1, -⟩
        · exact y
        · exact absurd y1 (Nat.not_lt_zero _)
    -- the first loop
    have l1 : ∀ m j M1, j + m = n → RM w n (s_drp (sp S 0 11 1) j).2 M1 none c → wx G (sM D cI cZ a) 4 (Qxi G (sM D cI cZ a) (fun r M' => r = nI (s_drp (sp S 0 11 1) n).1 ∧ rt w n (s_close w n (s_ecw n n S0)) none c 24 M')) M1 25 [(0, .ref (a 0)), (1, .int (nI (s_drp (sp S 0 11 1) j).1)), (2, .int (nI j))] [] := by
      intro m
      induction m with
      | zero =>
        intro j M1 hj hM1
        have hj : j = n := by omega
        subst hj
        have h4 : M1 0 1 ≤ nI j := by rw [hM1.g.1]; exact (nle (by omega) (by omega)).mpr (by omega)
        refine sR_cancel_25 F hR' (K25 := fun _ _ _ => False) (K72 := fun M2 x1 x2 => M2 = M1 ∧ x1 = nI (s_drp (sp S 0 11 1) j).1 ∧ x2 = nI 0) (fun _ _ _ q => q.elim) ?_ ⟨fun _ => ⟨rfl, rfl, rfl⟩, fun q => absurd h4 q⟩
        rintro M2 x1 x2 ⟨rfl, rfl, rfl⟩
        have hM0 : RM w j S0 M2 none c := by
          rw [eS0]
          refine RM_sub hM1 rfl (fun l' hl' => ?_)
          show (if l' < w + 2 then [] else (s_drp (sp S 0 11 1) j).2.2 l').Sublist _
          rw [if_pos hl']
          exact List.nil_sublist _
        refine outer 4 0 rfl M2 S0 ⟨fun _ _ => rfl, rfl, fun t => ?_, fun t ht ⟨v, v1, v2, v3⟩ => ?_⟩ hM0
        · rcases hF1 t with z | z
          · exact Or.inl z.symm
          · by_cases e : t < j
            · exact Or.inr ⟨z.1, z.2, e, z.1⟩
            · have := (ecw_38 j S0 hG0 (Nat.le_refl _)).1 t (by omega)
              exact Or.inl this.symm
        · obtain ⟨v', b1, b2, -⟩ := hG0.lev t ht
          rw [v1] at b2
          have := (neq (by omega) (by omega)).mp b2
          omega
      | succ m ih =>
        intro j M1 hj hM1
        have h4 : ¬ M1 0 1 ≤ nI j := by rw [hM1.g.1]; intro q; have := (nle (by omega) (by omega)).mp q; omega
        have e38 : (s_drp (sp S 0 11 1) j).2.1 38 j = (sp S 0 11 1).1 38 j := by rw [s_drp_at, if_neg (by omega)]
        have hpl : (M1 5 j = 4 ∨ M1 5 j = 1) ↔ pl ((sp S 0 11 1).1 38 j) = true := by rw [← e38]; exact PR_pl hw ((hM1.p j (by omega)).1 (by simp))
        have ed : s_drp (sp S 0 11 1) (j + 1) = if pl ((sp S 0 11 1).1 38 j) = true then ((s_drp (sp S 0 11 1) j).1 + 1, sp (s_drp (sp S 0 11 1) j).2 38 j 0) else s_drp (sp S 0 11 1) j := rfl
        refine sR_cancel_25 F hR' (K25 := fun M2 x1 x2 => x1 = nI (s_drp (sp S 0 11 1) (j + 1)).1 ∧ x2 = nI (j + 1) ∧ RM w n (s_drp (sp S 0 11 1) (j + 1)).2 M2 none c) (K72 := fun _ _ _ => False) ?_ (fun _ _ _ q => q.elim) ⟨fun q => absurd q h4, fun _ => ⟨j, rfl, by omega, fun h5 => ?_, fun h5 => ⟨fun h6 => ?_, fun h6 => ?_⟩⟩⟩
        · rintro M2 x1 x2 ⟨rfl, rfl, g⟩
          exact ih (j + 1) M2 (by omega) g
        · rintro M7 rfl
          rw [ed, if_pos (hpl.mp (Or.inl h5))]
          exact ⟨nI_1 _, nI_1 j, RM_idle hM1 (fun i q => by cases q)⟩
        · rw [ed, if_neg (fun q => (hpl.mpr q).elim h5 h6)]
          exact ⟨rfl, nI_1 j, hM1⟩
        · rintro M10 rfl
          rw [ed, if_pos (hpl.mp (Or.inr h6))]
          exact ⟨nI_1 _, nI_1 j, RM_idle hM1 (fun i q => by cases q)⟩
    refine sR_cancel_0 F hR' (K25 := fun M1 x1 x2 => M1 = mp M 0 19 1 ∧ x1 = nI 0 ∧ x2 = nI 0) ?_ ⟨fun h => absurd (Or.inl (e18.symm.trans h)) hq, fun h => ⟨fun h1 => ?_, fun h1 => absurd (Or.inr (by rw [← e19]; exact h1)) hq⟩⟩
    · rintro M1 x1 x2 ⟨rfl, rfl, rfl⟩
      refine l1 n 0 _ (by omega) (RM_sc hM (i := 11) (by decide) (by decide) rfl 1 (fun _ hcan => ?_))
      rw [sp_r, if_pos ⟨rfl, rfl⟩] at hcan
      exact absurd hcan (by decide)
    · rintro M3 rfl
      exact ⟨rfl, rfl, rfl⟩
end DR11
