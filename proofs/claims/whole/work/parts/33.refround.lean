/-! The reference: rounds; who is active; who runs; the ends of lines -/
theorem RA.sc {w n : Nat} {S : SS} {M : MM} (h : RA w n S M) : ∀ i, 10 ≤ i → i ≤ 16 → M 0 (8 + i) = S.1 0 i := by
  obtain ⟨-, -, -, -, -, b18, b19, b20, b21, b22, b23, b24⟩ := h
  intro i h1 h2
  have : i = 10 ∨ i = 11 ∨ i = 12 ∨ i = 13 ∨ i = 14 ∨ i = 15 ∨ i = 16 := by omega
  rcases this with rfl | rfl | rfl | rfl | rfl | rfl | rfl
  · exact b18
  · exact b19
  · exact b20
  · exact b21
  · exact b22
  · exact b23
  · exact b24.1
/-- a number of the run becomes x -/
theorem RM_sc {w n : Nat} {S : SS} {M : MM} {ex : Option Nat} {c : Nat} (h : RM w n S M ex c) {i j : Nat} (hi : 10 ≤ i) (hi' : i ≤ 16) (hj : j = 8 + i) (x : Int32) (hh : i = 11 → RH n (sp S 0 i x) (mp M 0 j x)) (h17 : i = 13 → (M 0 17 = 0 ↔ x = 0) := by intro q; exact absurd q (by decide)) : RM w n (sp S 0 i x) (mp M 0 j x) ex c := by
  subst hj
  have hsc := RA.sc h.a
  have row : ∀ k, k ≠ 0 → mp M 0 (8 + i) x k = M k := fun k q => mp_ne _ _ _ _ q
  have r0 : ∀ q, q < 18 → mp M 0 (8 + i) x 0 q = M 0 q := fun q hq => by rw [mp_at, if_neg (by omega)]
  have s1 : ∀ k, k ≠ 0 → (sp S 0 i x).1 k = S.1 k := fun k q => sp_ne S 0 i x k q
  have key : ∀ q, 10 ≤ q → q ≤ 16 → mp M 0 (8 + i) x 0 (8 + q) = (sp S 0 i x).1 0 q := fun q h1 h2 => by
    rw [mp_at, sp_r]
    by_cases e : q = i
    · rw [if_pos ⟨rfl, by omega⟩, if_pos ⟨rfl, e⟩]
    · rw [if_neg (by omega), if_neg (fun z => e z.2)]; exact hsc q h1 h2
  obtain ⟨⟨hg, a0, a8, a9, a14, -, -, -, -, -, -, -, b17⟩, hp, ⟨l1, l2, l3⟩, hr⟩ := h
  refine ⟨⟨RG_keep hg (r0 1 (by decide)) (row 1 (by decide)) (row 2 (by decide)) (row 3 (by decide)) (row 4 (by decide)) (row 11 (by decide)) (row 12 (by decide)) (fr.sp0 S i x), (r0 0 (by decide)).trans a0, ?_, ?_, ?_, key 10 (by decide) (by decide), key 11 (by decide) (by decide), key 12 (by decide) (by decide), key 13 (by decide) (by decide), key 14 (by decide) (by decide), key 15 (by decide) (by decide), key 16 (by decide) (by decide), ?_⟩, ?_, ⟨?_, ?_, ?_⟩, ?_⟩
  · rw [row 8 (by decide), s1 39 (by decide)]; exact a8
  · rw [row 9 (by decide), s1 40 (by decide)]; exact a9
  · rw [row 14 (by decide), s1 35 (by decide)]; exact a14
  · rw [r0 17 (by decide), sp_r]
    by_cases e : i = 13
    · rw [if_pos ⟨rfl, e.symm⟩]; exact h17 e
    · rw [if_neg (fun z => e z.2.symm)]; exact b17
  · unfold RP; rw [row 5 (by decide), row 6 (by decide), s1 38 (by decide)]; exact hp
  · rw [r0 16 (by decide)]; exact l1
  · rw [row 7 (by decide)]; exact l2
  · rw [row 7 (by decide)]; exact l3
  · by_cases e : i = 11
    · exact hh e
    · unfold RH
      rw [show (sp S 0 i x).1 0 11 = S.1 0 11 by rw [sp_r, if_neg (by omega)], row 10 (by decide), s1 2 (by decide), s1 38 (by decide), s1 41 (by decide)]
      exact hr
/-- only the arrivals of the state are given otherwise, and not below 24 -/
theorem RM_39 {w n : Nat} {S S' : SS} {M : MM} {ex : Option Nat} {c : Nat} (h : RM w n S M ex c) (h1 : ∀ k, k ≠ 39 → S'.1 k = S.1 k) (h2 : S'.2 = S.2) (h3 : ∀ t, t < 24 → S'.1 39 t = S.1 39 t) : RM w n S' M ex c := by
  obtain ⟨⟨hg, a0, a8, a9, a14, b⟩, hp, hl, hr⟩ := h
  refine ⟨⟨RG_keep hg rfl rfl rfl rfl rfl rfl rfl (fun k _ hk => h1 k (by omega)), a0, fun t ht => by rw [h3 t ht]; exact a8 t ht, ?_, ?_, ?_⟩, ?_, ?_, ?_⟩
  · rw [h1 40 (by decide)]; exact a9
  · rw [h1 35 (by decide)]; exact a14
  · rw [h1 0 (by decide)]; exact b
  · unfold RP; rw [h1 38 (by decide)]; exact hp
  · unfold RL; rw [h2]; exact hl
  · unfold RH; rw [h1 0 (by decide), h1 2 (by decide), h1 38 (by decide), h1 41 (by decide)]; exact hr
theorem arr0_at (p : Int32) (S : SS) : ∀ m k i, (s_arr0 p S m).1 k i = if k = 39 ∧ i < m ∧ S.1 3 i = p then 0 else S.1 k i := by
  intro m
  induction m with
  | zero => intro k i; rw [if_neg (by omega)]; rfl
  | succ m ih =>
    intro k i
    unfold s_arr0
    by_cases hb : S.1 3 m = p
    · rw [if_pos hb, sp_r, ih]
      by_cases e : k = 39 ∧ i = m
      · obtain ⟨rfl, rfl⟩ := e
        rw [if_pos ⟨rfl, rfl⟩, if_pos ⟨rfl, by omega, hb⟩]
      · rw [if_neg e]
        by_cases e2 : k = 39 ∧ i < m ∧ S.1 3 i = p
        · rw [if_pos e2, if_pos ⟨e2.1, by omega, e2.2.2⟩]
        · rw [if_neg e2, if_neg (fun q => e2 ⟨q.1, by have : i ≠ m := fun r => e ⟨q.1, r⟩; omega, q.2.2⟩)]
    · rw [if_neg hb, ih]
      by_cases e2 : k = 39 ∧ i < m ∧ S.1 3 i = p
      · rw [if_pos e2, if_pos ⟨e2.1, by omega, e2.2.2⟩]
      · rw [if_neg e2, if_neg (fun q => e2 ⟨q.1, by have : i ≠ m := fun r => hb (r ▸ q.2.2); omega, q.2.2⟩)]
theorem arr0_l (p : Int32) (S : SS) : ∀ m, (s_arr0 p S m).2 = S.2 := by
  intro m
  induction m with
  | zero => rfl
  | succ m ih =>
    unfold s_arr0
    by_cases hb : S.1 3 m = p
    · rw [if_pos hb, sp_l, ih]
    · rw [if_neg hb, ih]
theorem arr0_id {n : Nat} (p : Int32) {S : SS} (h : ∀ i, i < n → S.1 39 i = 0) : s_arr0 p S n = S := by
  refine Prod.ext ?_ (arr0_l p S n)
  funext k i
  rw [arr0_at]
  by_cases e : k = 39 ∧ i < n ∧ S.1 3 i = p
  · rw [if_pos e, e.1, h i e.2.1]
  · rw [if_neg e]
def s_z39 (S : SS) : Nat → SS
  | 0 => S
  | m + 1 => sp (s_z39 S m) 39 m 0
theorem z39_at (S : SS) : ∀ m k i, (s_z39 S m).1 k i = if k = 39 ∧ i < m then 0 else S.1 k i := by
  intro m
  induction m with
  | zero => intro k i; rw [if_neg (by omega)]; rfl
  | succ m ih =>
    intro k i
    unfold s_z39
    rw [sp_r, ih]
    by_cases e : k = 39 ∧ i = m
    · rw [if_pos e, if_pos (by omega)]
    · rw [if_neg e]
      by_cases e2 : k = 39 ∧ i < m
      · rw [if_pos e2, if_pos (by omega)]
      · rw [if_neg e2, if_neg (by omega)]
theorem z39_l (S : SS) : ∀ m, (s_z39 S m).2 = S.2 := by
  intro m
  induction m with
  | zero => rfl
  | succ m ih => exact ih
def TH (S : SS) : Prop := S.1 0 12 = -1 ∨ ∃ t, t < 24 ∧ S.1 0 12 = nI t
def RO (S : SS) : Prop := ∃ r q, r ≤ q ∧ q ≤ 9 ∧ S.1 0 14 = nI r ∧ S.1 0 13 = nI q
theorem TH_0 {S : SS} (h : TH S) : 0 ≤ S.1 0 12 ↔ ¬ S.1 0 12 = -1 := by
  rcases h with e | ⟨t, ht, e⟩
  · rw [e]; decide
  · rw [e]; exact ⟨fun _ => nm1 (by omega), fun _ => nI_pos' (by omega)⟩
section DR4
variable {l : Launch} {D : va_G} {cI cZ : ClassId} {a : Nat → Nat} {w n : Nat}
theorem kR_nextRound (hJ : IJ (sM D cI cZ a)) {S : SS} (M : MM) {c : Nat} (hM : RM w n S M none c) (hF : WF w n S) (hB : BH n S) (hc : c + 24 < 2 ^ 31) : Cv l (sM D cI cZ a) yR_nextRound wR_nextRound rmR_nextRound [.ref (a 0)] M (fun M' => rs w n (s_round w n S) none c 24 M M') := by
  have hn := hF.le
  have hw := hF.w4
  have e14 : M 0 22 = S.1 0 14 := RA.sc hM.a 14 (by decide) (by decide)
  refine oR_nextRound hJ (fun G hl hR F => ?_)
  subst hl
  have hk := kp1_round0 (w := w) (n := n) S
  have hid : s_arr0 (-1) (s_round0 S) n = s_round0 S := arr0_id (-1) (fun i hi => by unfold s_round0; rw [s_fill_at, if_pos ⟨rfl, by omega⟩])
  have lp : ∀ m j M1, j + m = n → RM w n (s_z39 (sp S 0 14 (S.1 0 14 + 1)) j) M1 none c → M1 10 = M 10 → wx G (sM D cI cZ a) 2 (Qxv G (sM D cI cZ a) (fun M' => rs w n (s_round w n S) none c 24 M M')) M1 12 [(0, .ref (a 0)), (1, .int (nI j))] [] := by
    intro m
    induction m with
    | zero =>
      intro j M1 hj hM1 h10
      have hj : j = n := by omega
      subst hj
      have h4 : M1 0 1 ≤ nI j := by rw [hM1.g.1]; exact (nle (by omega) (by omega)).mpr (by omega)
      have hM2 : RM w j (s_round0 S) M1 none c := by
        refine RM_39 hM1 (fun k hk => ?_) ?_ (fun t ht => ?_)
        · funext i
          unfold s_round0
          rw [s_fill_at, if_neg (fun q => hk q.1), z39_at, if_neg (fun q => hk q.1)]
        · rw [z39_l]; rfl
        · unfold s_round0
          rw [s_fill_at, if_pos ⟨rfl, ht⟩, z39_at]
          by_cases e : 39 = 39 ∧ t < j
          · rw [if_pos e]
          · rw [if_neg e, sp_r, if_neg (by omega)]
            exact (hB t (by omega)).2.1.symm
      refine sR_nextRound_12 F hR (K12 := fun _ _ => False) (fun _ _ q => q.elim) ⟨fun _ => ?_, fun q => absurd h4 q⟩
      rw [hM1.a.2.1]
      refine ⟨_, kR_wake hJ M1 hM2 (hF.k hk) (-1) (Nat.le_refl w) hc, fun M6 h6 => ?_⟩
      rw [hid] at h6
      exact ⟨h6.1, h6.2.trans h10⟩
    | succ m ih =>
      intro j M1 hj hM1 h10
      have h4 : ¬ M1 0 1 ≤ nI j := by rw [hM1.g.1]; intro q; have := (nle (by omega) (by omega)).mp q; omega
      refine sR_nextRound_12 F hR (K12 := fun M2 x1 => x1 = nI (j + 1) ∧ RM w n (s_z39 (sp S 0 14 (S.1 0 14 + 1)) (j + 1)) M2 none c ∧ M2 10 = M 10) ?_ ⟨fun q => absurd q h4, fun _ => ⟨j, rfl, by omega, ?_⟩⟩
      · rintro M2 x1 ⟨rfl, g1, g2⟩
        exact ih (j + 1) M2 (by omega) g1 g2
      · rintro M8 rfl
        exact ⟨nI_1 j, RM_came hM1 j 0, (mp_ne _ _ _ _ (by decide)).trans h10⟩
  refine sR_nextRound_0 F hR (K12 := fun M1 x1 => x1 = nI 0 ∧ M1 = mp M 0 22 (S.1 0 14 + 1)) ?_ ?_
  · rintro M1 x1 ⟨rfl, rfl⟩
    exact lp n 0 _ (by omega) (RM_sc hM (i := 14) (by decide) (by decide) rfl _ (fun q => absurd q (by decide))) (mp_ne _ _ _ _ (by decide))
  · rintro M1 rfl
    exact ⟨rfl, by rw [e14]⟩
theorem any_step {b : Bool} {p : Prop} {k : Nat} {f : Nat → Bool} (hb : b = (List.range k).any f) (hp : f k = true ↔ p) (q : p ∨ b = true) : (List.range (k + 1)).any f = true := by
  rw [any_succ, ← hb]
  rcases q with q | q
  · rw [hp.mpr q, Bool.or_true]
  · rw [q]; rfl
theorem kR_settle (hJ : IJ (sM D cI cZ a)) {S : SS} (M : MM) {c : Nat} (hM : RM w n S M none c) (hF : WF w n S) (hB : BH n S) (hT : TH S) (hO : RO S) (hc : c + 24 < 2 ^ 31) : Cv l (sM D cI cZ a) yR_settle wR_settle rmR_settle [.ref (a 0)] M (fun M' => rs w n (s_close w n S) none c 24 M M') := by
  have hn := hF.le
  have hw := hF.w4
  have e11 : M 0 19 = S.1 0 11 := RA.sc hM.a 11 (by decide) (by decide)
  have e12 : M 0 20 = S.1 0 12 := RA.sc hM.a 12 (by decide) (by decide)
  have e13 : M 0 21 = S.1 0 13 := RA.sc hM.a 13 (by decide) (by decide)
  have e14 : M 0 22 = S.1 0 14 := RA.sc hM.a 14 (by decide) (by decide)
  obtain ⟨r, q, hrq, hq9, er, eq'⟩ := hO
  have hcmp : S.1 0 14 = S.1 0 13 ↔ ¬ S.1 0 14 < S.1 0 13 := by
    rw [er, eq', neq (by omega) (by omega), nlt (by omega) (by omega)]
    omega
  have stop : (S.1 0 11 ≠ 0 ∨ S.1 0 12 ≠ -1 ∨ ¬ S.1 0 14 < S.1 0 13) → ¬ s_any n S = true → rs w n (s_close w n S) none c 24 M (mp M 0 18 0) := fun h1 h2 => by
    refine ⟨⟨c, by omega, by omega, ?_⟩, mp_ne _ _ _ _ (by decide)⟩
    unfold s_close
    rw [if_neg h2, if_pos h1]
    exact RM_sc hM (i := 10) (by decide) (by decide) rfl _ (fun q => absurd q (by decide))
  refine oR_settle hJ (fun G hl hR F => ?_)
  subst hl
  have lp : ∀ m k, k + m = n → wx G (sM D cI cZ a) 3 (Qxv G (sM D cI cZ a) (fun M' => rs w n (s_close w n S) none c 24 M M')) M 4 [(0, .ref (a 0)), (1, .int (if s_any k S = true then 1 else 0)), (2, .int (nI k))] [] := by
    intro m
    induction m with
    | zero =>
      intro k hk
      have hk : k = n := by omega
      subst hk
      have h4 : M 0 1 ≤ nI k := by rw [hM.g.1]; exact (nle (by omega) (by omega)).mpr (by omega)
      refine sR_settle_4 F hR (K4 := fun _ _ _ => False) (fun _ _ _ q => q.elim) ⟨fun _ => ?_, fun q => absurd h4 q⟩
      by_cases hA : s_any k S = true
      · rw [if_pos hA]
        refine ⟨fun q => absurd q (by decide), fun _ => ⟨⟨c, by omega, by omega, ?_⟩, rfl⟩⟩
        unfold s_close
        rw [if_pos hA]
        exact hM
      · rw [if_neg hA]
        refine ⟨fun _ => ⟨fun h1 => ?_, fun h1 => ⟨fun h2 => ?_, fun h2 => ⟨fun h3 => ⟨_, kR_nextRound hJ M hM hF hB hc, fun M14 h14 => ?_⟩, fun h3 => ?_⟩⟩⟩, fun q => absurd rfl q⟩
        · rintro M4 rfl
          exact stop (Or.inl (by rw [← e11]; exact h1)) hA
        · rintro M4 rfl
          exact stop (Or.inr (Or.inl ((TH_0 hT).mp (by rw [← e12]; exact h2)))) hA
        · have hcl : s_close w k S = s_round w k S := by
            unfold s_close
            rw [if_neg hA]
            have : ¬ (S.1 0 11 ≠ 0 ∨ S.1 0 12 ≠ -1 ∨ ¬ S.1 0 14 < S.1 0 13) := by
              rintro (z | z | z)
              · exact z (e11.symm.trans h1)
              · exact h2 (by rw [e12]; exact (TH_0 hT).mpr z)
              · exact h3 (by rw [e14, e13]; exact hcmp.mpr z)
            rw [if_neg this]
          rw [hcl]
          exact h14
        · rintro M4 rfl
          exact stop (Or.inr (Or.inr (hcmp.mp (by rw [← e14, ← e13]; exact h3)))) hA
    | succ m ih =>
      intro k hk
      have h4 : ¬ M 0 1 ≤ nI k := by rw [hM.g.1]; intro q; have := (nle (by omega) (by omega)).mp q; omega
      have hact := hM.p.act hw (t := k) (by omega)
      have hs : s_any (k + 1) S = (s_any k S || decide (S.1 38 k ≠ 0)) := any_succ _ k
      refine sR_settle_4 F hR (K4 := fun M' x1 x2 => M' = M ∧ x1 = (if s_any (k + 1) S = true then 1 else 0) ∧ x2 = nI (k + 1)) ?_ ⟨fun q => absurd q h4, fun _ => ⟨fun h5 => ⟨rfl, ?_, nI_1 k⟩, fun h5 => ⟨k, rfl, by omega, fun h6 => ⟨rfl, ?_, nI_1 k⟩, fun h6 => ⟨rfl, ?_, nI_1 k⟩⟩⟩⟩
      · rintro M' x1 x2 ⟨rfl, rfl, rfl⟩
        exact ih (k + 1) (by omega)
      · cases h : s_any k S with
        | true => rw [hs, h]; rfl
        | false => rw [h] at h5; exact absurd rfl h5
      · cases h : s_any k S with
        | true => rw [h] at h5; exact absurd h5 (by decide)
        | false =>
          have : decide (S.1 38 k ≠ 0) = false := by rw [decide_eq_false_iff_not]; exact fun q => q (hact.mp h6)
          rw [hs, h, this]; rfl
      · have : decide (S.1 38 k ≠ 0) = true := by rw [decide_eq_true_iff]; exact fun q => h6 (hact.mpr q)
        rw [hs, this, Bool.or_true]; rfl
  refine sR_settle_0 F hR (K4 := fun M' x1 x2 => M' = M ∧ x1 = 0 ∧ x2 = nI 0) ?_ ⟨rfl, rfl, rfl⟩
  rintro M' x1 x2 ⟨rfl, rfl, rfl⟩
  exact lp n 0 (by omega)
theorem kR_activeChild (hJ : IJ (sM D cI cZ a)) {S : SS} (M : MM) {ex : Option Nat} {c : Nat} (hM : RM w n S M ex c) (hw : w ≤ 4) (hn : n ≤ 24) (x : Int32) : Ci l (sM D cI cZ a) yR_activeChild wR_activeChild rmR_activeChild [.ref (a 0), .int x] M (fun r M' => M' = M ∧ r = if s_act n S x = true then 1 else 0) := by
  refine oR_activeChild hJ (fun G hl hR F => ?_)
  subst hl
  have lp : ∀ m k, k + m = n → wx G (sM D cI cZ a) 4 (Qxi G (sM D cI cZ a) (fun r M' => M' = M ∧ r = if s_act n S x = true then 1 else 0)) M 4 [(0, .ref (a 0)), (1, .int x), (2, .int (if s_act k S x = true then 1 else 0)), (3, .int (nI k))] [] := by
    intro m
    induction m with
    | zero =>
      intro k hk
      have hk : k = n := by omega
      subst hk
      have h4 : M 0 1 ≤ nI k := by rw [hM.g.1]; exact (nle (by omega) (by omega)).mpr (by omega)
      refine sR_activeChild_4 F hR (K4 := fun _ _ _ _ => False) (fun _ _ _ _ q => q.elim) ⟨fun _ => ⟨nar1 ?_, rfl, rfl⟩, fun q => absurd h4 q⟩
      by_cases h : s_act k S x = true
      · rw [if_pos h]; exact Or.inl rfl
      · rw [if_neg h]; exact Or.inr rfl
    | succ m ih =>
      intro k hk
      have h4 : ¬ M 0 1 ≤ nI k := by rw [hM.g.1]; intro q; have := (nle (by omega) (by omega)).mp q; omega
      have hact := hM.p.act hw (t := k) (by omega)
      have e2 : M 2 k = S.1 3 k := by rw [hM.g.2.2.1]
      have hs : s_act (k + 1) S x = (s_act k S x || decide (S.1 3 k = x ∧ S.1 38 k ≠ 0)) := any_succ _ k
      refine sR_activeChild_4 F hR (K4 := fun M' x1 x2 x3 => M' = M ∧ x1 = x ∧ x2 = (if s_act (k + 1) S x = true then 1 else 0) ∧ x3 = nI (k + 1)) ?_ ⟨fun q => absurd q h4, fun _ => ⟨fun h5 => ⟨rfl, rfl, ?_, nI_1 k⟩, fun h5 => ⟨k, rfl, by omega, fun h6 => ⟨rfl, rfl, ?_, nI_1 k⟩, fun h6 => ⟨fun h7 => ⟨rfl, rfl, ?_, nI_1 k⟩, fun h7 => ⟨rfl, rfl, ?_, nI_1 k⟩⟩⟩⟩⟩
      · rintro M' x1 x2 x3 ⟨rfl, h1, rfl, rfl⟩
        rw [h1]
        exact ih (k + 1) (by omega)
      · cases h : s_act k S x with
        | true => rw [hs, h]; rfl
        | false => rw [h] at h5; exact absurd rfl h5
      · cases h : s_act k S x with
        | true => rw [h] at h5; exact absurd h5 (by decide)
        | false =>
          have : decide (S.1 3 k = x ∧ S.1 38 k ≠ 0) = false := by rw [decide_eq_false_iff_not]; exact fun q => h6 (e2.trans q.1)
          rw [hs, h, this]; rfl
      · cases h : s_act k S x with
        | true => rw [h] at h5; exact absurd h5 (by decide)
        | false =>
          have : decide (S.1 3 k = x ∧ S.1 38 k ≠ 0) = false := by rw [decide_eq_false_iff_not]; exact fun q => q.2 (hact.mp h7)
          rw [hs, h, this]; rfl
      · have : decide (S.1 3 k = x ∧ S.1 38 k ≠ 0) = true := by rw [decide_eq_true_iff]; exact ⟨e2.symm.trans h6, fun q => h7 (hact.mpr q)⟩
        rw [hs, this, Bool.or_true]; rfl
  refine sR_activeChild_0 F hR (K4 := fun M' x1 x2 x3 => M' = M ∧ x1 = x ∧ x2 = 0 ∧ x3 = nI 0) ?_ ⟨rfl, rfl, rfl, rfl⟩
  rintro M' x1 x2 x3 ⟨rfl, h1, rfl, rfl⟩
  rw [h1]
  exact lp n 0 (by omega)
end DR4
