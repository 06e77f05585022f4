/-! The reference: its queries -/
theorem cN_mem {n : Nat} : ∀ T : List Nat, T.Nodup → (∀ u ∈ T, u < n) → cN (fun u => decide (u ∈ T)) n = T.length := by
  intro T
  induction T with
  | nil => intro _ _; exact cN_0 n (fun q _ => by simp)
  | cons b T ih =>
    intro hd hl
    have hd := List.nodup_cons.mp hd
    have h1 := ih hd.2 (fun u hu => hl u (List.mem_cons_of_mem _ hu))
    rw [cN_one (t := b) (q := fun u => decide (u ∈ T)) n (hl b (List.mem_cons_self ..))]
    · rw [h1, if_pos (by simp)]
      rfl
    · intro i hi
      have : (i ∈ T) ↔ (i ∈ b :: T) := by
        rw [List.mem_cons]
        exact ⟨Or.inr, fun q => q.resolve_left hi⟩
      rw [decide_eq_decide]
      exact this
    · rw [decide_eq_false_iff_not]
      exact hd.1
theorem cN_before {n : Nat} {f : Nat → Nat} {L : List Nat} (hd : L.Nodup) (hl : ∀ u ∈ L, u < n) (hp : L.Pairwise (fun x y => f x < f y)) {i t : Nat} (hi : L[i]? = some t) : cN (fun u => decide (u ∈ L ∧ f u < f t)) n = i := by
  obtain ⟨hlt, hti⟩ := List.getElem?_eq_some_iff.mp hi
  have hsplit : L = L.take i ++ t :: L.drop (i + 1) := by
    rw [← hti, ← List.drop_eq_getElem_cons hlt, List.take_append_drop]
  have hlen : (L.take i).length = i := by rw [List.length_take]; omega
  have hnd : (L.take i).Nodup := hd.sublist (List.take_sublist i L)
  have hmem : ∀ u, (u ∈ L ∧ f u < f t) ↔ u ∈ L.take i := by
    intro u
    rw [hsplit] at hp
    have hp := List.pairwise_append.mp hp
    constructor
    · rintro ⟨h1, h2⟩
      rw [hsplit] at h1
      rcases List.mem_append.mp h1 with q | q
      · exact q
      · rcases List.mem_cons.mp q with z | z
        · rw [z] at h2; omega
        · have := (List.pairwise_cons.mp hp.2.1).1 u z
          omega
    · intro q
      exact ⟨List.mem_of_mem_take q, hp.2.2 u q t (List.mem_cons_self ..)⟩
  rw [cN_congr (g := fun u => decide (u ∈ L.take i)) n (fun q _ => by rw [decide_eq_decide]; exact hmem q), cN_mem _ hnd (fun u hu => hl u (List.mem_of_mem_take hu)), hlen]
section DR13
variable {l : Launch} {D : va_G} {cI cZ : ClassId} {a : Nat → Nat} {w n : Nat}
theorem kR_state (hJ : IJ (sM D cI cZ a)) {S : SS} (M : MM) {c : Nat} (hM : RM w n S M none c) (hT : TH S) (hB : (S.1 0 14 = 0 ↔ S.1 0 13 = 0) ∧ (S.1 0 10 ≠ 0 → S.1 0 14 ≠ 0)) : Ci l (sM D cI cZ a) yR_state wR_state rmR_state [.ref (a 0)] M (fun r M' => M' = M ∧ r = s_state S) := by
  have e10 : M 0 18 = S.1 0 10 := RA.sc hM.a 10 (by decide) (by decide)
  have e11 : M 0 19 = S.1 0 11 := RA.sc hM.a 11 (by decide) (by decide)
  have e12 : M 0 20 = S.1 0 12 := RA.sc hM.a 12 (by decide) (by decide)
  have e17 : M 0 17 = 0 ↔ S.1 0 14 = 0 := hM.a.2.2.2.2.2.2.2.2.2.2.2.2.trans hB.1.symm
  have hlt : S.1 0 12 < 0 ↔ S.1 0 12 = -1 := by
    have := TH_0 hT
    rw [← Int32.not_le, this, Decidable.not_not]
  unfold s_state
  refine oR_state hJ ?_
  rw [e10, e11, e12]
  refine ⟨fun h => ⟨fun h1 => ⟨fun h2 => ⟨fun h3 => ?_, fun h3 => ?_⟩, fun h2 => ?_⟩, fun h1 => ?_⟩, fun h => ⟨fun h1 => ?_, fun h1 => ?_⟩⟩
  · rw [if_neg (fun q => h1 (e17.mpr q)), if_pos h, if_pos h2, if_pos (hlt.mp h3)]; exact ⟨rfl, rfl⟩
  · rw [if_neg (fun q => h1 (e17.mpr q)), if_pos h, if_pos h2, if_neg (fun q => h3 (hlt.mpr q))]; exact ⟨rfl, rfl⟩
  · rw [if_neg (fun q => h1 (e17.mpr q)), if_pos h, if_neg h2]; exact ⟨rfl, rfl⟩
  · rw [if_pos (e17.mp h1)]; exact ⟨rfl, rfl⟩
  · rw [if_neg (hB.2 h), if_neg h, if_pos h1]; exact ⟨rfl, rfl⟩
  · rw [if_neg (hB.2 h), if_neg h, if_neg h1]; exact ⟨rfl, rfl⟩
theorem kR_thrower (hJ : IJ (sM D cI cZ a)) {S : SS} (M : MM) {c : Nat} (hM : RM w n S M none c) : Ci l (sM D cI cZ a) yR_thrower wR_thrower rmR_thrower [.ref (a 0)] M (fun r M' => M' = M ∧ r = S.1 0 12) := oR_thrower hJ ⟨rfl, RA.sc hM.a 12 (by decide) (by decide)⟩
theorem kR_round (hJ : IJ (sM D cI cZ a)) {S : SS} (M : MM) {c : Nat} (hM : RM w n S M none c) : Ci l (sM D cI cZ a) yR_round wR_round rmR_round [.ref (a 0)] M (fun r M' => M' = M ∧ r = S.1 0 14) := oR_round hJ ⟨rfl, RA.sc hM.a 14 (by decide) (by decide)⟩
theorem kR_lost (hJ : IJ (sM D cI cZ a)) {S : SS} (M : MM) {c : Nat} (hM : RM w n S M none c) : Ci l (sM D cI cZ a) yR_lost wR_lost rmR_lost [.ref (a 0)] M (fun r M' => M' = M ∧ r = S.1 0 15) := oR_lost hJ ⟨rfl, RA.sc hM.a 15 (by decide) (by decide)⟩
theorem kR_steals (hJ : IJ (sM D cI cZ a)) {S : SS} (M : MM) {c : Nat} (hM : RM w n S M none c) : Ci l (sM D cI cZ a) yR_steals wR_steals rmR_steals [.ref (a 0)] M (fun r M' => M' = M ∧ r = S.1 0 16) := oR_steals hJ ⟨rfl, RA.sc hM.a 16 (by decide) (by decide)⟩
theorem kR_runs (hJ : IJ (sM D cI cZ a)) {S : SS} (M : MM) {c : Nat} (hM : RM w n S M none c) (hn : n ≤ 24) (x : Int32) : Ci l (sM D cI cZ a) yR_runs wR_runs rmR_runs [.ref (a 0), .int x] M (fun r M' => M' = M ∧ r = if isT n x = true then S.1 40 (tn x) else 0) := by
  refine oR_runs hJ ⟨_, kR_isTask hJ M hM.g.1 x, ?_⟩
  rintro r M' ⟨rfl, rfl⟩
  by_cases hT : isT n x = true
  · rw [if_pos hT, if_pos hT]
    obtain ⟨t, ht, rfl⟩ := isT_of (by omega) hT
    refine ⟨fun q => absurd q (by decide), fun _ => ⟨t, rfl, by omega, rfl, ?_⟩⟩
    rw [tnI (by omega)]
    exact hM.a.2.2.2.1 t (by omega)
  · rw [if_neg hT, if_neg hT]
    exact ⟨fun _ => ⟨rfl, rfl⟩, fun q => absurd rfl q⟩
theorem kR_arrivals (hJ : IJ (sM D cI cZ a)) {S : SS} (M : MM) {c : Nat} (hM : RM w n S M none c) (hn : n ≤ 24) (x : Int32) : Ci l (sM D cI cZ a) yR_arrivals wR_arrivals rmR_arrivals [.ref (a 0), .int x] M (fun r M' => M' = M ∧ r = if ¬ S.1 0 10 = 0 ∧ isT n x = true then S.1 39 (tn x) else 0) := by
  have e10 : M 0 18 = S.1 0 10 := RA.sc hM.a 10 (by decide) (by decide)
  refine oR_arrivals hJ ⟨fun h => ⟨rfl, by rw [if_neg (fun q => q.1 (e10.symm.trans h))]⟩, fun h => ⟨_, kR_isTask hJ M hM.g.1 x, ?_⟩⟩
  rintro r M' ⟨rfl, rfl⟩
  by_cases hT : isT n x = true
  · rw [if_pos hT, if_pos ⟨fun q => h (e10.trans q), hT⟩]
    obtain ⟨t, ht, rfl⟩ := isT_of (by omega) hT
    refine ⟨fun q => absurd q (by decide), fun _ => ⟨t, rfl, by omega, rfl, ?_⟩⟩
    rw [tnI (by omega)]
    exact hM.a.2.2.1 t (by omega)
  · rw [if_neg hT, if_neg (fun q => hT q.2)]
    exact ⟨fun _ => ⟨rfl, rfl⟩, fun q => absurd rfl q⟩
theorem kR_where (hJ : IJ (sM D cI cZ a)) {S : SS} (M : MM) {c : Nat} (hM : RM w n S M none c) (hw : w ≤ 4) (hn : n ≤ 24) (x : Int32) : Ci l (sM D cI cZ a) yR_where wR_where rmR_where [.ref (a 0), .int x] M (fun r M' => M' = M ∧ r = if isT n x = true then S.1 38 (tn x) else -1) := by
  refine oR_where hJ ⟨_, kR_isTask hJ M hM.g.1 x, ?_⟩
  rintro r M' ⟨rfl, rfl⟩
  by_cases hT : isT n x = true
  · rw [if_pos hT, if_pos hT]
    obtain ⟨t, ht, rfl⟩ := isT_of (by omega) hT
    refine ⟨fun _ => ⟨t, rfl, by omega, ?_⟩, fun q => absurd q (by decide)⟩
    rw [tnI (by omega), hM.a.2.1]
    rcases (hM.p t (by omega)).1 (by simp) with ⟨h1, h2⟩ | ⟨h1, h2⟩ | ⟨h1, h2⟩ | ⟨k, hk, h1, h2, h3⟩ | ⟨k, hk, h1, h2, h3⟩
    · rw [h1, h2]; exact ⟨fun _ => ⟨fun _ => ⟨rfl, rfl⟩, fun q => absurd q (by decide)⟩, fun q => absurd q (by decide)⟩
    · rw [h1, h2]; exact ⟨fun _ => ⟨fun _ => ⟨rfl, rfl⟩, fun q => absurd q (by decide)⟩, fun q => absurd q (by decide)⟩
    · rw [h1, h2]; exact ⟨fun _ => ⟨fun _ => ⟨rfl, rfl⟩, fun q => absurd q (by decide)⟩, fun q => absurd q (by decide)⟩
    · rw [h1, h2, h3]; exact ⟨fun q => absurd rfl q, fun _ => ⟨rfl, nI_add 3 k⟩⟩
    · rw [h1, h2, h3]
      refine ⟨fun _ => ⟨fun q => absurd rfl q, fun _ => ⟨fun q => ⟨rfl, ?_⟩, fun q => ⟨rfl, ?_⟩⟩⟩, fun q => absurd q (by decide)⟩
      · have hne : k ≠ w := fun e => q (by rw [e])
        unfold cd
        rw [if_neg (by omega), if_neg (by omega), show 9 + (k + 1) = 10 + k by omega, ← nI_add]
        rfl
      · have he : k = w := (neq (by omega) (by omega)).mp q
        unfold cd
        rw [if_neg (by omega), if_pos (by omega)]
  · rw [if_neg hT, if_neg hT]
    exact ⟨fun q => absurd rfl q, fun _ => ⟨rfl, rfl⟩⟩
theorem kR_lineAt (hJ : IJ (sM D cI cZ a)) {S : SS} (M : MM) {c : Nat} (hM : RM w n S M none c) (hF : WF w n S) (hc : c < 2 ^ 31) (x y : Int32) : Ci l (sM D cI cZ a) yR_lineAt wR_lineAt rmR_lineAt [.ref (a 0), .int x, .int y] M (fun r M' => M' = M ∧ r = if isT (w + 1) x = true then lat (S.2 (tn x + 1)) y else -1) := by
  have hn := hF.le
  have hw := hF.w4
  have e0 : M 0 0 = nI w := hM.a.2.1
  refine oR_lineAt hJ (fun G hl hR F => ?_)
  subst hl
  have key : ∀ k, k ≤ w → ∀ m j, j + m = n → (∀ i t, t < j → (S.2 (k + 1))[i]? = some t → ¬ y = nI i) → wx G (sM D cI cZ a) 6 (Qxi G (sM D cI cZ a) (fun r M' => M' = M ∧ r = lat (S.2 (k + 1)) y)) M 16 [(0, .ref (a 0)), (1, .int (nI k)), (2, .int y), (3, .int (nI j))] [] := by
    intro k hk m
    have hL := hF.ln (k + 1) (by omega)
    have hlen := hF.ln.len (l := k + 1) (by omega)
    have hpw : (S.2 (k + 1)).Pairwise (fun x y => sv M x < sv M y) := (hM.l.2.2 (k + 1) (by omega)).2
    have hlt : ∀ t ∈ S.2 (k + 1), t < n := fun t ht => ((hL.2 t).mp ht).1
    have hmem : ∀ t, t < n → ((M 5 t = 4 ∧ M 6 t = nI k) ↔ t ∈ S.2 (k + 1)) := fun t ht => by
      rw [hM.p.line hw (by omega) hk, hL.2]
      exact ⟨fun q => ⟨ht, q⟩, fun q => q.2⟩
    induction m with
    | zero =>
      intro j hj hno
      have hj : j = n := by omega
      subst hj
      have h4 : M 0 1 ≤ nI j := by rw [hM.g.1]; exact (nle (by omega) (by omega)).mpr (by omega)
      refine sR_lineAt_16 F hR (K30 := fun _ _ _ _ _ _ => False) (fun _ _ _ _ _ _ q => q.elim) ⟨fun _ => ⟨rfl, ?_⟩, fun q => absurd h4 q⟩
      unfold lat
      by_cases hy : y < 0
      · rw [if_pos hy]
      · rw [if_neg hy]
        obtain ⟨i, hi, rfl⟩ := nI_of hy
        cases hq : (S.2 (k + 1))[tn (nI i)]? with
        | none => rfl
        | some t =>
          rw [show tn (nI i) = i from nI_clamp hi] at hq
          exact absurd rfl (hno i t (hlt t (List.mem_of_getElem? hq)) hq)
    | succ m ih =>
      intro j hj hno
      have h4 : ¬ M 0 1 ≤ nI j := by rw [hM.g.1]; intro q; have := (nle (by omega) (by omega)).mp q; omega
      have inner : ∀ m2 u, u + m2 = n → wx G (sM D cI cZ a) 6 (Qxi G (sM D cI cZ a) (fun r M' => M' = M ∧ r = lat (S.2 (k + 1)) y)) M 30 [(0, .ref (a 0)), (1, .int (nI k)), (2, .int y), (3, .int (nI j)), (4, .int (nI (cN (fun q => decide (q ∈ S.2 (k + 1) ∧ sv M q < sv M j)) u))), (5, .int (nI u))] [] := by
        intro m2
        induction m2 with
        | zero =>
          intro u hu
          have hu : u = n := by omega
          subst hu
          have h5 : M 0 1 ≤ nI u := by rw [hM.g.1]; exact (nle (by omega) (by omega)).mpr (by omega)
          have next : (∀ i, (S.2 (k + 1))[i]? = some j → ¬ y = nI i) → ∀ i t, t < j + 1 → (S.2 (k + 1))[i]? = some t → ¬ y = nI i := fun q i t ht hit => by
            by_cases e : t = j
            · rw [e] at hit; exact q i hit
            · exact hno i t (by omega) hit
          refine sR_lineAt_30 F hR (K16 := fun M' x1 x2 x3 => M' = M ∧ x1 = nI k ∧ x2 = y ∧ x3 = nI (j + 1) ∧ ∀ i t, t < j + 1 → (S.2 (k + 1))[i]? = some t → ¬ y = nI i) (K30 := fun _ _ _ _ _ _ => False) ?_ (fun _ _ _ _ _ _ q => q.elim) ⟨fun _ => ⟨j, rfl, by omega, fun h6 => ⟨rfl, rfl, rfl, nI_1 j, next (fun i hi => ?_)⟩, fun h6 => ⟨fun h7 => ⟨rfl, rfl, rfl, nI_1 j, next (fun i hi => ?_)⟩, fun h7 => ⟨fun h8 => ⟨rfl, rfl, rfl, nI_1 j, next (fun i hi => ?_)⟩, fun h8 => ⟨rfl, ?_⟩⟩⟩⟩, fun q => absurd h5 q⟩
          · rintro M' x1 x2 x3 ⟨rfl, rfl, h2, rfl, g⟩
            rw [h2]
            exact ih (j + 1) (by omega) g
          · exact absurd ((hmem j (by omega)).mpr (List.mem_of_getElem? hi)).1 h6
          · exact absurd ((hmem j (by omega)).mpr (List.mem_of_getElem? hi)).2 h7
          · intro e
            rw [cN_before hL.1 hlt hpw hi] at h8
            exact h8 e.symm
          · have hin := (hmem j (by omega)).mp ⟨h6, h7⟩
            obtain ⟨i, hi⟩ := List.getElem?_of_mem hin
            rw [cN_before hL.1 hlt hpw hi] at h8
            have hil := (List.getElem?_eq_some_iff.mp hi).1
            unfold lat
            rw [← h8, if_neg (nneg (by omega)), tnI (by omega), hi]
        | succ m2 ih2 =>
          intro u hu
          have h5 : ¬ M 0 1 ≤ nI u := by rw [hM.g.1]; intro q; have := (nle (by omega) (by omega)).mp q; omega
          have hcs : cN (fun q => decide (q ∈ S.2 (k + 1) ∧ sv M q < sv M j)) (u + 1) = cN (fun q => decide (q ∈ S.2 (k + 1) ∧ sv M q < sv M j)) u + if decide (u ∈ S.2 (k + 1) ∧ sv M u < sv M j) = true then 1 else 0 := rfl
          have stay : ¬ (u ∈ S.2 (k + 1) ∧ sv M u < sv M j) → nI (cN (fun q => decide (q ∈ S.2 (k + 1) ∧ sv M q < sv M j)) u) = nI (cN (fun q => decide (q ∈ S.2 (k + 1) ∧ sv M q < sv M j)) (u + 1)) := fun q => by
            have hz : (if decide (u ∈ S.2 (k + 1) ∧ sv M u < sv M j) = true then 1 else 0) = 0 := if_neg (by rw [decide_eq_true_iff]; exact q)
            exact congrArg nI (hcs.trans (congrArg (fun z => cN (fun q => decide (q ∈ S.2 (k + 1) ∧ sv M q < sv M j)) u + z) hz)).symm
          refine sR_lineAt_30 F hR (K16 := fun _ _ _ _ => False) (K30 := fun M' x1 x2 x3 x4 x5 => M' = M ∧ x1 = nI k ∧ x2 = y ∧ x3 = nI j ∧ x4 = nI (cN (fun q => decide (q ∈ S.2 (k + 1) ∧ sv M q < sv M j)) (u + 1)) ∧ x5 = nI (u + 1)) (fun _ _ _ _ q => q.elim) ?_ ⟨fun q => absurd q h5, fun _ => ⟨u, rfl, by omega, fun h6 => ⟨rfl, rfl, rfl, rfl, ?_, nI_1 u⟩, fun h6 => ⟨fun h7 => ⟨rfl, rfl, rfl, rfl, ?_, nI_1 u⟩, fun h7 => ⟨j, rfl, by omega, fun h8 => ⟨rfl, rfl, rfl, rfl, ?_, nI_1 u⟩, fun h8 => ⟨rfl, rfl, rfl, rfl, ?_, nI_1 u⟩⟩⟩⟩⟩
          · rintro M' x1 x2 x3 x4 x5 ⟨rfl, rfl, h2, rfl, rfl, rfl⟩
            rw [h2]
            exact ih2 (u + 1) (by omega)
          · exact stay (fun q => h6 ((hmem u (by omega)).mpr q.1).1)
          · exact stay (fun q => h7 ((hmem u (by omega)).mpr q.1).2)
          · refine stay (fun q => ?_)
            have := (hM.l.le hc (by omega) (by omega)).mp h8
            omega
          · rw [hcs, if_pos, nI_1]
            rw [decide_eq_true_iff]
            have := mt (hM.l.le (t := j) (b := u) hc (by omega) (by omega)).mpr h8
            exact ⟨(hmem u (by omega)).mp ⟨h6, h7⟩, by omega⟩
      refine sR_lineAt_16 F hR (K30 := fun M' x1 x2 x3 x4 x5 => M' = M ∧ x1 = nI k ∧ x2 = y ∧ x3 = nI j ∧ x4 = nI 0 ∧ x5 = nI 0) ?_ ⟨fun q => absurd q h4, fun _ => ⟨rfl, rfl, rfl, rfl, rfl, rfl⟩⟩
      rintro M' x1 x2 x3 x4 x5 ⟨rfl, rfl, h2, rfl, rfl, rfl⟩
      rw [h2]
      exact inner n 0 (by omega)
  refine sR_lineAt_0 F hR (K16 := fun M' x1 x2 x3 => M' = M ∧ x1 = x ∧ x2 = y ∧ x3 = nI 0 ∧ ∃ k, k ≤ w ∧ x = nI k) ?_ ⟨fun h => ⟨rfl, ?_⟩, fun h => ⟨fun h1 => ⟨rfl, rfl, rfl, rfl, ?_⟩, fun h1 => ⟨rfl, ?_⟩⟩⟩
  · rintro M' x1 x2 x3 ⟨rfl, rfl, h2, rfl, k, hk, rfl⟩
    rw [h2, if_pos (isT_nI (by omega) (by omega)), tnI (by omega)]
    exact key k hk n 0 (by omega) (fun i t ht => absurd ht (Nat.not_lt_zero _))
  · rw [if_neg]
    rw [isT, decide_eq_true_iff]
    exact fun q => Int32.not_lt.mpr q.1 h
  · obtain ⟨j, hj, rfl⟩ := nI_of h
    rw [e0] at h1
    exact ⟨j, (nI_leI hj (by omega)).mp h1, rfl⟩
  · rw [if_neg]
    rw [isT, decide_eq_true_iff]
    rintro ⟨q1, q2⟩
    obtain ⟨j, hj, rfl⟩ := lt_tn (by omega) (Int32.not_lt.mpr q1) q2
    rw [e0] at h1
    exact h1 ((nle (by omega) (by omega)).mpr (by omega))
end DR13
