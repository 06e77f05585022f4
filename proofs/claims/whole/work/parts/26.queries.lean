/-! cancel, finish, fail and the queries of the class -/
def s_state (S : SS) : Int32 := if S.1 0 14 = 0 then 0 else if S.1 0 10 = 0 then (if S.1 0 11 = 0 then (if S.1 0 12 = -1 then 3 else 4) else 5) else (if S.1 0 11 = 0 then 1 else 2)
section CE10
variable {l : Launch} {D : va_G} {cI cZ cL cE : ClassId} {a : Nat → Nat} {w n : Nat}
theorem kE_cancel (hJ : IJ (sX D cI cZ cL cE a w)) {S : SS} (M : MM) (hX : RX w S M) (hI : IV w n S) : Ci l (sX D cI cZ cL cE a w) yE_cancel wE_cancel rmE_cancel [.ref (a 0)] M (fun r M' => r = (s_cancel w n S).1 ∧ RX w (s_cancel w n S).2 M') := by
  have hF := hI.1
  have hn := hF.le
  have hw := hF.w4
  have e10 : M 0 10 = S.1 0 10 := hX.at (by decide) 10
  have e11 : M 0 11 = S.1 0 11 := hX.at (by decide) 11
  have no : (S.1 0 10 = 0 ∨ S.1 0 11 ≠ 0) → (-1 : Int32) = (s_cancel w n S).1 ∧ RX w (s_cancel w n S).2 M := fun q => by
    unfold s_cancel
    rw [if_pos q]
    exact ⟨rfl, hX⟩
  refine oE_cancel hJ hw ⟨fun h => no (Or.inl (e10.symm.trans h)), fun h => ⟨fun h1 => ?_, fun h1 => no (Or.inr (by rw [← e11]; exact h1))⟩⟩
  rintro M3 rfl
  have hI1 := IV_sp0 hI (i := 11) (by decide) 1
  have hX1 := hX.sp (k := 0) (by decide) 11 1
  refine ⟨_, kE_dropReadyAndParked hJ _ hX1 hI1.1, ?_⟩
  rintro r M9 ⟨rfl, h9⟩
  have hI2 := IV_drop hI1
  refine ⟨_, kE_endChildlessWaiting hJ hw hn M9 h9 hI2.1.cnt, fun M15 h15 => ?_⟩
  have hI3 := IV_ecw n (Nat.le_refl _) _ hI2
  refine ⟨_, kE_closeRound hJ M15 h15 hI3.1, fun M21 h21 => ?_⟩
  unfold s_cancel
  rw [if_neg]
  · exact ⟨rfl, h21⟩
  · rintro (q | q)
    · exact h (e10.trans q)
    · exact q (e11.symm.trans h1)
theorem kE_finish (hJ : IJ (sX D cI cZ cL cE a w)) {S : SS} (M : MM) (hX : RX w S M) (hI : IV w n S) (x c : Int32) : Ci l (sX D cI cZ cL cE a w) yE_finish wE_finish rmE_finish [.ref (a 0), .int x, .int c] M (fun r M' => r = (s_finish w n S x c).1 ∧ RX w (s_finish w n S x c).2 M') := by
  have hF := hI.1
  have hn := hF.le
  have hw := hF.w4
  have e0 : M 0 0 = nI w := by rw [hX.at (by decide)]; exact hF.h0
  refine oE_finish hJ (fun G hl hR F => ?_)
  subst hl
  have no : (¬ isT w x = true ∨ S.1 37 (tn x) = -1) → (-1 : Int32) = (s_finish w n S x c).1 ∧ RX w (s_finish w n S x c).2 M := fun q => by
    unfold s_finish
    rw [if_pos q]
    exact ⟨rfl, hX⟩
  have s80 : ∀ (k t : Nat) (S2 : SS) (M2 : MM), LV w n S2 t k → JX n S2 t → RX w S2 M2 → s_finish w n S x c = s_fin2 w n S2 t k c → ¬ (S2.1 2 t = 2 ∧ s_act n S2 (nI t) = true) → wx G (sX D cI cZ cL cE a w) 5 (Qxi G (sX D cI cZ cL cE a w) (fun r M' => r = (s_finish w n S x c).1 ∧ RX w (s_finish w n S x c).2 M')) M2 80 [(0, .ref (a 0)), (1, .int (nI k)), (2, .int c), (3, .int (nI t))] [] := by
    intro k t S2 M2 hL hj hX2 hs hq
    obtain ⟨hP, hW⟩ := fin2_PE hL hj hq
    refine sE_finish_80 F hw hR ⟨_, kE_endUpwards hJ M2 hX2 hL.1 hW hP (Nat.le_of_lt hL.2.2.2.2.1) c false 0 rfl, ?_⟩
    rintro r M5 ⟨rfl, h5⟩
    refine ⟨_, kE_closeRound hJ M5 h5 (IV_end hL hW hP c false).1, fun M11 h11 => ?_⟩
    rw [hs]
    unfold s_fin2
    rw [if_neg hq]
    exact ⟨rfl, h11⟩
  have s50 : ∀ (k t : Nat) (S2 : SS) (M2 : MM), LV w n S2 t k → JX n S2 t → RX w S2 M2 → s_finish w n S x c = s_fin2 w n S2 t k c → wx G (sX D cI cZ cL cE a w) 5 (Qxi G (sX D cI cZ cL cE a w) (fun r M' => r = (s_finish w n S x c).1 ∧ RX w (s_finish w n S x c).2 M')) M2 50 [(0, .ref (a 0)), (1, .int (nI k)), (2, .int c), (3, .int (nI t))] [] := by
    intro k t S2 M2 hL hj hX2 hs
    have ht := hL.2.2.2.1
    have e2 : M2 2 t = S2.1 2 t := hX2.at (by decide) t
    refine sE_finish_50 F hw hR (K80 := fun M' x1 x2 x3 => M' = M2 ∧ x1 = nI k ∧ x2 = c ∧ x3 = nI t ∧ ¬ (S2.1 2 t = 2 ∧ s_act n S2 (nI t) = true)) ?_ ⟨t, rfl, by omega, fun h => ⟨rfl, rfl, rfl, rfl, fun q => h (e2.trans q.1)⟩, fun h => ⟨_, kE_hasActiveChild hJ hw hn M2 hX2 hL.1.cnt (nI t), ?_⟩⟩
    · rintro M' x1 x2 x3 ⟨rfl, rfl, h3, rfl, hq⟩
      rw [h3]
      exact s80 k t S2 M' hL hj hX2 hs hq
    · rintro r M' ⟨rfl, rfl⟩
      cases hA : s_act n S2 (nI t) with
      | false => exact ⟨fun _ => ⟨rfl, rfl, rfl, rfl, fun q => Bool.false_ne_true q.2⟩, fun q => absurd rfl q⟩
      | true =>
        refine ⟨fun q => absurd q (by decide), fun _ => ?_⟩
        rintro M13 rfl
        rw [hs]
        unfold s_fin2
        rw [if_pos ⟨e2.symm.trans h, hA⟩]
        exact ⟨rfl, hX2.sp (by decide) _ _⟩
  refine sE_finish_0 F hw hR (K50 := fun M2 x1 x2 x3 => ∃ (k t : Nat) (S2 : SS), x1 = nI k ∧ x2 = c ∧ x3 = nI t ∧ LV w n S2 t k ∧ JX n S2 t ∧ RX w S2 M2 ∧ s_finish w n S x c = s_fin2 w n S2 t k c) ?_ ⟨_, kE_isWorker hJ hw M e0 x, ?_⟩
  · rintro M2 x1 x2 x3 ⟨k, t, S2, rfl, h2, rfl, h4, h5, h6, h7⟩
    rw [h2]
    exact s50 k t S2 M2 h4 h5 h6 h7
  · rintro r M' ⟨rfl, rfl⟩
    cases hT : isT w x with
    | false => exact ⟨fun _ => no (Or.inl (by rw [hT]; exact Bool.false_ne_true)), fun q => absurd rfl q⟩
    | true =>
      obtain ⟨k, hk, rfl⟩ := isT_of (by omega) hT
      have e37 : M' 37 k = S.1 37 k := hX.at (by decide) k
      refine ⟨fun q => absurd q (by decide), fun _ => ⟨k, rfl, hk, fun h1 => ?_, fun h1 => no (Or.inr (by rw [tnI (by omega), ← e37]; exact h1))⟩⟩
      rw [e37] at h1
      obtain ⟨g1, g2⟩ := run_of hI.2.2.1 hn hk h1
      obtain ⟨i1, i2⟩ := LV_leave hI hk g1 g2
      have hs : s_finish w n S (nI k) c = s_fin2 w n (s_fin1 w n (s_leave w S (tn (S.1 37 k)) k) (tn (S.1 37 k)) k) (tn (S.1 37 k)) k c := by
        unfold s_finish
        rw [if_neg, tnI (by omega)]
        rintro (q | q)
        · exact q hT
        · rw [tnI (by omega)] at q; exact h1 q
      obtain ⟨j1, j2⟩ := fin1_inv i1 i2
      refine ⟨_, kE_leaveBody hJ M' hX hF hk g1 g2, ?_⟩
      rintro r M17 ⟨rfl, h17⟩
      have f11 : M17 0 11 = (s_leave w S (tn (S.1 37 k)) k).1 0 11 := h17.at (by decide) 11
      have f2 : M17 2 (tn (S.1 37 k)) = (s_leave w S (tn (S.1 37 k)) k).1 2 (tn (S.1 37 k)) := h17.at (by decide) _
      have stay : ¬ ((s_leave w S (tn (S.1 37 k)) k).1 0 11 = 0 ∧ ((s_leave w S (tn (S.1 37 k)) k).1 2 (tn (S.1 37 k)) = 2 ∨ (s_leave w S (tn (S.1 37 k)) k).1 2 (tn (S.1 37 k)) = 3)) → ∃ (k1 t : Nat) (S2 : SS), nI k = nI k1 ∧ c = c ∧ nI (tn (S.1 37 k)) = nI t ∧ LV w n S2 t k1 ∧ JX n S2 t ∧ RX w S2 M17 ∧ s_finish w n S (nI k) c = s_fin2 w n S2 t k1 c := fun q => by
        have e : s_fin1 w n (s_leave w S (tn (S.1 37 k)) k) (tn (S.1 37 k)) k = s_leave w S (tn (S.1 37 k)) k := if_neg q
        rw [e] at hs j1 j2
        exact ⟨k, _, _, rfl, rfl, rfl, j1, j2, h17, hs⟩
      refine ⟨fun h2 => stay (fun q => h2 (f11.trans q.1)), fun h2 => ⟨_, kG_canHoldChildren hJ hw M17 (t := tn (S.1 37 k)) (by omega), ?_⟩⟩
      rintro r M24 ⟨rfl, rfl⟩
      rw [f2]
      by_cases hk2 : (s_leave w S (tn (S.1 37 k)) k).1 2 (tn (S.1 37 k)) = 2 ∨ (s_leave w S (tn (S.1 37 k)) k).1 2 (tn (S.1 37 k)) = 3
      · rw [if_pos hk2]
        refine ⟨fun q => absurd q (by decide), fun _ => ⟨_, kE_spawn hJ M24 h17 i1.1 g1 (Nat.le_of_lt hk), fun M31 h31 => ?_⟩⟩
        have e : s_fin1 w n (s_leave w S (tn (S.1 37 k)) k) (tn (S.1 37 k)) k = s_spawn w n (s_leave w S (tn (S.1 37 k)) k) (tn (S.1 37 k)) k := if_pos ⟨f11.symm.trans h2, hk2⟩
        rw [e] at hs j1 j2
        exact ⟨k, _, _, rfl, rfl, rfl, j1, j2, h31, hs⟩
      · rw [if_neg hk2]
        exact ⟨fun _ => stay (fun q => hk2 q.2), fun q => absurd rfl q⟩
theorem kE_fail (hJ : IJ (sX D cI cZ cL cE a w)) {S : SS} (M : MM) (hX : RX w S M) (hI : IV w n S) (x : Int32) : Ci l (sX D cI cZ cL cE a w) yE_fail wE_fail rmE_fail [.ref (a 0), .int x] M (fun r M' => r = (s_fail w n S x).1 ∧ RX w (s_fail w n S x).2 M') := by
  have hF := hI.1
  have hn := hF.le
  have hw := hF.w4
  have e0 : M 0 0 = nI w := by rw [hX.at (by decide)]; exact hF.h0
  have no : (¬ isT w x = true ∨ S.1 37 (tn x) = -1) → (-1 : Int32) = (s_fail w n S x).1 ∧ RX w (s_fail w n S x).2 M := fun q => by
    unfold s_fail
    rw [if_pos q]
    exact ⟨rfl, hX⟩
  refine oE_fail hJ hw ⟨_, kE_isWorker hJ hw M e0 x, ?_⟩
  rintro r M' ⟨rfl, rfl⟩
  cases hT : isT w x with
  | false => exact ⟨fun _ => no (Or.inl (by rw [hT]; exact Bool.false_ne_true)), fun q => absurd rfl q⟩
  | true =>
    obtain ⟨k, hk, rfl⟩ := isT_of (by omega) hT
    have e37 : M' 37 k = S.1 37 k := hX.at (by decide) k
    refine ⟨fun q => absurd q (by decide), fun _ => ⟨k, rfl, hk, fun h1 => ?_, fun h1 => no (Or.inr (by rw [tnI (by omega), ← e37]; exact h1))⟩⟩
    rw [e37] at h1
    obtain ⟨g1, g2⟩ := run_of hI.2.2.1 hn hk h1
    obtain ⟨i1, i2⟩ := LV_leave hI hk g1 g2
    have hs : s_fail w n S (nI k) = s_fai2 w n (s_fai1 (s_leave w S (tn (S.1 37 k)) k) (tn (S.1 37 k))) (tn (S.1 37 k)) k := by
      unfold s_fail
      rw [if_neg, tnI (by omega)]
      rintro (q | q)
      · exact q hT
      · rw [tnI (by omega)] at q; exact h1 q
    obtain ⟨j1, j2, j3⟩ := fai1_inv i1 i2
    refine ⟨_, kE_leaveBody hJ M' hX hF hk g1 g2, ?_⟩
    rintro r M17 ⟨rfl, h17⟩
    have f12 : M17 0 12 = (s_leave w S (tn (S.1 37 k)) k).1 0 12 := h17.at (by decide) 12
    have tail : ∀ M2, RX w (s_fai1 (s_leave w S (tn (S.1 37 k)) k) (tn (S.1 37 k))) M2 → ∃ po : Int32 → MM → Prop, Ci l (sX D cI cZ cL cE a w) yE_endUpwards wE_endUpwards rmE_endUpwards [.ref (a 0), .int (nI (tn (S.1 37 k))), .int 1, .int (-1), .int (nI k)] M2 po ∧ ∀ (r : Int32) (M3 : MM), po r M3 → (∃ po2 : MM → Prop, Cv l (sX D cI cZ cL cE a w) yE_closeRound wE_closeRound rmE_closeRound [.ref (a 0)] M3 po2 ∧ ∀ (M4 : MM), po2 M4 → (r = (s_fail w n S (nI k)).1 ∧ RX w (s_fail w n S (nI k)).2 M4)) := fun M2 hM2 => by
      refine ⟨_, kE_endUpwards hJ M2 hM2 j1.1 j2 j3 (Nat.le_of_lt hk) (-1) true 1 rfl, ?_⟩
      rintro r M3 ⟨rfl, h3⟩
      refine ⟨_, kE_closeRound hJ M3 h3 (IV_end j1 j2 j3 (-1) true).1, fun M4 h4 => ?_⟩
      rw [hs]
      exact ⟨rfl, h4⟩
    refine ⟨fun h2 => tail M17 ?_, fun h2 => ?_⟩
    · have e : s_fai1 (s_leave w S (tn (S.1 37 k)) k) (tn (S.1 37 k)) = s_leave w S (tn (S.1 37 k)) k := if_neg (fun q => h2 (f12.trans q))
      rw [e]
      exact h17
    · rintro M32 rfl
      refine tail _ ?_
      have e : s_fai1 (s_leave w S (tn (S.1 37 k)) k) (tn (S.1 37 k)) = sp (s_leave w S (tn (S.1 37 k)) k) 0 12 (nI (tn (S.1 37 k))) := if_pos (f12.symm.trans h2)
      rw [e]
      exact h17.sp (by decide) _ _
theorem kE_state (hJ : IJ (sX D cI cZ cL cE a w)) (hw : w ≤ 4) {S : SS} (M : MM) (hX : RX w S M) : Ci l (sX D cI cZ cL cE a w) yE_state wE_state rmE_state [.ref (a 0)] M (fun r M' => M' = M ∧ r = s_state S) := by
  have e10 : M 0 10 = S.1 0 10 := hX.at (by decide) 10
  have e11 : M 0 11 = S.1 0 11 := hX.at (by decide) 11
  have e12 : M 0 12 = S.1 0 12 := hX.at (by decide) 12
  have e14 : M 0 14 = S.1 0 14 := hX.at (by decide) 14
  unfold s_state
  refine oE_state hJ hw ?_
  rw [e10, e11, e12, e14]
  refine ⟨fun h => ⟨fun h1 => ⟨fun h2 => ⟨fun h3 => ?_, fun h3 => ?_⟩, fun h2 => ?_⟩, fun h1 => ⟨fun h2 => ?_, fun h2 => ?_⟩⟩, fun h => ?_⟩
  · rw [if_neg h, if_pos h1, if_pos h2, if_pos h3]; exact ⟨rfl, rfl⟩
  · rw [if_neg h, if_pos h1, if_pos h2, if_neg h3]; exact ⟨rfl, rfl⟩
  · rw [if_neg h, if_pos h1, if_neg h2]; exact ⟨rfl, rfl⟩
  · rw [if_neg h, if_neg h1, if_pos h2]; exact ⟨rfl, rfl⟩
  · rw [if_neg h, if_neg h1, if_neg h2]; exact ⟨rfl, rfl⟩
  · rw [if_pos h]; exact ⟨rfl, rfl⟩
theorem kE_thrower (hJ : IJ (sX D cI cZ cL cE a w)) (hw : w ≤ 4) {S : SS} (M : MM) (hX : RX w S M) : Ci l (sX D cI cZ cL cE a w) yE_thrower wE_thrower rmE_thrower [.ref (a 0)] M (fun r M' => M' = M ∧ r = S.1 0 12) := oE_thrower hJ hw ⟨rfl, hX.at (by decide) 12⟩
theorem kE_round (hJ : IJ (sX D cI cZ cL cE a w)) (hw : w ≤ 4) {S : SS} (M : MM) (hX : RX w S M) : Ci l (sX D cI cZ cL cE a w) yE_round wE_round rmE_round [.ref (a 0)] M (fun r M' => M' = M ∧ r = S.1 0 14) := oE_round hJ hw ⟨rfl, hX.at (by decide) 14⟩
theorem kE_lost (hJ : IJ (sX D cI cZ cL cE a w)) (hw : w ≤ 4) {S : SS} (M : MM) (hX : RX w S M) : Ci l (sX D cI cZ cL cE a w) yE_lost wE_lost rmE_lost [.ref (a 0)] M (fun r M' => M' = M ∧ r = S.1 0 15) := oE_lost hJ hw ⟨rfl, hX.at (by decide) 15⟩
theorem kE_steals (hJ : IJ (sX D cI cZ cL cE a w)) (hw : w ≤ 4) {S : SS} (M : MM) (hX : RX w S M) : Ci l (sX D cI cZ cL cE a w) yE_steals wE_steals rmE_steals [.ref (a 0)] M (fun r M' => M' = M ∧ r = S.1 0 16) := oE_steals hJ hw ⟨rfl, hX.at (by decide) 16⟩
theorem kE_runs (hJ : IJ (sX D cI cZ cL cE a w)) {S : SS} (M : MM) (hX : RX w S M) (hF : WF w n S) (x : Int32) : Ci l (sX D cI cZ cL cE a w) yE_runs wE_runs rmE_runs [.ref (a 0), .int x] M (fun r M' => M' = M ∧ r = if isT n x = true then S.1 40 (tn x) else 0) := by
  have hn := hF.le
  refine oE_runs hJ hF.w4 ⟨_, kG_isTask hJ hF.w4 hn M (by rw [hX.at (by decide)]; exact hF.cnt) x, ?_⟩
  rintro r M' ⟨rfl, rfl⟩
  cases hT : isT n x with
  | false => exact ⟨fun _ => ⟨rfl, rfl⟩, fun q => absurd rfl q⟩
  | true =>
    obtain ⟨t, ht, rfl⟩ := isT_of (by omega) hT
    refine ⟨fun q => absurd q (by decide), fun _ => ⟨t, rfl, by omega, rfl, ?_⟩⟩
    rw [if_pos rfl, tnI (by omega)]
    exact hX.at (by decide) t
theorem kE_arrivals (hJ : IJ (sX D cI cZ cL cE a w)) {S : SS} (M : MM) (hX : RX w S M) (hF : WF w n S) (x : Int32) : Ci l (sX D cI cZ cL cE a w) yE_arrivals wE_arrivals rmE_arrivals [.ref (a 0), .int x] M (fun r M' => M' = M ∧ r = if ¬ S.1 0 10 = 0 ∧ isT n x = true then S.1 39 (tn x) else 0) := by
  have hn := hF.le
  have e10 : M 0 10 = S.1 0 10 := hX.at (by decide) 10
  refine oE_arrivals hJ hF.w4 ⟨fun h => ⟨rfl, by rw [if_neg (fun q => q.1 (e10.symm.trans h))]⟩, fun h => ⟨_, kG_isTask hJ hF.w4 hn M (by rw [hX.at (by decide)]; exact hF.cnt) x, ?_⟩⟩
  rintro r M' ⟨rfl, rfl⟩
  cases hT : isT n x with
  | false => exact ⟨fun _ => ⟨rfl, by rw [if_neg (fun q => Bool.false_ne_true q.2)]⟩, fun q => absurd rfl q⟩
  | true =>
    obtain ⟨t, ht, rfl⟩ := isT_of (by omega) hT
    refine ⟨fun q => absurd q (by decide), fun _ => ⟨t, rfl, by omega, rfl, ?_⟩⟩
    rw [if_pos ⟨fun q => h (e10.trans q), rfl⟩, tnI (by omega)]
    exact hX.at (by decide) t
theorem kE_where (hJ : IJ (sX D cI cZ cL cE a w)) {S : SS} (M : MM) (hX : RX w S M) (hF : WF w n S) (x : Int32) : Ci l (sX D cI cZ cL cE a w) yE_where wE_where rmE_where [.ref (a 0), .int x] M (fun r M' => M' = M ∧ r = if isT n x = true then S.1 38 (tn x) else -1) := by
  have hn := hF.le
  refine oE_where hJ hF.w4 ⟨_, kG_isTask hJ hF.w4 hn M (by rw [hX.at (by decide)]; exact hF.cnt) x, ?_⟩
  rintro r M' ⟨rfl, rfl⟩
  cases hT : isT n x with
  | false => exact ⟨fun _ => ⟨rfl, rfl⟩, fun q => absurd rfl q⟩
  | true =>
    obtain ⟨t, ht, rfl⟩ := isT_of (by omega) hT
    refine ⟨fun q => absurd q (by decide), fun _ => ⟨t, rfl, by omega, rfl, ?_⟩⟩
    rw [if_pos rfl, tnI (by omega)]
    exact hX.at (by decide) t
theorem kE_held (hJ : IJ (sX D cI cZ cL cE a w)) (hw : w ≤ 4) {S : SS} (M : MM) (hX : RX w S M) (x : Int32) : Ci l (sX D cI cZ cL cE a w) yE_held wE_held rmE_held [.ref (a 0), .int x] M (fun r M' => M' = M ∧ r = if isT 4 x = true then S.1 36 (tn x) else 0) := by
  refine oE_held hJ hw ⟨_, kE_isSemaphore hJ hw M x, ?_⟩
  rintro r M' ⟨rfl, rfl⟩
  cases hT : isT 4 x with
  | false => exact ⟨fun _ => ⟨rfl, rfl⟩, fun q => absurd rfl q⟩
  | true =>
    obtain ⟨t, ht, rfl⟩ := isT_of (by omega) hT
    refine ⟨fun q => absurd q (by decide), fun _ => ⟨t, rfl, by omega, rfl, ?_⟩⟩
    rw [if_pos rfl, tnI (by omega)]
    exact hX.at (by decide) t
theorem kE_lineAt (hJ : IJ (sX D cI cZ cL cE a w)) {S : SS} (M : MM) (hX : RX w S M) (hF : WF w n S) (x y : Int32) : Ci l (sX D cI cZ cL cE a w) yE_lineAt wE_lineAt rmE_lineAt [.ref (a 0), .int x, .int y] M (fun r M' => M' = M ∧ r = if isT (w + 1) x = true then lat (S.2 (tn x + 1)) y else -1) := by
  have hn := hF.le
  have hw := hF.w4
  have e0 : M 0 0 = nI w := by rw [hX.at (by decide)]; exact hF.h0
  refine oE_lineAt hJ hw ⟨fun h => ⟨rfl, ?_⟩, fun h => ⟨fun h1 => ?_, fun h1 => ⟨rfl, ?_⟩⟩⟩
  · rw [if_neg]
    rw [isT, decide_eq_true_iff]
    exact fun q => Int32.not_lt.mpr q.1 h
  · obtain ⟨j, hj, rfl⟩ := nI_of h
    rw [e0] at h1
    have h2 := (nI_leI hj (by omega)).mp h1
    have hlen := hF.ln.len (l := j + 1) (by omega)
    refine ⟨j, rfl, by omega, _, kL_taskAt hJ hw (i := j + 1) (by omega) M (hX.2 (j + 1) (by omega)) (by omega) y, ?_⟩
    rintro r M' ⟨rfl, rfl⟩
    refine ⟨rfl, ?_⟩
    rw [if_pos (isT_nI (by omega) (by omega)), tnI (by omega)]
  · rw [if_neg]
    rw [isT, decide_eq_true_iff]
    rintro ⟨q1, q2⟩
    obtain ⟨j, hj, rfl⟩ := lt_tn (by omega) (Int32.not_lt.mpr q1) q2
    rw [e0] at h1
    exact h1 ((nle (by omega) (by omega)).mpr (by omega))
end CE10
