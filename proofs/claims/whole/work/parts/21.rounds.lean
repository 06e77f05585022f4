/-! Rounds, cancel, finish, fail -/
def s_fill (S : SS) (k : Nat) : SS := (va_up S.1 k (fun i => if i < 24 then 0 else S.1 k i), S.2)
theorem s_fill_at (S : SS) (k k' i : Nat) : (s_fill S k).1 k' i = if k' = k ∧ i < 24 then 0 else S.1 k' i := by
  unfold s_fill va_up
  by_cases h : k' = k
  · subst h
    simp
  · simp [h]
theorem kp1_fill {w n : Nat} (S : SS) {k : Nat} (hk : 39 ≤ k) : kp1 w n S (s_fill S k) := by
  have e : ∀ k', k' ≠ k → (s_fill S k).1 k' = S.1 k' := fun k' h => by
    funext i
    rw [s_fill_at, if_neg (fun q => h q.1)]
  exact ⟨fun k' _ h => e k' (by omega), by rw [e 0 (by omega)], fun h => LN_eq h rfl (e 38 (by omega))⟩
theorem RX.fill {w : Nat} {S : SS} {M : MM} (h : RX w S M) {k : Nat} (hk : k < 43) : RX w (s_fill S k) (va_up M k (fun i => if i < 24 then 0 else M k i)) := by
  refine ⟨fun k' hk' => ?_, fun l hl => ?_⟩
  · show va_up M k _ k' = va_up S.1 k _ k'
    unfold va_up
    by_cases e : k' = k
    · rw [if_pos e, if_pos e, h.1 k hk]
    · rw [if_neg e, if_neg e, h.1 k' hk']
  · refine lnm_eq ?_ ?_ (h.2 l hl)
    · unfold va_up; rw [if_neg (by omega)]
    · unfold va_up; rw [if_neg (by omega)]
def s_round0 (S : SS) : SS := s_fill (sp S 0 14 (S.1 0 14 + 1)) 39
def s_round (w n : Nat) (S : SS) : SS := s_srcs w (-1) w (s_round0 S) n
def s_close (w n : Nat) (S : SS) : SS := if s_any n S = true then S else if S.1 0 11 ≠ 0 ∨ S.1 0 12 ≠ -1 ∨ ¬ S.1 0 14 < S.1 0 13 then sp S 0 10 0 else s_round w n S
theorem kp1_round0 {w n : Nat} (S : SS) : kp1 w n S (s_round0 S) := (kp1_sp0 S (by decide) _).tr (kp1_fill _ (by decide))
theorem kp1_round {w n : Nat} (hw : w ≤ 4) (S : SS) : kp1 w n S (s_round w n S) := (kp1_round0 S).tr (kp1_srcs hw _ _ (Nat.le_refl _) (Nat.le_refl _))
theorem kp1_close {w n : Nat} (hw : w ≤ 4) (S : SS) : kp1 w n S (s_close w n S) := by
  unfold s_close
  by_cases h : s_any n S = true
  · rw [if_pos h]; exact kp1.rf w n S
  · rw [if_neg h]
    by_cases h2 : S.1 0 11 ≠ 0 ∨ S.1 0 12 ≠ -1 ∨ ¬ S.1 0 14 < S.1 0 13
    · rw [if_pos h2]; exact kp1_sp0 S (by decide) _
    · rw [if_neg h2]; exact kp1_round hw S
def pl (x : Int32) : Bool := decide (x = 1 ∨ ¬ x < 10)
def s_drp (S : SS) : Nat → Nat × SS
  | 0 => (0, S)
  | m + 1 => if pl (S.1 38 m) = true then ((s_drp S m).1 + 1, sp (s_drp S m).2 38 m 0) else s_drp S m
theorem s_drp_at (S : SS) : ∀ m k i, (s_drp S m).2.1 k i = if k = 38 ∧ i < m ∧ pl (S.1 38 i) = true then 0 else S.1 k i := by
  intro m
  induction m with
  | zero => intro k i; rw [if_neg (by omega)]; rfl
  | succ m ih =>
    intro k i
    unfold s_drp
    by_cases hb : pl (S.1 38 m) = true
    · rw [if_pos hb]
      show (sp (s_drp S m).2 38 m 0).1 k i = _
      rw [sp_r, ih]
      by_cases e : k = 38 ∧ i = m
      · obtain ⟨rfl, rfl⟩ := e
        rw [if_pos ⟨rfl, rfl⟩, if_pos ⟨rfl, by omega, hb⟩]
      · rw [if_neg e]
        by_cases e2 : k = 38 ∧ i < m ∧ pl (S.1 38 i) = true
        · rw [if_pos e2, if_pos ⟨e2.1, by omega, e2.2.2⟩]
        · rw [if_neg e2, if_neg (fun q => e2 ⟨q.1, by have : i ≠ m := fun r => e ⟨q.1, r⟩; omega, q.2.2⟩)]
    · rw [if_neg hb, ih]
      by_cases e2 : k = 38 ∧ i < m ∧ pl (S.1 38 i) = true
      · rw [if_pos e2, if_pos ⟨e2.1, by omega, e2.2.2⟩]
      · rw [if_neg e2, if_neg (fun q => e2 ⟨q.1, by have : i ≠ m := fun r => hb (r ▸ q.2.2); omega, q.2.2⟩)]
theorem s_drp_l (S : SS) : ∀ m, (s_drp S m).2.2 = S.2 := by
  intro m
  induction m with
  | zero => rfl
  | succ m ih =>
    unfold s_drp
    by_cases hb : pl (S.1 38 m) = true
    · rw [if_pos hb]; exact ih
    · rw [if_neg hb]; exact ih
theorem s_drp_le (S : SS) : ∀ m, (s_drp S m).1 ≤ m := by
  intro m
  induction m with
  | zero => exact Nat.le_refl _
  | succ m ih =>
    unfold s_drp
    by_cases hb : pl (S.1 38 m) = true
    · rw [if_pos hb]; exact Nat.succ_le_succ ih
    · rw [if_neg hb]; omega
def s_nol (w : Nat) (S : SS) : SS := (S.1, fun l => if l < w + 2 then [] else S.2 l)
def s_drop (w n : Nat) (S : SS) : Nat × SS := ((s_drp S n).1, s_nol w (s_drp S n).2)
def s_ecw (n : Nat) : Nat → SS → SS
  | 0, S => S
  | m + 1, S => s_ecw n m (if S.1 38 m = 2 ∧ ¬ s_act n S (nI m) = true then sp S 38 m 0 else S)
def s_cancel (w n : Nat) (S : SS) : Int32 × SS := if S.1 0 10 = 0 ∨ S.1 0 11 ≠ 0 then (-1, S) else (nI (s_drop w n (sp S 0 11 1)).1, s_close w n (s_ecw n n (s_drop w n (sp S 0 11 1)).2))
def s_fin2 (w n : Nat) (S2 : SS) (t wk : Nat) (c : Int32) : Int32 × SS :=
  if S2.1 2 t = 2 ∧ s_act n S2 (nI t) = true then (0, sp S2 38 t 2) else (nI (s_end w n c wk 4 S2 t false).1, s_close w n (s_end w n c wk 4 S2 t false).2)
def s_fin1 (w n : Nat) (S1 : SS) (t wk : Nat) : SS := if S1.1 0 11 = 0 ∧ (S1.1 2 t = 2 ∨ S1.1 2 t = 3) then s_spawn w n S1 t wk else S1
def s_finish (w n : Nat) (S : SS) (x c : Int32) : Int32 × SS :=
  if ¬ isT w x = true ∨ S.1 37 (tn x) = -1 then (-1, S)
  else s_fin2 w n (s_fin1 w n (s_leave w S (tn (S.1 37 (tn x))) (tn x)) (tn (S.1 37 (tn x))) (tn x)) (tn (S.1 37 (tn x))) (tn x) c
def s_fai1 (S1 : SS) (t : Nat) : SS := if S1.1 0 12 = -1 then sp S1 0 12 (nI t) else S1
def s_fai2 (w n : Nat) (S2 : SS) (t wk : Nat) : Int32 × SS := (nI (s_end w n (-1) wk 4 S2 t true).1, s_close w n (s_end w n (-1) wk 4 S2 t true).2)
def s_fail (w n : Nat) (S : SS) (x : Int32) : Int32 × SS :=
  if ¬ isT w x = true ∨ S.1 37 (tn x) = -1 then (-1, S)
  else s_fai2 w n (s_fai1 (s_leave w S (tn (S.1 37 (tn x))) (tn x)) (tn (S.1 37 (tn x)))) (tn (S.1 37 (tn x))) (tn x)
section CE7
variable {l : Launch} {D : va_G} {cI cZ cL cE : ClassId} {a : Nat → Nat} {w n : Nat}
theorem kE_beginRound (hJ : IJ (sX D cI cZ cL cE a w)) {S : SS} (M : MM) (hX : RX w S M) (hF : WF w n S) : Cv l (sX D cI cZ cL cE a w) yE_beginRound wE_beginRound rmE_beginRound [.ref (a 0)] M (fun M' => RX w (s_round w n S) M') := by
  have hw := hF.w4
  have e14 : M 0 14 = S.1 0 14 := hX.at (by decide) 14
  refine oE_beginRound hJ hw ?_
  rintro M1 rfl
  refine ⟨_, kA_fill hJ hw _ (k := 39) (Or.inl rfl) 0, ?_⟩
  rintro M7 rfl
  rw [e14]
  have hX2 := (hX.sp (k := 0) (by decide) 14 (S.1 0 14 + 1)).fill (k := 39) (by decide)
  have hF2 := hF.k (kp1_round0 S)
  have e0 : va_up (mp M 0 14 (S.1 0 14 + 1)) 39 (fun i => if i < 24 then 0 else mp M 0 14 (S.1 0 14 + 1) 39 i) 0 0 = nI w := by
    rw [hX2.at (by decide)]
    exact hF2.h0
  rw [e0]
  exact ⟨_, kE_sendToSources hJ hw _ hX2 hF2.h0 hF2.g hF2.ln (-1) (Nat.le_refl w), fun M13 h => h⟩
theorem kE_closeRound (hJ : IJ (sX D cI cZ cL cE a w)) {S : SS} (M : MM) (hX : RX w S M) (hF : WF w n S) : Cv l (sX D cI cZ cL cE a w) yE_closeRound wE_closeRound rmE_closeRound [.ref (a 0)] M (fun M' => RX w (s_close w n S) M') := by
  have hw := hF.w4
  have e11 : M 0 11 = S.1 0 11 := hX.at (by decide) 11
  have e12 : M 0 12 = S.1 0 12 := hX.at (by decide) 12
  have e13 : M 0 13 = S.1 0 13 := hX.at (by decide) 13
  have e14 : M 0 14 = S.1 0 14 := hX.at (by decide) 14
  refine oE_closeRound hJ hw ⟨_, kE_hasActiveTask hJ hw hF.le M hX hF.cnt, ?_⟩
  rintro r M5 ⟨rfl, rfl⟩
  unfold s_close
  cases hA : s_any n S with
  | true => exact ⟨fun q => absurd q (by decide), fun _ => by rw [if_pos rfl]; exact hX⟩
  | false =>
    rw [if_neg Bool.false_ne_true]
    refine ⟨fun _ => ⟨fun h1 => ?_, fun h1 => ⟨fun h2 => ?_, fun h2 => ⟨fun h3 => ⟨_, kE_beginRound hJ M5 hX hF, fun M19 h => ?_⟩, fun h3 => ?_⟩⟩⟩, fun q => absurd rfl q⟩
    · rintro M9 rfl
      rw [if_pos (Or.inl (by rw [← e11]; exact h1))]
      exact hX.sp (by decide) _ _
    · rintro M9 rfl
      rw [if_pos (Or.inr (Or.inl (by rw [← e12]; exact h2)))]
      exact hX.sp (by decide) _ _
    · have hc : ¬ (S.1 0 11 ≠ 0 ∨ S.1 0 12 ≠ -1 ∨ ¬ S.1 0 14 < S.1 0 13) := by
        rintro (q | q | q)
        · exact q (e11.symm.trans h1)
        · exact q (e12.symm.trans h2)
        · exact q (by rw [← e13, ← e14]; exact h3)
      rw [if_neg hc]
      exact h
    · rintro M9 rfl
      rw [if_pos (Or.inr (Or.inr (by rw [← e13, ← e14]; exact h3)))]
      exact hX.sp (by decide) _ _
theorem kE_dropReadyAndParked (hJ : IJ (sX D cI cZ cL cE a w)) {S : SS} (M : MM) (hX : RX w S M) (hF : WF w n S) : Ci l (sX D cI cZ cL cE a w) yE_dropReadyAndParked wE_dropReadyAndParked rmE_dropReadyAndParked [.ref (a 0)] M (fun r M' => r = nI (s_drop w n S).1 ∧ RX w (s_drop w n S).2 M') := by
  have hn := hF.le
  have hw := hF.w4
  refine oE_dropReadyAndParked hJ (fun G hl hR F => ?_)
  subst hl
  have lp2 : ∀ m j M', j + m = w + 1 → (∀ k, k < 43 → M' k = (s_drp S n).2.1 k) → (∀ i, i < j → M' (43 + 2 * (i + 1)) 1 = 0) → wx G (sX D cI cZ cL cE a w) 3 (Qxi G (sX D cI cZ cL cE a w) (fun r M' => r = nI (s_drop w n S).1 ∧ RX w (s_drop w n S).2 M')) M' 54 [(0, .ref (a 0)), (1, .int (nI (s_drp S n).1)), (2, .int (nI j))] [] := by
    intro m
    induction m with
    | zero =>
      intro j M' hj h1 h2
      have e0 : M' 0 0 = nI w := by rw [h1 0 (by decide), s_drp_at, if_neg (by omega)]; exact hF.h0
      have h4 : M' 0 0 < nI j := by rw [e0]; exact (nlt (by omega) (by omega)).mpr (by omega)
      refine sE_dropReadyAndParked_54 F hw hR (K54 := fun _ _ _ => False) (fun _ _ _ q => q.elim) ⟨fun _ => ?_, fun q => absurd h4 q⟩
      rintro M2 rfl
      refine ⟨rfl, fun k hk => ?_, fun l hl => ?_⟩
      · rw [mp_ne _ _ _ _ (by omega)]
        exact h1 k hk
      · show lnm _ l (if l < w + 2 then [] else _)
        rw [if_pos hl]
        refine ⟨?_, fun j t q => by cases q⟩
        rw [mp_at]
        by_cases e : l = 0
        · subst e; rw [if_pos ⟨rfl, rfl⟩]; rfl
        · rw [if_neg (by omega)]
          have := h2 (l - 1) (by omega)
          rw [show l - 1 + 1 = l by omega] at this
          exact this
    | succ m ih =>
      intro j M' hj h1 h2
      have e0 : M' 0 0 = nI w := by rw [h1 0 (by decide), s_drp_at, if_neg (by omega)]; exact hF.h0
      have h4 : ¬ M' 0 0 < nI j := by rw [e0]; intro q; have := (nlt (by omega) (by omega)).mp q; omega
      refine sE_dropReadyAndParked_54 F hw hR (K54 := fun M2 x1 x2 => x1 = nI (s_drp S n).1 ∧ x2 = nI (j + 1) ∧ M2 = mp M' (43 + 2 * (j + 1)) 1 0) ?_ ⟨fun q => absurd q h4, fun _ => ⟨j, rfl, by omega, ?_⟩⟩
      · rintro M2 x1 x2 ⟨rfl, rfl, rfl⟩
        refine ih (j + 1) _ (by omega) (fun k hk => ?_) (fun i hi => ?_)
        · rw [mp_ne _ _ _ _ (by omega)]
          exact h1 k hk
        · rw [mp_at]
          by_cases e : i = j
          · subst e; rw [if_pos ⟨rfl, rfl⟩]
          · rw [if_neg (by omega)]
            exact h2 i (by omega)
      · rintro M2 rfl
        exact ⟨rfl, nI_1 j, rfl⟩
  have lp1 : ∀ m j M', j + m = n → RX w (s_drp S j).2 M' → wx G (sX D cI cZ cL cE a w) 3 (Qxi G (sX D cI cZ cL cE a w) (fun r M' => r = nI (s_drop w n S).1 ∧ RX w (s_drop w n S).2 M')) M' 4 [(0, .ref (a 0)), (1, .int (nI (s_drp S j).1)), (2, .int (nI j))] [] := by
    intro m
    induction m with
    | zero =>
      intro j M' hj hX'
      have hj : j = n := by omega
      subst hj
      have e1 : M' 1 0 = nI j := by rw [hX'.at (by decide), s_drp_at, if_neg (by omega)]; exact hF.cnt
      have h4 : M' 1 0 ≤ nI j := by rw [e1]; exact (nle (by omega) (by omega)).mpr (by omega)
      refine sE_dropReadyAndParked_4 F hw hR (K4 := fun _ _ _ => False) (K54 := fun M2 x1 x2 => M2 = M' ∧ x1 = nI (s_drp S j).1 ∧ x2 = nI 0) (fun _ _ _ q => q.elim) ?_ ⟨fun _ => ⟨rfl, rfl, rfl⟩, fun q => absurd h4 q⟩
      rintro M2 x1 x2 ⟨rfl, rfl, rfl⟩
      exact lp2 (w + 1) 0 M2 (by omega) hX'.1 (fun i hi => absurd hi (Nat.not_lt_zero _))
    | succ m ih =>
      intro j M' hj hX'
      have hle := s_drp_le S j
      have e1 : M' 1 0 = nI n := by rw [hX'.at (by decide), s_drp_at, if_neg (by omega)]; exact hF.cnt
      have h4 : ¬ M' 1 0 ≤ nI j := by rw [e1]; intro q; have := (nle (by omega) (by omega)).mp q; omega
      have e38 : M' 38 j = S.1 38 j := by rw [hX'.at (by decide), s_drp_at, if_neg (by omega)]
      have ed : s_drp S (j + 1) = if pl (S.1 38 j) = true then ((s_drp S j).1 + 1, sp (s_drp S j).2 38 j 0) else s_drp S j := rfl
      refine sE_dropReadyAndParked_4 F hw hR (K4 := fun M2 x1 x2 => x1 = nI (s_drp S (j + 1)).1 ∧ x2 = nI (j + 1) ∧ RX w (s_drp S (j + 1)).2 M2) (K54 := fun _ _ _ => False) ?_ (fun _ _ _ q => q.elim) ⟨fun q => absurd q h4, fun _ => ⟨j, rfl, by omega, fun h5 => ?_, fun h5 => ⟨fun h6 => ?_, fun h6 => ?_⟩⟩⟩
      · rintro M2 x1 x2 ⟨rfl, rfl, hh⟩
        exact ih (j + 1) M2 (by omega) hh
      · rintro M7 rfl
        rw [ed, if_pos (by rw [pl, decide_eq_true_iff, ← e38]; exact Or.inl h5)]
        exact ⟨nI_1 _, nI_1 j, hX'.sp (by decide) _ _⟩
      · rw [ed, if_neg (by rw [pl, decide_eq_true_iff, ← e38]; exact fun q => q.elim h5 (fun z => z h6))]
        exact ⟨rfl, nI_1 j, hX'⟩
      · rintro M7 rfl
        rw [ed, if_pos (by rw [pl, decide_eq_true_iff, ← e38]; exact Or.inr h6)]
        exact ⟨nI_1 _, nI_1 j, hX'.sp (by decide) _ _⟩
  refine sE_dropReadyAndParked_0 F hw hR (K4 := fun M' x1 x2 => M' = M ∧ x1 = nI 0 ∧ x2 = nI 0) ?_ ⟨rfl, rfl, rfl⟩
  rintro M' x1 x2 ⟨rfl, rfl, rfl⟩
  exact lp1 n 0 M' (by omega) hX
theorem kE_endChildlessWaiting (hJ : IJ (sX D cI cZ cL cE a w)) (hw : w ≤ 4) (hn : n ≤ 24) {S : SS} (M : MM) (hX : RX w S M) (hc : S.1 1 0 = nI n) : Cv l (sX D cI cZ cL cE a w) yE_endChildlessWaiting wE_endChildlessWaiting rmE_endChildlessWaiting [.ref (a 0)] M (fun M' => RX w (s_ecw n n S) M') := by
  refine oE_endChildlessWaiting hJ (fun G hl hR F => ?_)
  subst hl
  have lp : ∀ m, m ≤ n → ∀ (S1 : SS) (M' : MM) (x : Int32), x = nI m - 1 → RX w S1 M' → S1.1 1 0 = nI n → s_ecw n m S1 = s_ecw n n S → wx G (sX D cI cZ cL cE a w) 2 (Qxv G (sX D cI cZ cL cE a w) (fun M' => RX w (s_ecw n n S) M')) M' 10 [(0, .ref (a 0)), (1, .int x)] [] := by
    intro m
    induction m with
    | zero =>
      intro _ S1 M' x hx hX' _ hs
      refine sE_endChildlessWaiting_10 F hw hR (K10 := fun _ _ => False) (fun _ _ q => q.elim) ⟨fun _ => ?_, fun q => absurd (by rw [hx]; decide) q⟩
      rw [← hs]
      exact hX'
    | succ m ih =>
      intro hm S1 M' x hx hX' hc' hs
      have hx : x = nI m := by rw [hx]; exact pk_sub (a := m + 1) (b := 1) (by omega)
      have e38 : M' 38 m = S1.1 38 m := hX'.at (by decide) m
      have hnx : nI m + (-1) = nI m - 1 := by rw [Int32.sub_eq_add_neg]
      refine sE_endChildlessWaiting_10 F hw hR (K10 := fun M2 y => y = nI m - 1 ∧ ∃ S2, RX w S2 M2 ∧ S2.1 1 0 = nI n ∧ s_ecw n m S2 = s_ecw n n S) ?_ ⟨fun q => absurd (by rw [hx] at q; exact q) (nneg (by omega)), fun _ => ⟨m, hx, by omega, fun h1 => ⟨by rw [hx]; exact hnx, S1, hX', hc', ?_⟩, fun h1 => ?_⟩⟩
      · rintro M2 y ⟨h1, S2, g1, g2, g3⟩
        exact ih (by omega) S2 M2 y h1 g1 g2 g3
      · rw [← hs]
        conv => rhs; unfold s_ecw
        rw [if_neg (fun q => h1 (e38.trans q.1))]
      · rw [hx]
        refine ⟨_, kE_hasActiveChild hJ hw hn M' hX' hc' (nI m), ?_⟩
        rintro r M2 ⟨rfl, rfl⟩
        cases hA : s_act n S1 (nI m) with
        | true =>
          refine ⟨fun _ => ⟨hnx, S1, hX', hc', ?_⟩, fun q => absurd q (by decide)⟩
          rw [← hs]
          conv => rhs; unfold s_ecw
          rw [if_neg (fun q => q.2 hA)]
        | false =>
          refine ⟨fun q => absurd rfl q, fun _ => ?_⟩
          rintro M3 rfl
          refine ⟨hnx, sp S1 38 m 0, hX'.sp (by decide) _ _, by rw [sp_r, if_neg (by omega)]; exact hc', ?_⟩
          rw [← hs]
          conv => rhs; unfold s_ecw
          rw [if_pos ⟨e38.symm.trans h1, by rw [hA]; exact Bool.false_ne_true⟩]
  refine sE_endChildlessWaiting_0 F hw hR (K10 := fun M' x => M' = M ∧ x = nI n - 1) ?_ ⟨rfl, by rw [hX.at (by decide), hc]⟩
  rintro M' x ⟨rfl, hx⟩
  exact lp n (Nat.le_refl _) S M' x hx hX hc rfl
end CE7
