/-! What the small methods of the class do: P (semaphores), L (a line) -/
section CP
variable {l : Launch} {D : va_G} {cI cZ cL cE : ClassId} {a : Nat → Nat} {w : Nat}
theorem kP_isIn (hJ : IJ (sX D cI cZ cL cE a w)) (hw : w ≤ 4) (M : MM) (nd : Int32) (s : Nat) : Ci l (sX D cI cZ cL cE a w) yP_isIn wP_isIn rmP_isIn [.int nd, .int (nI s)] M (fun r M' => M' = M ∧ r = if nb nd s = true then 1 else 0) := by
  refine oP_isIn hJ hw ⟨fun h => ⟨rfl, ?_⟩, fun h => ⟨rfl, ?_⟩⟩
  · rw [if_neg (by rw [nb, decide_eq_true_iff]; exact fun q => q h)]
  · rw [if_pos (by rw [nb, decide_eq_true_iff]; exact h)]
theorem kP_areFree (hJ : IJ (sX D cI cZ cL cE a w)) (hw : w ≤ 4) {S : SS} (M : MM) (hX : RX w S M) (nd : Int32) : Ci l (sX D cI cZ cL cE a w) yP_areFree wP_areFree rmP_areFree [.ref (a 34), .int nd] M (fun r M' => M' = M ∧ r = if s_free S nd = true then 1 else 0) := by
  refine oP_areFree hJ (fun G hl hR F => ?_)
  subst hl
  have lp : ∀ n s, s + n = 4 → (∀ i, i < s → nb nd i = true → S.1 36 i < S.1 35 i) → wx G (sX D cI cZ cL cE a w) 3 (Qxi G (sX D cI cZ cL cE a w) (fun r M' => M' = M ∧ r = if s_free S nd = true then 1 else 0)) M 2 [(0, .ref (a 34)), (1, .int nd), (2, .int (nI s))] [] := by
    intro n
    induction n with
    | zero =>
      intro s hs hi
      have h4 : (4 : Int32) ≤ nI s := (nle (a := 4) (by omega) (by omega)).mpr (by omega)
      refine sP_areFree_2 F hw hR (K2 := fun _ _ _ => False) (fun _ _ _ q => q.elim) ⟨fun _ => ⟨rfl, ?_⟩, fun q => absurd h4 q⟩
      rw [if_pos]
      rw [s_free, List.all_eq_true]
      intro i hi4
      have := List.mem_range.mp hi4
      cases hb : nb nd i
      · rfl
      · simp [hi i (by omega) hb]
    | succ n ih =>
      intro s hs hi
      have h4 : ¬ (4 : Int32) ≤ nI s := fun q => by
        have := (nle (a := 4) (by omega) (by omega)).mp q
        omega
      refine sP_areFree_2 F hw hR (K2 := fun M' x1 x2 => M' = M ∧ x1 = nd ∧ x2 = nI (s + 1) ∧ (nb nd s = true → S.1 36 s < S.1 35 s)) ?_ ⟨fun q => absurd q h4, fun _ => ⟨_, kP_isIn hJ hw M nd s, ?_⟩⟩
      · rintro M' x1 x2 ⟨rfl, rfl, rfl, hh⟩
        refine ih (s + 1) (by omega) (fun i hi1 hb => ?_)
        by_cases e : i = s
        · subst e; exact hh hb
        · exact hi i (by omega) hb
      · rintro r M' ⟨rfl, rfl⟩
        cases hb : nb nd s
        · refine ⟨fun _ => ⟨rfl, rfl, nI_1 s, fun q => by cases q⟩, fun q => absurd rfl q⟩
        · refine ⟨fun q => absurd q (by decide), fun _ => ⟨s, rfl, by omega, ⟨fun q => ⟨rfl, rfl, nI_1 s, fun _ => ?_⟩, fun q => ⟨rfl, ?_⟩⟩⟩⟩
          · rw [← hX.at (by decide) s, ← hX.at (by decide) s]; exact q
          · rw [if_neg]
            rw [s_free, List.all_eq_true]
            intro hall
            have := hall s (List.mem_range.mpr (by omega))
            rw [hb] at this
            simp at this
            rw [← hX.at (by decide) s, ← hX.at (by decide) s] at this
            exact q this
  refine sP_areFree_0 F hw hR (K2 := fun M' x1 x2 => M' = M ∧ x1 = nd ∧ x2 = nI 0) ?_ ⟨rfl, rfl, rfl⟩
  rintro M' x1 x2 ⟨rfl, rfl, rfl⟩
  exact lp 4 0 rfl (fun i hi => absurd hi (Nat.not_lt_zero _))
theorem kP_hold (hJ : IJ (sX D cI cZ cL cE a w)) (hw : w ≤ 4) {S : SS} (M : MM) (hX : RX w S M) (nd : Int32) : Cv l (sX D cI cZ cL cE a w) yP_hold wP_hold rmP_hold [.ref (a 34), .int nd] M (fun M' => RX w (s_hold S nd 4) M') := by
  refine oP_hold hJ (fun G hl hR F => ?_)
  subst hl
  have lp : ∀ n s M', s + n = 4 → RX w (s_hold S nd s) M' → wx G (sX D cI cZ cL cE a w) 3 (Qxv G (sX D cI cZ cL cE a w) (fun M' => RX w (s_hold S nd 4) M')) M' 2 [(0, .ref (a 34)), (1, .int nd), (2, .int (nI s))] [] := by
    intro n
    induction n with
    | zero =>
      intro s M' hs hi
      have h4 : (4 : Int32) ≤ nI s := (nle (a := 4) (by omega) (by omega)).mpr (by omega)
      refine sP_hold_2 F hw hR (K2 := fun _ _ _ => False) (fun _ _ _ q => q.elim) ⟨fun _ => ?_, fun q => absurd h4 q⟩
      have : s = 4 := by omega
      subst this
      exact hi
    | succ n ih =>
      intro s M' hs hi
      have h4 : ¬ (4 : Int32) ≤ nI s := fun q => by
        have := (nle (a := 4) (by omega) (by omega)).mp q
        omega
      refine sP_hold_2 F hw hR (K2 := fun M' x1 x2 => x1 = nd ∧ x2 = nI (s + 1) ∧ RX w (s_hold S nd (s + 1)) M') ?_ ⟨fun q => absurd q h4, fun _ => ⟨_, kP_isIn hJ hw M' nd s, ?_⟩⟩
      · rintro M2 x1 x2 ⟨rfl, rfl, hh⟩
        exact ih (s + 1) M2 (by omega) hh
      · rintro r M2 ⟨rfl, rfl⟩
        cases hb : nb nd s
        · refine ⟨fun _ => ⟨rfl, nI_1 s, ?_⟩, fun q => absurd rfl q⟩
          show RX w (if nb nd s = true then _ else _) M2
          rw [if_neg (by rw [hb]; exact Bool.false_ne_true)]
          exact hi
        · refine ⟨fun q => absurd q (by decide), fun _ => ⟨s, rfl, by omega, ?_⟩⟩
          rintro M3 rfl
          refine ⟨rfl, nI_1 s, ?_⟩
          show RX w (if nb nd s = true then _ else _) _
          rw [if_pos hb, hi.at (by decide) s, s_hold_at, if_neg (by omega)]
          exact hi.sp (by decide) s _
  refine sP_hold_0 F hw hR (K2 := fun M' x1 x2 => M' = M ∧ x1 = nd ∧ x2 = nI 0) ?_ ⟨rfl, rfl, rfl⟩
  rintro M' x1 x2 ⟨rfl, rfl, rfl⟩
  exact lp 4 0 M' rfl hX
theorem kP_giveBack (hJ : IJ (sX D cI cZ cL cE a w)) (hw : w ≤ 4) {S : SS} (M : MM) (hX : RX w S M) (nd : Int32) : Cv l (sX D cI cZ cL cE a w) yP_giveBack wP_giveBack rmP_giveBack [.ref (a 34), .int nd] M (fun M' => RX w (s_give S nd 4) M') := by
  refine oP_giveBack hJ (fun G hl hR F => ?_)
  subst hl
  have lp : ∀ n s M', s + n = 4 → RX w (s_give S nd s) M' → wx G (sX D cI cZ cL cE a w) 3 (Qxv G (sX D cI cZ cL cE a w) (fun M' => RX w (s_give S nd 4) M')) M' 2 [(0, .ref (a 34)), (1, .int nd), (2, .int (nI s))] [] := by
    intro n
    induction n with
    | zero =>
      intro s M' hs hi
      have h4 : (4 : Int32) ≤ nI s := (nle (a := 4) (by omega) (by omega)).mpr (by omega)
      refine sP_giveBack_2 F hw hR (K2 := fun _ _ _ => False) (fun _ _ _ q => q.elim) ⟨fun _ => ?_, fun q => absurd h4 q⟩
      have : s = 4 := by omega
      subst this
      exact hi
    | succ n ih =>
      intro s M' hs hi
      have h4 : ¬ (4 : Int32) ≤ nI s := fun q => by
        have := (nle (a := 4) (by omega) (by omega)).mp q
        omega
      refine sP_giveBack_2 F hw hR (K2 := fun M' x1 x2 => x1 = nd ∧ x2 = nI (s + 1) ∧ RX w (s_give S nd (s + 1)) M') ?_ ⟨fun q => absurd q h4, fun _ => ⟨_, kP_isIn hJ hw M' nd s, ?_⟩⟩
      · rintro M2 x1 x2 ⟨rfl, rfl, hh⟩
        exact ih (s + 1) M2 (by omega) hh
      · rintro r M2 ⟨rfl, rfl⟩
        cases hb : nb nd s
        · refine ⟨fun _ => ⟨rfl, nI_1 s, ?_⟩, fun q => absurd rfl q⟩
          show RX w (if nb nd s = true then _ else _) M2
          rw [if_neg (by rw [hb]; exact Bool.false_ne_true)]
          exact hi
        · refine ⟨fun q => absurd q (by decide), fun _ => ⟨s, rfl, by omega, ?_⟩⟩
          rintro M3 rfl
          refine ⟨rfl, nI_1 s, ?_⟩
          show RX w (if nb nd s = true then _ else _) _
          rw [if_pos hb, hi.at (by decide) s, s_give_at, if_neg (by omega)]
          exact hi.sp (by decide) s _
  refine sP_giveBack_0 F hw hR (K2 := fun M' x1 x2 => M' = M ∧ x1 = nd ∧ x2 = nI 0) ?_ ⟨rfl, rfl, rfl⟩
  rintro M' x1 x2 ⟨rfl, rfl, rfl⟩
  exact lp 4 0 M' rfl hX
end CP
section CL
variable {l : Launch} {D : va_G} {cI cZ cL cE : ClassId} {a : Nat → Nat} {w : Nat}
/-- what stands at place x of a line -/
def lat (L : List Nat) (x : Int32) : Int32 := if x < 0 then -1 else match L[tn x]? with
  | some t => nI t
  | none => -1
theorem kL_taskAt (hJ : IJ (sX D cI cZ cL cE a w)) (hw : w ≤ 4) {i : Nat} (hi : i < w + 2) (M : MM) {L : List Nat} (hL : lnm M i L) (h24 : L.length ≤ 24) (x : Int32) : Ci l (sX D cI cZ cL cE a w) yL_taskAt wL_taskAt rmL_taskAt [.ref (a (43 + 2 * i)), .int x] M (fun r M' => M' = M ∧ r = lat L x) := by
  refine oL_taskAt hJ hw hi ⟨fun h => ⟨rfl, ?_⟩, fun h => ⟨fun h1 => ?_, fun h1 => ⟨rfl, ?_⟩⟩⟩
  · rw [lat, if_pos h]
  · rw [hL.1] at h1
    obtain ⟨j, hj, rfl⟩ := lt_tn (by omega) h h1
    refine ⟨j, rfl, by omega, rfl, ?_⟩
    rw [lat, if_neg h, tnI (by omega), List.getElem?_eq_getElem hj, hL.2 j _ (List.getElem?_eq_getElem hj)]
  · rw [lat, if_neg h]
    rw [hL.1] at h1
    obtain ⟨j, hj, rfl⟩ := nI_of h
    have : ¬ j < L.length := fun q => h1 ((nI_ltI hj (by omega)).mpr q)
    rw [show tn (nI j) = j from nI_clamp hj, List.getElem?_eq_none (by omega)]
theorem kL_append (hJ : IJ (sX D cI cZ cL cE a w)) (hw : w ≤ 4) {i : Nat} (hi : i < w + 2) (M : MM) {L : List Nat} (hL : lnm M i L) (h24 : L.length < 24) (t : Nat) : Cv l (sX D cI cZ cL cE a w) yL_append wL_append rmL_append [.ref (a (43 + 2 * i)), .int (nI t)] M (fun M' => chl M M' i (L ++ [t])) := by
  have h0 : ¬ (24 : Int32) ≤ M (43 + 2 * i) 1 := by
    rw [hL.1]
    intro q
    have := (nle (a := 24) (by omega) (by omega)).mp q
    omega
  refine oL_append hJ hw hi ⟨fun h => absurd h h0, fun h => ⟨L.length, hL.1, h24, ?_⟩⟩
  rintro M2 rfl M3 rfl
  refine ⟨⟨?_, fun j t' hj => ?_⟩, fun k h1 h2 => ?_⟩
  · rw [mp_at, if_pos ⟨rfl, rfl⟩, mp_at, if_neg (by omega), hL.1, nI_1, List.length_append]
    rfl
  · rw [mp_at, if_neg (by omega), mp_at]
    by_cases e : j = L.length
    · subst e
      rw [if_pos ⟨rfl, rfl⟩]
      rw [List.getElem?_append_right (Nat.le_refl _), Nat.sub_self] at hj
      rw [← Option.some.inj hj]
    · rw [if_neg (fun q => e q.2)]
      have hlt : j < L.length := by
        have := (List.getElem?_eq_some_iff.mp hj).1
        rw [List.length_append, List.length_singleton] at this
        omega
      rw [List.getElem?_append_left hlt] at hj
      exact hL.2 j t' hj
  · rw [mp_ne _ _ _ _ h1, mp_ne _ _ _ _ h2]
theorem kL_takeOut (hJ : IJ (sX D cI cZ cL cE a w)) (hw : w ≤ 4) {i : Nat} (hi : i < w + 2) (M : MM) {L : List Nat} (hL : lnm M i L) (h24 : L.length ≤ 24) (hb : ∀ t ∈ L, t < 24) {k t : Nat} (hk : L[k]? = some t) : Ci l (sX D cI cZ cL cE a w) yL_takeOut wL_takeOut rmL_takeOut [.ref (a (43 + 2 * i)), .int (nI k)] M (fun r M' => r = nI t ∧ chl M M' i (L.eraseIdx k)) := by
  have hkl : k < L.length := (List.getElem?_eq_some_iff.mp hk).1
  have ht : t < 24 := hb t (List.mem_of_getElem? hk)
  refine oL_takeOut hJ (fun G hl hR F => ?_)
  subst hl
  have lp : ∀ n j M', j + n = L.length - 1 → k ≤ j → M' (43 + 2 * i) 1 = nI (L.length - 1) → (∀ q t', q < j → (L.eraseIdx k)[q]? = some t' → M' (43 + 2 * i + 1) q = nI t') → (∀ q t', j ≤ q → L[q]? = some t' → q = j ∨ M' (43 + 2 * i + 1) q = nI t') → (∀ k, k ≠ 43 + 2 * i → k ≠ 43 + 2 * i + 1 → M' k = M k) →
      wx G (sX D cI cZ cL cE a w) 4 (Qxi G (sX D cI cZ cL cE a w) (fun r M' => r = nI t ∧ chl M M' i (L.eraseIdx k))) M' 25 [(0, .ref (a (43 + 2 * i))), (1, .int (nI k)), (2, .int (nI t)), (3, .int (nI j))] [] := by
    intro n
    induction n with
    | zero =>
      intro j M' hj hkj h1 h2 h3 h4
      have hle : M' (43 + 2 * i) 1 ≤ nI j := by rw [h1]; exact (nle (by omega) (by omega)).mpr (by omega)
      refine sL_takeOut_25 F hw hi hR (K25 := fun _ _ _ _ => False) (fun _ _ _ _ q => q.elim) ⟨fun _ => ⟨rfl, ⟨?_, fun q t' hq => ?_⟩, h4⟩, fun q => absurd hle q⟩
      · rw [h1, List.length_eraseIdx_of_lt hkl]
      · have := (List.getElem?_eq_some_iff.mp hq).1
        rw [List.length_eraseIdx_of_lt hkl] at this
        exact h2 q t' (by omega) hq
    | succ n ih =>
      intro j M' hj hkj h1 h2 h3 h4
      have hle : ¬ M' (43 + 2 * i) 1 ≤ nI j := by
        rw [h1]
        intro q
        have := (nle (by omega) (by omega)).mp q
        omega
      refine sL_takeOut_25 F hw hi hR (K25 := fun M2 x1 x2 x3 => x1 = nI k ∧ x2 = nI t ∧ x3 = nI (j + 1) ∧ M2 = mp M' (43 + 2 * i + 1) j (M' (43 + 2 * i + 1) (j + 1))) ?_ ⟨fun q => absurd q hle, fun _ => ⟨j + 1, nI_1 j, by omega, j, rfl, by omega, ?_⟩⟩
      · rintro M2 x1 x2 x3 ⟨rfl, rfl, rfl, rfl⟩
        refine ih (j + 1) _ (by omega) (by omega) ?_ (fun q t' hq hq2 => ?_) (fun q t' hq hq2 => ?_) (fun k' h5 h6 => ?_)
        · rw [mp_at, if_neg (by omega)]; exact h1
        · rw [mp_at]
          by_cases e : q = j
          · subst e
            rw [if_pos ⟨rfl, rfl⟩]
            rw [List.getElem?_eraseIdx_of_ge hkj] at hq2
            rcases h3 (q + 1) t' (by omega) hq2 with h | h
            · omega
            · exact h
          · rw [if_neg (fun r => e r.2)]
            exact h2 q t' (by omega) hq2
        · by_cases e : q = j + 1
          · exact Or.inl e
          · rw [mp_at, if_neg (by omega)]
            rcases h3 q t' (by omega) hq2 with h | h
            · omega
            · exact Or.inr h
        · rw [mp_ne _ _ _ _ h6]; exact h4 k' h5 h6
      · rintro M2 rfl
        exact ⟨rfl, rfl, nI_1 j, rfl⟩
  refine sL_takeOut_0 F hw hi hR (K25 := fun M' x1 x2 x3 => x1 = nI k ∧ x2 = nI t ∧ x3 = nI k ∧ M' = mp M (43 + 2 * i) 1 (nI (L.length - 1))) ?_ ⟨_, kL_taskAt hJ hw hi M hL h24 (nI k), ?_⟩
  · rintro M' x1 x2 x3 ⟨rfl, rfl, rfl, rfl⟩
    refine lp (L.length - 1 - k) k _ (by omega) (Nat.le_refl _) ?_ (fun q t' hq hq2 => ?_) (fun q t' hq hq2 => Or.inr ?_) (fun k' h5 h6 => mp_ne _ _ _ _ h5)
    · rw [mp_at, if_pos ⟨rfl, rfl⟩]
    · rw [mp_at, if_neg (by omega)]
      rw [List.getElem?_eraseIdx_of_lt hq] at hq2
      exact hL.2 q t' hq2
    · rw [mp_at, if_neg (by omega)]
      exact hL.2 q t' hq2
  · rintro r M' ⟨rfl, rfl⟩
    have hr : lat L (nI k) = nI t := by rw [lat, if_neg (nneg (by omega)), tnI (by omega), hk]
    rw [hr]
    refine ⟨fun _ => ?_, fun q => absurd q (nm1 (by omega))⟩
    rintro M2 rfl
    refine ⟨rfl, rfl, rfl, ?_⟩
    rw [hL.1]
    exact congrArg _ (pk_sub (b := 1) (by omega))
end CL
