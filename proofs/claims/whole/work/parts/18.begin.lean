/-! What take, steal, run, park, wakeParked, leaveBody, begin do -/
def s_turn (w wk : Nat) : Nat → SS → Int32 × SS
  | 0, S => (-1, S)
  | f + 1, S => match s_take w wk S with
    | (none, S1) => (-1, S1)
    | (some t, S1) => if s_free S1 (S1.1 5 t) = true then (nI t, s_run S1 t wk) else s_turn w wk f (s_park S1 t)
def s_begin (w : Nat) (S : SS) (x : Int32) : Int32 × SS := if S.1 0 10 = 0 ∨ ¬ isT w x = true ∨ S.1 37 (tn x) ≠ -1 then (-1, S) else s_turn w (tn x) 24 S
theorem getLast_at {L : List Nat} {t : Nat} (h : L.getLast? = some t) : L[L.length - 1]? = some t ∧ 0 < L.length := by
  obtain ⟨ys, rfl⟩ := List.getLast?_eq_some_iff.mp h
  simp
theorem dropLast_at (L : List Nat) : L.eraseIdx (L.length - 1) = L.dropLast := by
  by_cases h : L = []
  · subst h; rfl
  · obtain ⟨ys, t, rfl⟩ : ∃ ys t, L = ys ++ [t] := ⟨L.dropLast, L.getLast h, (List.dropLast_concat_getLast h).symm⟩
    rw [List.dropLast_concat, List.length_append, List.length_singleton, Nat.add_sub_cancel, List.eraseIdx_append_of_length_le (Nat.le_refl _), Nat.sub_self]
    simp
section CE4
variable {l : Launch} {D : va_G} {cI cZ cL cE : ClassId} {a : Nat → Nat} {w n : Nat}
theorem kE_steal (hJ : IJ (sX D cI cZ cL cE a w)) {S : SS} (M : MM) (hX : RX w S M) (hF : WF w n S) {k : Nat} (hk : k < w) : Ci l (sX D cI cZ cL cE a w) yE_steal wE_steal rmE_steal [.ref (a 0), .int (nI k)] M (fun r M' => r = oN (s_steal w k S (w - 1) 1).1 ∧ RX w (s_steal w k S (w - 1) 1).2 M') := by
  have hn := hF.le
  have hw := hF.w4
  have e0 : M 0 0 = nI w := by rw [hX.at (by decide)]; exact hF.h0
  have e16 : M 0 16 = S.1 0 16 := hX.at (by decide) 16
  refine oE_steal hJ (fun G hl hR F => ?_)
  subst hl
  have lp : ∀ f d, d + f = w → s_steal w k S (w - 1) 1 = s_steal w k S f d → wx G (sX D cI cZ cL cE a w) 4 (Qxi G (sX D cI cZ cL cE a w) (fun r M' => r = oN (s_steal w k S (w - 1) 1).1 ∧ RX w (s_steal w k S (w - 1) 1).2 M')) M 2 [(0, .ref (a 0)), (1, .int (nI k)), (2, .int (nI d))] [] := by
    intro f
    induction f with
    | zero =>
      intro d hd hs
      have h4 : M 0 0 ≤ nI d := by rw [e0]; exact (nle (by omega) (by omega)).mpr (by omega)
      refine sE_steal_2 F hw hR (K2 := fun _ _ _ => False) (fun _ _ _ q => q.elim) ⟨fun _ => ?_, fun q => absurd h4 q⟩
      rw [hs]
      exact ⟨rfl, hX⟩
    | succ f ih =>
      intro d hd hs
      have h4 : ¬ M 0 0 ≤ nI d := by rw [e0]; intro q; have := (nle (by omega) (by omega)).mp q; omega
      have key : ∀ v, v = s_vic w k d → ((M (43 + 2 * (v + 1)) 1 ≤ 0 → (M = M ∧ nI k = nI k ∧ nI d + 1 = nI (d + 1) ∧ S.2 (v + 1) = [])) ∧ (¬ M (43 + 2 * (v + 1)) 1 ≤ 0 → ∀ M8 : MM, M8 = mp M 0 16 (M 0 16 + 1) → ∃ po : Int32 → MM → Prop, Ci (gl G) (sX D cI cZ cL cE a w) yL_takeOut wL_takeOut rmL_takeOut [.ref (a (43 + 2 * (v + 1))), .int 0] M8 po ∧ ∀ (r : Int32) (M' : MM), po r M' → (r = oN (s_steal w k S (w - 1) 1).1 ∧ RX w (s_steal w k S (w - 1) 1).2 M'))) := by
        intro v hv
        have hvw : v < w := by rw [hv]; exact s_vic_lt hk (by omega)
        have hL := hX.2 (v + 1) (by omega)
        have hlen := hF.ln.len (l := v + 1) (by omega)
        have hle : M (43 + 2 * (v + 1)) 1 ≤ 0 ↔ (S.2 (v + 1)).length ≤ 0 := by rw [hL.1]; exact nle (b := 0) (by omega) (by omega)
        refine ⟨fun q => ⟨rfl, rfl, nI_1 d, List.length_eq_zero_iff.mp (by have := hle.mp q; omega)⟩, fun q => ?_⟩
        rintro M8 rfl
        have hpos : 0 < (S.2 (v + 1)).length := by have := mt hle.mpr q; omega
        obtain ⟨t, L, hcons⟩ : ∃ t L, S.2 (v + 1) = t :: L := by
          cases h : S.2 (v + 1) with
          | nil => rw [h] at hpos; exact absurd hpos (by decide)
          | cons t L => exact ⟨t, L, rfl⟩
        have hX2 := hX.sp (k := 0) (by decide) 16 (M 0 16 + 1)
        refine ⟨_, kL_takeOut hJ hw (i := v + 1) (by omega) _ (hX2.2 (v + 1) (by omega)) (show (S.2 (v + 1)).length ≤ 24 by omega) (fun t ht => ?_) (k := 0) (t := t) (by show (S.2 (v + 1))[0]? = _; rw [hcons]; rfl), ?_⟩
        · have := (((hF.ln (v + 1) (by omega)).2 t).mp ht).1
          omega
        · rintro r M' ⟨rfl, hc⟩
          rw [hs]
          unfold s_steal
          rw [← hv, hcons]
          refine ⟨rfl, ?_⟩
          have := hX2.sq hc
          rw [e16] at this
          rw [show (sp S 0 16 (S.1 0 16 + 1)).2 (v + 1) = t :: L from hcons] at this
          exact this
      refine sE_steal_2 F hw hR (K2 := fun M' x1 x2 => M' = M ∧ x1 = nI k ∧ x2 = nI (d + 1) ∧ S.2 (s_vic w k d + 1) = []) ?_ ⟨fun q => absurd q h4, fun _ => ⟨fun h5 => ?_, fun h5 => ?_⟩⟩
      · rintro M' x1 x2 ⟨rfl, rfl, rfl, hh⟩
        refine ih (d + 1) (by omega) ?_
        rw [hs]
        conv => lhs; unfold s_steal
        rw [hh]
      · have h6 : w ≤ k + d := by rw [e0, nI_add] at h5; exact (nle (by omega) (by omega)).mp h5
        have hv : k + d - w = s_vic w k d := by unfold s_vic; rw [if_neg (by omega)]
        have hkv := key (k + d - w) hv
        refine ⟨k + d - w, by rw [e0, nI_add]; exact pk_sub h6, by omega, fun q => ?_, hkv.2⟩
        obtain ⟨q1, q2, q3, q4⟩ := hkv.1 q
        exact ⟨rfl, rfl, q3, by rw [← hv]; exact q4⟩
      · have h6 : k + d < w := by rw [e0, nI_add] at h5; have := mt (nle (by omega) (by omega)).mpr h5; omega
        have hv : k + d = s_vic w k d := by unfold s_vic; rw [if_pos h6]
        have hkv := key (k + d) hv
        refine ⟨k + d, nI_add k d, by omega, fun q => ?_, hkv.2⟩
        obtain ⟨q1, q2, q3, q4⟩ := hkv.1 q
        exact ⟨rfl, rfl, q3, by rw [← hv]; exact q4⟩
  refine sE_steal_0 F hw hR (K2 := fun M' x1 x2 => M' = M ∧ x1 = nI k ∧ x2 = nI 1) ?_ ⟨rfl, rfl, rfl⟩
  rintro M' x1 x2 ⟨rfl, rfl, rfl⟩
  exact lp (w - 1) 1 (by omega) rfl
theorem kE_take (hJ : IJ (sX D cI cZ cL cE a w)) {S : SS} (M : MM) (hX : RX w S M) (hF : WF w n S) {k : Nat} (hk : k < w) : Ci l (sX D cI cZ cL cE a w) yE_take wE_take rmE_take [.ref (a 0), .int (nI k)] M (fun r M' => r = oN (s_take w k S).1 ∧ RX w (s_take w k S).2 M') := by
  have hn := hF.le
  have hw := hF.w4
  have e0 : M 0 0 = nI w := by rw [hX.at (by decide)]; exact hF.h0
  have hle : ∀ v, v < w + 1 → (M (43 + 2 * (v + 1)) 1 ≤ 0 ↔ (S.2 (v + 1)).length ≤ 0) := fun v hv => by
    have hlen := hF.ln.len (l := v + 1) (by omega)
    rw [(hX.2 (v + 1) (by omega)).1]; exact nle (b := 0) (by omega) (by omega)
  have hb : ∀ v, v < w + 1 → ∀ t ∈ S.2 (v + 1), t < 24 := fun v hv t ht => by
    have := (((hF.ln (v + 1) (by omega)).2 t).mp ht).1
    omega
  have hlen : ∀ v, v < w + 1 → (S.2 (v + 1)).length ≤ 24 := fun v hv => by
    have := hF.ln.len (l := v + 1) (by omega)
    omega
  refine oE_take hJ hw ⟨k, rfl, by omega, fun h1 => ⟨w, e0, by omega, fun h2 => ?_, fun h2 => ?_⟩, fun h1 => ?_⟩
  · have g1 : S.2 (k + 1) = [] := List.length_eq_zero_iff.mp (by have := (hle k (by omega)).mp h1; omega)
    have g2 : S.2 (w + 1) = [] := List.length_eq_zero_iff.mp (by have := (hle w (by omega)).mp h2; omega)
    refine ⟨_, kE_steal hJ M hX hF hk, fun r M' hh => ?_⟩
    unfold s_take
    rw [g1, g2]
    exact hh
  · have g1 : S.2 (k + 1) = [] := List.length_eq_zero_iff.mp (by have := (hle k (by omega)).mp h1; omega)
    have hpos : 0 < (S.2 (w + 1)).length := by have := mt (hle w (by omega)).mpr h2; omega
    obtain ⟨t, L, hcons⟩ : ∃ t L, S.2 (w + 1) = t :: L := by
      cases h : S.2 (w + 1) with
      | nil => rw [h] at hpos; exact absurd hpos (by decide)
      | cons t L => exact ⟨t, L, rfl⟩
    refine ⟨_, kL_takeOut hJ hw (i := w + 1) (by omega) M (hX.2 (w + 1) (by omega)) (hlen w (by omega)) (hb w (by omega)) (k := 0) (t := t) (by rw [hcons]; rfl), ?_⟩
    rintro r M' ⟨rfl, hc⟩
    unfold s_take
    rw [g1, hcons]
    refine ⟨rfl, ?_⟩
    have := hX.sq hc
    rw [hcons] at this
    exact this
  · have hpos : 0 < (S.2 (k + 1)).length := by have := mt (hle k (by omega)).mpr h1; omega
    cases hg : (S.2 (k + 1)).getLast? with
    | none =>
      rw [List.getLast?_eq_none_iff] at hg
      rw [hg] at hpos
      exact absurd hpos (by decide)
    | some t =>
      have e1 : M (43 + 2 * (k + 1)) 1 - 1 = nI ((S.2 (k + 1)).length - 1) := by rw [(hX.2 (k + 1) (by omega)).1]; exact pk_sub (b := 1) (by omega)
      rw [e1]
      refine ⟨_, kL_takeOut hJ hw (i := k + 1) (by omega) M (hX.2 (k + 1) (by omega)) (hlen k (by omega)) (hb k (by omega)) (t := t) (getLast_at hg).1, ?_⟩
      rintro r M' ⟨rfl, hc⟩
      unfold s_take
      rw [hg]
      refine ⟨rfl, ?_⟩
      rw [dropLast_at] at hc
      exact hX.sq hc
theorem kE_run (hJ : IJ (sX D cI cZ cL cE a w)) (hw : w ≤ 4) {S : SS} (M : MM) (hX : RX w S M) {t k : Nat} (ht : t < 24) (hk : k < w) : Cv l (sX D cI cZ cL cE a w) yE_run wE_run rmE_run [.ref (a 0), .int (nI t), .int (nI k)] M (fun M' => RX w (s_run S t k) M') := by
  have e5 : M 5 t = S.1 5 t := hX.at (by decide) t
  refine oE_run hJ hw ⟨t, rfl, ht, _, kP_hold hJ hw M hX (M 5 t), fun M9 h9 => ?_⟩
  rintro M11 rfl
  refine ⟨k, rfl, hk, ?_⟩
  rintro M13 rfl M19 rfl
  rw [e5] at h9
  unfold s_run
  have a1 := (h9.sp (k := 38) (by decide) t (3 + nI k)).sp (k := 37) (by decide) k (nI t)
  have e40 : mp (mp M9 38 t (3 + nI k)) 37 k (nI t) 40 t = S.1 40 t := by
    rw [mp_at, if_neg (by omega), mp_at, if_neg (by omega), h9.at (by decide), s_hold_at, if_neg (by omega)]
  rw [e40, show nI (3 + k) = 3 + nI k from (nI_add 3 k).symm]
  exact a1.sp (by decide) _ _
theorem kE_park (hJ : IJ (sX D cI cZ cL cE a w)) (hw : w ≤ 4) {S : SS} (M : MM) (hX : RX w S M) {t : Nat} (ht : t < 24) (h24 : (S.2 0).length < 24) : Cv l (sX D cI cZ cL cE a w) yE_park wE_park rmE_park [.ref (a 0), .int (nI t)] M (fun M' => RX w (s_park S t) M') := by
  refine oE_park hJ hw ⟨t, rfl, ht, ?_⟩
  rintro M1 rfl
  have hX2 := hX.sp (k := 38) (by decide) t 1
  exact ⟨_, kL_append hJ hw (i := 0) (by omega) _ (hX2.2 0 (by omega)) h24 t, fun M' hc => hX2.sq hc⟩
theorem kE_begin (hJ : IJ (sX D cI cZ cL cE a w)) {S : SS} (M : MM) (hX : RX w S M) (hF : WF w n S) (x : Int32) : Ci l (sX D cI cZ cL cE a w) yE_begin wE_begin rmE_begin [.ref (a 0), .int x] M (fun r M' => r = (s_begin w S x).1 ∧ RX w (s_begin w S x).2 M') := by
  have hn := hF.le
  have hw := hF.w4
  have e0 : M 0 0 = nI w := by rw [hX.at (by decide)]; exact hF.h0
  refine oE_begin hJ (fun G hl hR F => ?_)
  subst hl
  have lp : ∀ k, k < w → ∀ f i S1 M1, i + f = 24 → WF w n S1 → RX w S1 M1 → s_turn w k 24 S = s_turn w k f S1 → wx G (sX D cI cZ cL cE a w) 4 (Qxi G (sX D cI cZ cL cE a w) (fun r M' => r = (s_turn w k 24 S).1 ∧ RX w (s_turn w k 24 S).2 M')) M1 29 [(0, .ref (a 0)), (1, .int (nI k)), (2, .int (nI i))] [] := by
    intro k hk f
    induction f with
    | zero =>
      intro i S1 M1 hi hF1 hX1 hs
      have h4 : (24 : Int32) ≤ nI i := (nle (a := 24) (by omega) (by omega)).mpr (by omega)
      refine sE_begin_29 F hw hR (K29 := fun _ _ _ => False) (fun _ _ _ q => q.elim) ⟨fun _ => ?_, fun q => absurd h4 q⟩
      rw [hs]
      exact ⟨rfl, hX1⟩
    | succ f ih =>
      intro i S1 M1 hi hF1 hX1 hs
      have h4 : ¬ (24 : Int32) ≤ nI i := fun q => by
        have := (nle (a := 24) (by omega) (by omega)).mp q
        omega
      refine sE_begin_29 F hw hR (K29 := fun M2 x1 x2 => x1 = nI k ∧ x2 = nI (i + 1) ∧ ∃ S2, WF w n S2 ∧ RX w S2 M2 ∧ s_turn w k 24 S = s_turn w k f S2) ?_ ⟨fun q => absurd q h4, fun _ => ⟨_, kE_take hJ M1 hX1 hF1 hk, ?_⟩⟩
      · rintro M2 x1 x2 ⟨rfl, rfl, S2, g1, g2, g3⟩
        exact ih (i + 1) S2 M2 (by omega) g1 g2 g3
      · rintro r M2 ⟨rfl, hX2⟩
        rcases take_tk hk S1 with h5 | ⟨t, S2, h5, htk⟩
        · rw [h5] at hX2 ⊢
          refine ⟨fun q => absurd rfl q, fun _ => ?_⟩
          rw [hs]
          unfold s_turn
          rw [h5]
          exact ⟨rfl, hX2⟩
        · rw [h5] at hX2 ⊢
          have htk' := htk
          obtain ⟨l0, L, a5, a6, a7, a8, a9, a10⟩ := htk'
          have hpl := ((hF1.ln l0 a6).2 t).mp a7
          have ht := hpl.1
          have e5 : M2 5 t = S2.1 5 t := hX2.at (by decide) t
          refine ⟨fun _ => ⟨t, rfl, by omega, _, kP_areFree hJ hw M2 hX2 (M2 5 t), ?_⟩, fun q => absurd q (nm1 (by omega))⟩
          rintro r M3 ⟨rfl, rfl⟩
          rw [e5]
          cases hfr : s_free S2 (S2.1 5 t) with
          | true =>
            refine ⟨fun q => absurd q (by decide), fun _ => ⟨_, kE_run hJ hw M3 hX2 (by omega) hk, fun M4 h => ?_⟩⟩
            rw [hs]
            unfold s_turn
            rw [h5]
            show oN (some t) = (if s_free S2 (S2.1 5 t) = true then _ else _ : Int32 × SS).1 ∧ RX w (if s_free S2 (S2.1 5 t) = true then _ else _ : Int32 × SS).2 M4
            rw [if_pos hfr]
            exact ⟨rfl, h⟩
          | false =>
            have h0len : (S2.2 0).length < 24 := by
              rw [a9]
              unfold va_up
              rw [if_neg (by omega)]
              have := hF1.ln.len1 (l := 0) (by omega) ht (fun q => absurd (cd_inj hw a6 (by omega) (hpl.2.symm.trans q)) (by omega))
              omega
            refine ⟨fun _ => ⟨_, kE_park hJ hw M3 hX2 (by omega) h0len, fun M4 h => ⟨rfl, nI_1 i, _, hF1.k (kp1_park hw htk), h, ?_⟩⟩, fun q => absurd rfl q⟩
            rw [hs]
            conv => lhs; unfold s_turn
            rw [h5]
            show (if s_free S2 (S2.1 5 t) = true then _ else _ : Int32 × SS) = _
            rw [if_neg (by rw [hfr]; exact Bool.false_ne_true)]
  have e10 : M 0 10 = S.1 0 10 := hX.at (by decide) 10
  refine sE_begin_0 F hw hR (K29 := fun M' x1 x2 => M' = M ∧ x1 = x ∧ x2 = nI 0 ∧ isT w x = true ∧ s_begin w S x = s_turn w (tn x) 24 S) ?_ ⟨fun h => ?_, fun h => ⟨_, kE_isWorker hJ hw M e0 x, ?_⟩⟩
  · rintro M' x1 x2 ⟨rfl, rfl, rfl, hT, hs⟩
    obtain ⟨k, hk, rfl⟩ := isT_of (by omega) hT
    rw [hs, tnI (by omega)]
    exact lp k hk 24 0 S M' rfl hF hX rfl
  · unfold s_begin
    rw [if_pos (Or.inl (e10.symm.trans h))]
    exact ⟨rfl, hX⟩
  · rintro r M' ⟨rfl, rfl⟩
    cases hT : isT w x with
    | false =>
      refine ⟨fun _ => ?_, fun q => absurd rfl q⟩
      unfold s_begin
      rw [if_pos (Or.inr (Or.inl (by rw [hT]; exact Bool.false_ne_true)))]
      exact ⟨rfl, hX⟩
    | true =>
      obtain ⟨k, hk, rfl⟩ := isT_of (by omega) hT
      have e37 : M' 37 k = S.1 37 k := hX.at (by decide) k
      refine ⟨fun q => absurd q (by decide), fun _ => ⟨k, rfl, hk, fun h1 => ⟨rfl, rfl, rfl, rfl, ?_⟩, fun h1 => ?_⟩⟩
      · unfold s_begin
        rw [if_neg]
        rintro (q | q | q)
        · exact h (e10.trans q)
        · exact q hT
        · rw [tnI (by omega), ← e37] at q
          exact q h1
      · unfold s_begin
        rw [if_pos (Or.inr (Or.inr (by rw [tnI (by omega), ← e37]; exact h1)))]
        exact ⟨rfl, hX⟩
end CE4
