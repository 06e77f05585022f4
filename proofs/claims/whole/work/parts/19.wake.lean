/-! What wakeParked, leaveBody, parentThatEnds, endUpwards do -/
theorem Zat (F L : List Nat) (j : Nat) : (F ++ L.drop F.length)[j]? = if j < F.length then F[j]? else L[j]? := by
  rw [List.getElem?_append]
  by_cases h : j < F.length
  · rw [if_pos h, if_pos h]
  · rw [if_neg h, if_neg h, List.getElem?_drop]
    congr 1
    omega
theorem ready_sq0 (w : Nat) (X : SS) (Z : List Nat) (t : Nat) : s_ready w (sq X 0 Z) t w = sq (s_ready w X t w) 0 Z := by
  unfold s_ready sq
  refine Prod.ext rfl ?_
  funext l
  show va_up (va_up X.2 0 Z) (w + 1) (va_up X.2 0 Z (w + 1) ++ [t]) l = va_up (va_up X.2 (w + 1) (X.2 (w + 1) ++ [t])) 0 Z l
  unfold va_up
  by_cases h : l = w + 1
  · subst h
    rw [if_pos rfl, if_neg (by omega), if_neg (by omega), if_pos rfl]
  · rw [if_neg h]
    by_cases h0 : l = 0
    · rw [if_pos h0, if_pos h0]
    · rw [if_neg h0, if_neg h0, if_neg h]
section CE5
variable {l : Launch} {D : va_G} {cI cZ cL cE : ClassId} {a : Nat → Nat} {w n : Nat}
theorem kE_wakeParked (hJ : IJ (sX D cI cZ cL cE a w)) {S : SS} (M : MM) (hX : RX w S M) (hF : WF w n S) (nd : Int32) : Cv l (sX D cI cZ cL cE a w) yE_wakeParked wE_wakeParked rmE_wakeParked [.ref (a 0), .int nd] M (fun M' => RX w (s_wakeP w nd S) M') := by
  have hn := hF.le
  have hw := hF.w4
  have hL0 := hF.ln 0 (by omega)
  have hLw := hF.ln (w + 1) (by omega)
  have htot : (S.2 (w + 1)).length + (S.2 0).length ≤ n := by
    rw [← List.length_append]
    refine nodup_len n _ (List.nodup_append.mpr ⟨hLw.1, hL0.1, fun x hx y hy q => ?_⟩) (fun x hx => ?_)
    · subst q
      exact absurd (cd_inj hw (by omega) (by omega) ((((hLw.2 x).mp hx).2).symm.trans ((hL0.2 x).mp hy).2)) (by omega)
    · rcases List.mem_append.mp hx with h | h
      · exact ((hLw.2 x).mp h).1
      · exact ((hL0.2 x).mp h).1
  have hg : ∃ L, L = S.2 0 := ⟨_, rfl⟩
  obtain ⟨L, hL⟩ := hg
  have hlt : ∀ t ∈ L, t < n := fun t ht => ((hL0.2 t).mp (hL ▸ ht)).1
  refine oE_wakeParked hJ (fun G hl hR F => ?_)
  subst hl
  have lp : ∀ m k M', k + m = L.length → RX w (sq (s_rdy w nd S (L.take k)) 0 ((L.take k).filter (fun t => decide (S.1 5 t &&& nd = 0)) ++ L.drop ((L.take k).filter (fun t => decide (S.1 5 t &&& nd = 0))).length)) M' → wx G (sX D cI cZ cL cE a w) 5 (Qxv G (sX D cI cZ cL cE a w) (fun M' => RX w (s_wakeP w nd S) M')) M' 4 [(0, .ref (a 0)), (1, .int nd), (2, .int (nI ((L.take k).filter (fun t => decide (S.1 5 t &&& nd = 0))).length)), (3, .int (nI k))] [] := by
    intro m
    induction m with
    | zero =>
      intro k M' hk hX'
      have hk : k = L.length := by omega
      have htk : L.take k = L := by rw [hk]; exact List.take_length
      rw [htk] at hX' ⊢
      have hfl : (L.filter (fun t => decide (S.1 5 t &&& nd = 0))).length ≤ L.length := List.length_filter_le _ _
      have h0 := hX'.2 0 (by omega)
      rw [sq_l, if_pos rfl] at h0
      have hlen : (L.filter (fun t => decide (S.1 5 t &&& nd = 0)) ++ L.drop (L.filter (fun t => decide (S.1 5 t &&& nd = 0))).length).length = L.length := by
        rw [List.length_append, List.length_drop]; omega
      have h4 : M' (43 + 2 * 0) 1 ≤ nI k := by rw [h0.1, hlen]; exact (nle (by rw [hL]; omega) (by rw [hk, hL]; omega)).mpr (by omega)
      refine sE_wakeParked_4 F hw hR (K4 := fun _ _ _ _ => False) (fun _ _ _ _ q => q.elim) ⟨fun _ => ?_, fun q => absurd h4 q⟩
      rintro M2 rfl
      unfold s_wakeP
      rw [← hL]
      have hc : chl M' (mp M' (43 + 2 * 0) 1 (nI (L.filter (fun t => decide (S.1 5 t &&& nd = 0))).length)) 0 (L.filter (fun t => decide (S.1 5 t &&& nd = 0))) := by
        refine ⟨⟨by rw [mp_at, if_pos ⟨rfl, rfl⟩], fun j t hj => ?_⟩, fun k h1 h2 => mp_ne _ _ _ _ h1⟩
        rw [mp_at, if_neg (by omega)]
        have hjl := (List.getElem?_eq_some_iff.mp hj).1
        exact h0.2 j t (by rw [Zat, if_pos hjl]; exact hj)
      have := hX'.sq hc
      have e : sq (sq (s_rdy w nd S L) 0 (L.filter (fun t => decide (S.1 5 t &&& nd = 0)) ++ L.drop (L.filter (fun t => decide (S.1 5 t &&& nd = 0))).length)) 0 (L.filter (fun t => decide (S.1 5 t &&& nd = 0))) = sq (s_rdy w nd S L) 0 (L.filter (fun t => decide (S.1 5 t &&& nd = 0))) := by
        refine Prod.ext rfl ?_
        funext l
        rw [sq_l, sq_l, sq_l]
        by_cases q : l = 0
        · rw [if_pos q, if_pos q]
        · rw [if_neg q, if_neg q, if_neg q]
      rw [e] at this
      exact this
    | succ m ih =>
      intro k M' hk hX'
      have hkl : k < L.length := by omega
      obtain ⟨t, ht⟩ : ∃ t, L[k]? = some t := ⟨_, List.getElem?_eq_getElem hkl⟩
      have htn := hlt t (List.mem_of_getElem? ht)
      have etk : L.take (k + 1) = L.take k ++ [t] := by
        rw [List.take_add_one, ht]
        rfl
      have erd : s_rdy w nd S (L.take (k + 1)) = s_rdy1 w nd (s_rdy w nd S (L.take k)) t := by
        unfold s_rdy
        rw [etk, List.foldl_append]
        rfl
      have hg2 : ∃ F, F = (L.take k).filter (fun t => decide (S.1 5 t &&& nd = 0)) := ⟨_, rfl⟩
      obtain ⟨F1, hF1⟩ := hg2
      have hFl : F1.length ≤ k := by
        rw [hF1]
        refine Nat.le_trans (List.length_filter_le _ _) ?_
        rw [List.length_take]
        omega
      rw [← hF1] at hX' ⊢
      have h0 := hX'.2 0 (by omega)
      rw [sq_l, if_pos rfl] at h0
      have hLlen : L.length ≤ 24 := by rw [hL]; omega
      have hlen : (F1 ++ L.drop F1.length).length = L.length := by
        rw [List.length_append, List.length_drop]; omega
      have h4 : ¬ M' (43 + 2 * 0) 1 ≤ nI k := by rw [h0.1, hlen]; intro q; have := (nle (by omega) (by omega)).mp q; omega
      have e44 : M' (43 + 2 * 0 + 1) k = nI t := h0.2 k t (by rw [Zat, if_neg (by omega)]; exact ht)
      have e5 : M' 5 t = S.1 5 t := by
        rw [hX'.at (by decide)]
        show (s_rdy w nd S (L.take k)).1 5 t = _
        rw [(rdy_at w nd S (L.take k)).1, if_neg (by omega)]
      have e5' : (s_rdy w nd S (L.take k)).1 5 t = S.1 5 t := by rw [(rdy_at w nd S (L.take k)).1, if_neg (by omega)]
      have e00 : (s_rdy w nd S (L.take k)).1 0 0 = nI w := by rw [(rdy_at w nd S (L.take k)).1, if_neg (by omega)]; exact hF.h0
      have e0 : M' 0 0 = nI w := by rw [hX'.at (by decide)]; exact e00
      refine sE_wakeParked_4 F hw hR (K4 := fun M2 x1 x2 x3 => x1 = nd ∧ x2 = nI ((L.take (k + 1)).filter (fun t => decide (S.1 5 t &&& nd = 0))).length ∧ x3 = nI (k + 1) ∧ RX w (sq (s_rdy w nd S (L.take (k + 1))) 0 ((L.take (k + 1)).filter (fun t => decide (S.1 5 t &&& nd = 0)) ++ L.drop ((L.take (k + 1)).filter (fun t => decide (S.1 5 t &&& nd = 0))).length)) M2) ?_ ⟨fun q => absurd q h4, fun _ => ⟨k, rfl, by omega, t, e44, by omega, fun h5 => ?_, fun h5 => ?_⟩⟩
      · rintro M2 x1 x2 x3 ⟨rfl, rfl, rfl, hh⟩
        exact ih (k + 1) M2 (by omega) hh
      · rw [e5] at h5
        have eF : (L.take (k + 1)).filter (fun t => decide (S.1 5 t &&& nd = 0)) = F1 ++ [t] := by
          rw [etk, List.filter_append, hF1]
          congr 1
          rw [List.filter_cons_of_pos (by rw [decide_eq_true_iff]; exact h5)]
          rfl
        refine ⟨F1.length, rfl, by omega, ?_⟩
        rintro M2 rfl
        rw [eF, erd]
        have e1 : s_rdy1 w nd (s_rdy w nd S (L.take k)) t = s_rdy w nd S (L.take k) := if_pos (by rw [e5']; exact h5)
        rw [e1]
        refine ⟨rfl, by rw [nI_1, List.length_append, List.length_singleton], nI_1 k, ?_⟩
        have hc : chl M' (mp M' (43 + 2 * 0 + 1) F1.length (M' (43 + 2 * 0 + 1) k)) 0 (F1 ++ [t] ++ L.drop (F1 ++ [t]).length) := by
          have hlen2 : (F1 ++ [t] ++ L.drop (F1 ++ [t]).length).length = L.length := by
            rw [List.length_append, List.length_drop, List.length_append, List.length_singleton]; omega
          refine ⟨⟨by rw [mp_at, if_neg (by omega), h0.1, hlen, hlen2], fun j t' hj => ?_⟩, fun k h1 h2 => mp_ne _ _ _ _ h2⟩
          rw [Zat, List.length_append, List.length_singleton] at hj
          rw [mp_at, e44]
          by_cases q : j = F1.length
          · subst q
            rw [if_pos ⟨rfl, rfl⟩]
            rw [if_pos (by omega), List.getElem?_append_right (Nat.le_refl _), Nat.sub_self] at hj
            rw [← Option.some.inj hj]
          · rw [if_neg (fun z => q z.2)]
            refine h0.2 j t' ?_
            rw [Zat]
            by_cases z : j < F1.length
            · rw [if_pos z]
              rw [if_pos (by omega), List.getElem?_append_left z] at hj
              exact hj
            · rw [if_neg z]
              rw [if_neg (by omega)] at hj
              exact hj
        have := hX'.sq hc
        have e : sq (sq (s_rdy w nd S (L.take k)) 0 (F1 ++ L.drop F1.length)) 0 (F1 ++ [t] ++ L.drop (F1 ++ [t]).length) = sq (s_rdy w nd S (L.take k)) 0 (F1 ++ [t] ++ L.drop (F1 ++ [t]).length) := by
          refine Prod.ext rfl ?_
          funext l
          rw [sq_l, sq_l, sq_l]
          by_cases q : l = 0
          · rw [if_pos q, if_pos q]
          · rw [if_neg q, if_neg q, if_neg q]
        rw [e] at this
        exact this
      · rw [e5] at h5
        have eF : (L.take (k + 1)).filter (fun t => decide (S.1 5 t &&& nd = 0)) = F1 := by
          rw [etk, List.filter_append, hF1, List.filter_cons_of_neg (by rw [decide_eq_true_iff]; exact h5)]
          simp
        rw [e44, e0]
        refine ⟨_, kE_makeReady hJ hw M' hX' e00 (t := t) (k := w) (by omega) (Nat.le_refl _) ?_, fun M2 hM2 => ⟨rfl, by rw [eF], nI_1 k, ?_⟩⟩
        · show (va_up (s_rdy w nd S (L.take k)).2 0 (F1 ++ L.drop F1.length) (w + 1)).length < 24
          unfold va_up
          rw [if_neg (by omega), (rdy_at w nd S (L.take k)).2, if_pos rfl, List.length_append]
          have b1 := List.length_filter_le (fun t => decide (¬ S.1 5 t &&& nd = 0)) (L.take k)
          have b2 : (L.take k).length ≤ k := by rw [List.length_take]; omega
          have b3 : L.length = (S.2 0).length := by rw [hL]
          omega
        · rw [eF, erd]
          have e1 : s_rdy1 w nd (s_rdy w nd S (L.take k)) t = s_ready w (s_rdy w nd S (L.take k)) t w := if_neg (by rw [e5']; exact h5)
          rw [e1, ← ready_sq0]
          exact hM2
  refine sE_wakeParked_0 F hw hR (K4 := fun M' x1 x2 x3 => M' = M ∧ x1 = nd ∧ x2 = nI 0 ∧ x3 = nI 0) ?_ ⟨rfl, rfl, rfl, rfl⟩
  rintro M' x1 x2 x3 ⟨rfl, h1, rfl, rfl⟩
  rw [h1]
  refine lp L.length 0 M' (by omega) ?_
  have e : sq (s_rdy w nd S (L.take 0)) 0 ((L.take 0).filter (fun t => decide (S.1 5 t &&& nd = 0)) ++ L.drop ((L.take 0).filter (fun t => decide (S.1 5 t &&& nd = 0))).length) = S := by
    refine Prod.ext rfl ?_
    funext l
    rw [sq_l]
    by_cases q : l = 0
    · rw [if_pos q, q, ← hL]; simp
    · rw [if_neg q]; rfl
  rw [e]
  exact hX
theorem kE_leaveBody (hJ : IJ (sX D cI cZ cL cE a w)) {S : SS} (M : MM) (hX : RX w S M) (hF : WF w n S) {k t : Nat} (hk : k < w) (ht : t < n) (hr : S.1 37 k = nI t) : Ci l (sX D cI cZ cL cE a w) yE_leaveBody wE_leaveBody rmE_leaveBody [.ref (a 0), .int (nI k)] M (fun r M' => r = nI t ∧ RX w (s_leave w S t k) M') := by
  have hn := hF.le
  have hw := hF.w4
  have e37 : M 37 k = nI t := by rw [hX.at (by decide)]; exact hr
  refine oE_leaveBody hJ hw ⟨k, rfl, hk, ?_⟩
  rintro M5 rfl
  have hX5 := hX.sp (k := 37) (by decide) k (-1)
  have e5 : mp M 37 k (-1) 5 t = S.1 5 t := by rw [mp_at, if_neg (by omega)]; exact hX.at (by decide) t
  rw [e37]
  refine ⟨t, rfl, by omega, _, kP_giveBack hJ hw _ hX5 (mp M 37 k (-1) 5 t), fun M15 h15 => ?_⟩
  rw [e5] at h15
  have hk1 : kp1 w n S (s_give (sp S 37 k (-1)) (S.1 5 t) 4) := (kp1_sp S (by decide) (by decide) k (-1)).tr (kp1_give _ _ 4)
  have e5' : M15 5 t = S.1 5 t := by rw [h15.at (by decide), hk1.1 5 (by decide) (by decide)]
  refine ⟨_, kE_wakeParked hJ M15 h15 (hF.k hk1) (M15 5 t), fun M21 h21 => ⟨rfl, ?_⟩⟩
  rw [e5'] at h21
  exact h21
end CE5
def s_out (w : Nat) (c : Int32) (l : Nat) (S : SS) (t : Nat) (fl : Bool) : SS := if fl = false ∧ S.1 0 11 = 0 then s_pass w (sp S 38 t 0) t c l else sp S 38 t 0
def s_hurt (S : SS) (t : Nat) (fl : Bool) : SS := if fl = true then sp S 41 (tn (S.1 3 t)) 1 else S
/-- the parent that ends with t, none if there is none -/
def s_up (n : Nat) (S : SS) (t : Nat) (fl : Bool) : Option Nat × SS :=
  if S.1 3 t = -1 ∨ S.1 2 (tn (S.1 3 t)) ≠ 2 then (none, S)
  else if s_act n (s_hurt S t fl) (S.1 3 t) = true then (none, s_hurt S t fl) else (some (tn (S.1 3 t)), s_hurt S t fl)
def s_end (w n : Nat) (c : Int32) (l : Nat) : Nat → SS → Nat → Bool → Nat × SS
  | 0, S, _, _ => (0, S)
  | f + 1, S, t, fl => match s_up n (s_out w c l S t fl) t fl with
    | (none, S1) => (1, S1)
    | (some p, S1) => ((s_end w n c l f S1 p (decide (S1.1 41 p ≠ 0))).1 + 1, (s_end w n c l f S1 p (decide (S1.1 41 p ≠ 0))).2)
