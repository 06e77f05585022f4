/-! The reference: pass, end -/
def rt (w n : Nat) (S' : SS) (ex : Option Nat) (c b : Nat) (M' : MM) : Prop := ∃ c', c ≤ c' ∧ c' ≤ c + b ∧ RM w n S' M' ex c'
theorem RM_idle {w n : Nat} {S : SS} {M : MM} {ex : Option Nat} {c : Nat} (h : RM w n S M ex c) {t : Nat} (hx : ∀ i, ex = some i → i = t) : RM w n (sp S 38 t 0) (mp M 5 t 0) none c := by
  obtain ⟨⟨hg, a0, a8, a9, a14, b18, b19, b20, b21, b22, b23, b24⟩, hp, ⟨l1, l2, l3⟩, hh⟩ := h
  have row : ∀ k, k ≠ 5 → mp M 5 t 0 k = M k := fun k q => mp_ne _ _ _ _ q
  have s1 : ∀ k, k ≠ 38 → (sp S 38 t 0).1 k = S.1 k := fun k q => sp_ne S 38 t 0 k q
  refine ⟨⟨RG_keep hg (by rw [row 0 (by decide)]) (row 1 (by decide)) (row 2 (by decide)) (row 3 (by decide)) (row 4 (by decide)) (row 11 (by decide)) (row 12 (by decide)) (fr.sp S (by decide) t 0), ?_, ?_, ?_, ?_, ?_, ?_, ?_, ?_, ?_, ?_, ?_⟩, fun i hi => ⟨fun _ => ?_, fun q => by cases q⟩, ⟨?_, ?_, ?_⟩, fun q i hi h2 h38 => ?_⟩
  · rw [row 0 (by decide)]; exact a0
  · rw [row 8 (by decide), s1 39 (by decide)]; exact a8
  · rw [row 9 (by decide), s1 40 (by decide)]; exact a9
  · rw [row 14 (by decide), s1 35 (by decide)]; exact a14
  · rw [row 0 (by decide), s1 0 (by decide)]; exact b18
  · rw [row 0 (by decide), s1 0 (by decide)]; exact b19
  · rw [row 0 (by decide), s1 0 (by decide)]; exact b20
  · rw [row 0 (by decide), s1 0 (by decide)]; exact b21
  · rw [row 0 (by decide), s1 0 (by decide)]; exact b22
  · rw [row 0 (by decide), s1 0 (by decide)]; exact b23
  · rw [row 0 (by decide), s1 0 (by decide)]; exact b24
  · rw [mp_at, row 6 (by decide), sp_r]
    by_cases e : i = t
    · rw [if_pos ⟨rfl, e⟩, if_pos ⟨rfl, e⟩]; exact Or.inl ⟨rfl, rfl⟩
    · rw [if_neg (fun z => e z.2), if_neg (fun z => e z.2)]
      exact (hp i hi).1 (fun q => e (hx i q))
  · rw [row 0 (by decide)]; exact l1
  · rw [row 7 (by decide)]; exact l2
  · rw [row 7 (by decide)]; exact l3
  · rw [s1 0 (by decide)] at q
    rw [s1 2 (by decide)] at h2
    rw [sp_r] at h38
    rw [row 10 (by decide), s1 41 (by decide)]
    by_cases e : i = t
    · rw [if_pos ⟨rfl, e⟩] at h38; exact absurd h38 (by decide)
    · rw [if_neg (fun z => e z.2)] at h38; exact hh q i hi h2 h38
theorem RM_hu {w n : Nat} {S S' : SS} {M M' : MM} {ex : Option Nat} {c : Nat} (h : RM w n S M ex c) (h1 : ∀ k, k ≠ 41 → S'.1 k = S.1 k) (h2 : S'.2 = S.2) (h3 : ∀ k, k ≠ 10 → M' k = M k) (hh : RH n S' M') : RM w n S' M' ex c := by
  obtain ⟨⟨hg, a0, a8, a9, a14, b⟩, hp, ⟨l1, l2, l3⟩, -⟩ := h
  refine ⟨⟨RG_keep hg (by rw [h3 0 (by decide)]) (h3 1 (by decide)) (h3 2 (by decide)) (h3 3 (by decide)) (h3 4 (by decide)) (h3 11 (by decide)) (h3 12 (by decide)) (fun k _ hk => h1 k (by omega)), ?_, ?_, ?_, ?_, ?_⟩, ?_, ⟨?_, ?_, ?_⟩, hh⟩
  · rw [h3 0 (by decide)]; exact a0
  · rw [h3 8 (by decide), h1 39 (by decide)]; exact a8
  · rw [h3 9 (by decide), h1 40 (by decide)]; exact a9
  · rw [h3 14 (by decide), h1 35 (by decide)]; exact a14
  · rw [h3 0 (by decide), h1 0 (by decide)]; exact b
  · unfold RP; rw [h3 5 (by decide), h3 6 (by decide), h1 38 (by decide)]; exact hp
  · rw [h3 0 (by decide)]; exact l1
  · rw [h3 7 (by decide)]; exact l2
  · rw [h3 7 (by decide), h2]; exact l3
section DR9
variable {l : Launch} {D : va_G} {cI cZ : ClassId} {a : Nat → Nat} {w n : Nat}
theorem kR_pass (hJ : IJ (sM D cI cZ a)) {S : SS} (M : MM) {ex : Option Nat} {c : Nat} (hM : RM w n S M ex c) (hF : WF w n S) {t k : Nat} (ht : t < n) (y : Int32) (hk : k ≤ w) (hc : c + 6 < 2 ^ 31) : Cv l (sM D cI cZ a) yR_pass wR_pass rmR_pass [.ref (a 0), .int (nI t), .int (nI k), .int y] M (fun M' => rs w n (s_pass w S t y k) ex c 6 M M') := by
  have hn := hF.le
  have hG := hF.g
  have hw := hF.w4
  obtain ⟨h6, e6⟩ := hG.ecn ht
  have e1 : M 1 t = S.1 2 t := by rw [hM.g.2.1]
  have e11 : M 11 t = S.1 6 t := by rw [hM.g.2.2.2.2.2.1]
  refine oR_pass hJ (fun G hl hR F => ?_)
  subst hl
  have lp : ¬ S.1 2 t = 1 → ∀ m j M1 c1, j + m = tn (S.1 6 t) → c ≤ c1 → c1 ≤ c + j → RM w n (s_edges w t k S j) M1 ex c1 → M1 10 = M 10 → wx G (sM D cI cZ a) 6 (Qxv G (sM D cI cZ a) (fun M' => rs w n (s_pass w S t y k) ex c 6 M M')) M1 44 [(0, .ref (a 0)), (1, .int (nI t)), (2, .int (nI k)), (3, .int y), (4, .int (nI j))] [] := by
    intro h2 m
    induction m with
    | zero =>
      intro j M1 c1 hj hc0 hc1 hM1 h10
      have hj : j = tn (S.1 6 t) := by omega
      have f1 := (kp1_edges hw S hG ht hk j (by omega)).1
      have h4 : M1 11 t ≤ nI j := by rw [hM1.g.2.2.2.2.2.1, f1 6 (by decide) (by decide), e6]; exact (nle (by omega) (by omega)).mpr (by omega)
      refine sR_pass_44 F hR (K44 := fun _ _ _ _ _ => False) (fun _ _ _ _ _ q => q.elim) ⟨t, rfl, by omega, fun _ => ⟨⟨c1, hc0, by omega, ?_⟩, h10⟩, fun q => absurd h4 q⟩
      unfold s_pass
      rw [if_neg h2, ← hj]
      exact hM1
    | succ m ih =>
      intro j M1 c1 hj hc0 hc1 hM1 h10
      have hk1 := kp1_edges hw S hG ht hk j (by omega)
      have f1 := hk1.1
      have hF1 := hF.k hk1
      have h4 : ¬ M1 11 t ≤ nI j := by rw [hM1.g.2.2.2.2.2.1, f1 6 (by decide) (by decide), e6]; intro q; have := (nle (by omega) (by omega)).mp q; omega
      obtain ⟨hb, eb⟩ := hG.e1 ht (k := j) (by omega)
      have hg : ∃ b, b = tn (S.1 (10 + t) j) := ⟨_, rfl⟩
      obtain ⟨b, eb'⟩ := hg
      rw [← eb'] at hb eb
      have e12 : M1 12 (6 * t + j) = nI b := by rw [hM1.g.2.2.2.2.2.2 t j (by omega) (by omega), f1 (10 + t) (by omega) (by omega)]; exact eb
      have e8 : M1 8 b = (s_edges w t k S j).1 39 b := hM1.a.2.2.1 b (by omega)
      have hsj : s_edges w t k S (j + 1) = s_arrive w (s_edges w t k S j) b k := by rw [eb']; rfl
      refine sR_pass_44 F hR (K44 := fun M2 x1 x2 x3 x4 => x1 = nI t ∧ x2 = nI k ∧ x3 = y ∧ x4 = nI (j + 1) ∧ ∃ c2, c ≤ c2 ∧ c2 ≤ c + (j + 1) ∧ RM w n (s_edges w t k S (j + 1)) M2 ex c2 ∧ M2 10 = M 10) ?_ ⟨t, rfl, by omega, fun q => absurd q h4, fun _ => ⟨6 * t + j, n6 t j, by omega, b, e12, by omega, ?_⟩⟩
      · rintro M2 x1 x2 x3 x4 ⟨rfl, rfl, h3, rfl, c2, g0, g1, g2, g3⟩
        rw [h3]
        exact ih (j + 1) M2 c2 (by omega) g0 g1 g2 g3
      · rintro M14 rfl
        rw [e12]
        have hM2 := RM_came hM1 b (M1 8 b + 1)
        have hk2 := kp1_sp (w := w) (n := n) (s_edges w t k S j) (k := 39) (by decide) (by decide) b (M1 8 b + 1)
        refine ⟨_, kR_into1 hJ _ hM2.g (hF1.k hk2).g hb, ?_⟩
        rintro r M20 ⟨rfl, rfl⟩
        rw [mp_at, if_pos ⟨rfl, rfl⟩, e8, sp_r, if_neg (by omega)]
        refine ⟨fun h7 => ⟨rfl, rfl, rfl, nI_1 j, c1, hc0, by omega, ?_, ?_⟩, fun h7 => ?_⟩
        · rw [hsj]
          unfold s_arrive
          rw [if_neg h7]
          rw [e8] at hM2
          exact hM2
        · rw [mp_ne _ _ _ _ (by decide)]; exact h10
        · rintro M23 rfl
          have e : mp (mp M1 8 b ((s_edges w t k S j).1 39 b + 1)) 8 b 0 = mp M1 8 b 0 := by
            funext k' i
            rw [mp_at, mp_at, mp_at]
            by_cases q : k' = 8 ∧ i = b
            · rw [if_pos q, if_pos q]
            · rw [if_neg q, if_neg q, if_neg q]
          rw [e]
          have hM3 := RM_came hM1 b 0
          have hk3 := kp1_sp (w := w) (n := n) (s_edges w t k S j) (k := 39) (by decide) (by decide) b 0
          refine ⟨_, kR_token hJ _ hM3 (hF1.k hk3) hb hk (by omega), ?_⟩
          rintro M29 ⟨⟨c2, g0, g1, g2⟩, g3⟩
          refine ⟨rfl, rfl, rfl, nI_1 j, c2, by omega, by omega, ?_, ?_⟩
          · rw [hsj]
            unfold s_arrive
            rw [if_pos h7]
            exact g2
          · rw [g3, mp_ne _ _ _ _ (by decide)]; exact h10
  refine sR_pass_0 F hR (K44 := fun M' x1 x2 x3 x4 => M' = M ∧ x1 = nI t ∧ x2 = nI k ∧ x3 = y ∧ x4 = nI 0 ∧ ¬ S.1 2 t = 1) ?_ ⟨t, rfl, by omega, fun h => ⟨rfl, rfl, rfl, rfl, rfl, by rw [← e1]; exact h⟩, fun h => ⟨fun h1 => ⟨⟨c, by omega, by omega, ?_⟩, rfl⟩, fun h1 => ⟨fun h3 => ⟨⟨c, by omega, by omega, ?_⟩, rfl⟩, fun h3 => ?_⟩⟩⟩
  · rintro M' x1 x2 x3 x4 ⟨rfl, rfl, rfl, h3, rfl, hh⟩
    rw [h3]
    exact lp hh (tn (S.1 6 t)) 0 M' c (by omega) (by omega) (by omega) hM rfl
  · unfold s_pass
    rw [if_pos (e1.symm.trans h), if_neg]
    · exact hM
    · rw [isT, decide_eq_true_iff]
      exact fun q => Int32.not_lt.mpr q.1 h1
  · unfold s_pass
    rw [if_pos (e1.symm.trans h), if_neg]
    · exact hM
    · rw [isT, decide_eq_true_iff, ← e6, ← e11]
      exact fun q => Int32.not_lt.mpr h3 q.2
  · have hT : isT (tn (S.1 6 t)) y = true := by
      rw [isT, decide_eq_true_iff, ← e6, ← e11]
      exact ⟨Int32.not_lt.mp h1, Int32.not_le.mp h3⟩
    obtain ⟨j, hj, rfl⟩ := isT_of (by omega) hT
    obtain ⟨hb, eb⟩ := hG.e1 ht hj
    refine ⟨6 * t + j, n6 t j, by omega, ?_⟩
    rw [hM.g.2.2.2.2.2.2 t j (by omega) (by omega), eb]
    refine ⟨_, kR_token hJ M hM hF hb hk (by omega), ?_⟩
    rintro M16 ⟨⟨c2, g0, g1, g2⟩, g3⟩
    refine ⟨⟨c2, g0, by omega, ?_⟩, g3⟩
    unfold s_pass
    rw [if_pos (e1.symm.trans h), if_pos hT, tnI (show j < 1000 by omega)]
    exact g2
theorem s_out_11 (c : Int32) (k : Nat) {S : SS} (hG : GR n S.1) {t : Nat} (ht : t < n) (fl : Bool) : (s_out w c k S t fl).1 0 11 = S.1 0 11 := (ef_out w c k S hG ht fl).2.2.1 11 (by decide)
theorem kR_end (hJ : IJ (sM D cI cZ a)) {S : SS} (M : MM) {ex : Option Nat} {c : Nat} (hM : RM w n S M ex c) (hF : WF w n S) (hW : JW n S) {t k : Nat} (hP : PE w n S t) (hk : k ≤ w) (hx : ∀ i, ex = some i → i = t) (y : Int32) (fl : Bool) (x : Int32) (hfl : S.1 0 11 = 0 → (fl = true ↔ (¬ x = 0 ∨ (S.1 2 t = 2 ∧ ¬ M 10 t = 0)))) (hc : c + 30 < 2 ^ 31) : Ci l (sM D cI cZ a) yR_end wR_end rmR_end [.ref (a 0), .int (nI t), .int (nI k), .int y, .int x] M (fun r M' => r = nI (s_end w n y k 5 S t fl).1 ∧ rt w n (s_end w n y k 5 S t fl).2 none c 30 M') := by
  have hn := hF.le
  have hw := hF.w4
  refine oR_end hJ (fun G hl hR F => ?_)
  subst hl
  have lp : ∀ f v, v + f = 5 → ∀ (z1 z4 z7 : Int32) (e : Nat) (o : Option Nat) (fl' : Bool) (S1 : SS) (M1 : MM) (ex1 : Option Nat) (c1 : Nat), c ≤ c1 → c1 ≤ c + 6 * v → WF w n S1 → JW n S1 → RM w n S1 M1 ex1 c1 → (∀ p, o = some p → PE w n S1 p ∧ (∀ i, ex1 = some i → i = p) ∧ (S1.1 0 11 = 0 → (fl' = true ↔ (¬ z7 = 0 ∨ (S1.1 2 p = 2 ∧ ¬ M1 10 p = 0))))) → (o = none → ex1 = none) → (v = 5 → ex1 = none) → e ≤ v →
      (match o with | none => s_end w n y k 5 S t fl = (e, S1) | some p => s_end w n y k 5 S t fl = (e + (s_end w n y k f S1 p fl').1, (s_end w n y k f S1 p fl').2)) →
      wx G (sM D cI cZ a) 10 (Qxi G (sM D cI cZ a) (fun r M' => r = nI (s_end w n y k 5 S t fl).1 ∧ rt w n (s_end w n y k 5 S t fl).2 none c 30 M')) M1 13 [(0, .ref (a 0)), (1, .int z1), (2, .int (nI k)), (3, .int y), (4, .int z4), (5, .int (oN o)), (6, .int (nI e)), (7, .int z7), (8, .int (nI v))] [] := by
    intro f
    induction f with
    | zero =>
      intro v hv z1 z4 z7 e o fl' S1 M1 ex1 c1 hc0 hc1 hF1 hW1 hM1 hP1 hxn hx5 he hs
      have h4 : (5 : Int32) ≤ nI v := (nle (a := 5) (by omega) (by omega)).mpr (by omega)
      refine sR_end_13 F hR (K71 := fun _ _ _ _ _ _ _ _ _ => False) (fun _ _ _ _ _ _ _ _ _ q => q.elim) ⟨fun _ => ?_, fun q => absurd h4 q⟩
      rw [hx5 (by omega)] at hM1
      cases o with
      | none => rw [hs]; exact ⟨rfl, c1, hc0, by omega, hM1⟩
      | some p => rw [hs]; exact ⟨rfl, c1, hc0, by omega, hM1⟩
    | succ f ih =>
      intro v hv z1 z4 z7 e o fl' S1 M1 ex1 c1 hc0 hc1 hF1 hW1 hM1 hP1 hxn hx5 he hs
      have h4 : ¬ (5 : Int32) ≤ nI v := fun q => by
        have := (nle (a := 5) (by omega) (by omega)).mp q
        omega
      cases o with
      | none =>
        refine sR_end_13 F hR (K71 := fun _ _ _ _ _ _ _ _ _ => False) (fun _ _ _ _ _ _ _ _ _ q => q.elim) ⟨fun q => absurd q h4, fun _ => ⟨fun _ => ?_, fun q => absurd (show (-1 : Int32) < 0 by decide) q⟩⟩
        rw [hxn rfl] at hM1
        rw [hs]
        exact ⟨rfl, c1, hc0, by omega, hM1⟩
      | some p =>
        obtain ⟨hP2, hx2, hfl2⟩ := hP1 p rfl
        have hpn := hP2.1
        obtain ⟨i1, i2, i3⟩ := idle_inv hF1 hW1 hP2
        obtain ⟨o1, o2, o3⟩ := out_inv hF1 hW1 hP2 y hk fl'
        have hF2 := hF1.k o1
        obtain ⟨u1, u2, u3⟩ := up_inv hF2 o2 hpn o3 fl'
        have hMi := RM_idle hM1 hx2
        have hFi := hF1.k i1
        have e1p : M1 1 p = S1.1 2 p := by rw [hM1.g.2.1]
        have row1 : mp M1 5 p 0 1 p = S1.1 2 p := by rw [mp_at, if_neg (by omega)]; exact e1p
        have row10 : mp M1 5 p 0 10 p = M1 10 p := by rw [mp_at, if_neg (by omega)]
        have h91 : ∀ (z1 z4 z7 : Int32) (M2 : MM) (c2 : Nat), c ≤ c2 → c2 ≤ c + 6 * (v + 1) → RM w n (s_out w y k S1 p fl') M2 none c2 → (S1.1 0 11 = 0 → (¬ z7 = 0 ↔ fl' = true)) → wx G (sM D cI cZ a) 10 (Qxi G (sM D cI cZ a) (fun r M' => r = nI (s_end w n y k 5 S t fl).1 ∧ rt w n (s_end w n y k 5 S t fl).2 none c 30 M')) M2 91 [(0, .ref (a 0)), (1, .int z1), (2, .int (nI k)), (3, .int y), (4, .int z4), (5, .int (nI p)), (6, .int (nI (e + 1))), (7, .int z7), (8, .int (nI v))] [] := by
          intro z1 z4 z7 M2 c2 hc20 hc2 hM2 hz7
          have e2 : M2 2 p = S1.1 3 p := by rw [hM2.g.2.2.1, o1.1 3 (by decide) (by decide)]
          have e11 : (s_out w y k S1 p fl').1 0 11 = S1.1 0 11 := s_out_11 y k hF1.g hpn fl'
          have h118 : ∀ (M3 : MM) (x9 : Int32), x9 = S1.1 3 p → RM w n (s_up n (s_out w y k S1 p fl') p fl').2 M3 none c2 → (∀ i, i < 24 → M3 5 i = M2 5 i) → wx G (sM D cI cZ a) 10 (Qxi G (sM D cI cZ a) (fun r M' => r = nI (s_end w n y k 5 S t fl).1 ∧ rt w n (s_end w n y k 5 S t fl).2 none c 30 M')) M3 118 [(0, .ref (a 0)), (1, .int z1), (2, .int (nI k)), (3, .int y), (4, .int z4), (5, .int (nI p)), (6, .int (nI (e + 1))), (7, .int z7), (8, .int (nI v)), (9, .int x9)] [] := by
            intro M3 x9 hx9 hM3 _
            have hF3 := hF2.k u1
            have k2 : ∀ q, (s_up n (s_out w y k S1 p fl') p fl').2.1 2 q = S1.1 2 q := fun q => by rw [u1.1 2 (by decide) (by decide), o1.1 2 (by decide) (by decide)]
            have o3' : (s_out w y k S1 p fl').1 3 p = S1.1 3 p := by rw [o1.1 3 (by decide) (by decide)]
            have o2' : ∀ q, (s_out w y k S1 p fl').1 2 q = S1.1 2 q := fun q => by rw [o1.1 2 (by decide) (by decide)]
            have stop : (s_up n (s_out w y k S1 p fl') p fl').1 = none → wx G (sM D cI cZ a) 10 (Qxi G (sM D cI cZ a) (fun r M' => r = nI (s_end w n y k 5 S t fl).1 ∧ rt w n (s_end w n y k 5 S t fl).2 none c 30 M')) M3 13 [(0, .ref (a 0)), (1, .int z1), (2, .int (nI k)), (3, .int y), (4, .int z4), (5, .int (-1)), (6, .int (nI (e + 1))), (7, .int 0), (8, .int (nI (v + 1)))] [] := fun hno => by
              refine ih (v + 1) (by omega) z1 z4 0 (e + 1) none false _ M3 none c2 hc20 hc2 hF3 u2 hM3 (fun p q => by cases q) (fun _ => rfl) (fun _ => rfl) (by omega) ?_
              show s_end w n y k 5 S t fl = (e + 1, _)
              rw [hs, s_end]
              cases hu : s_up n (s_out w y k S1 p fl') p fl' with
              | mk o S2 =>
                rw [hu] at hno
                have hno : o = none := hno
                subst hno
                rfl
            refine sR_end_118 F hR (K13 := fun M4 y1 y2 y3 y4 y5 y6 y7 y8 => M4 = M3 ∧ y1 = z1 ∧ y2 = nI k ∧ y3 = y ∧ y4 = z4 ∧ y6 = nI (e + 1) ∧ y7 = 0 ∧ y8 = nI (v + 1) ∧ y5 = oN (s_up n (s_out w y k S1 p fl') p fl').1) ?_ ?_
            · rintro M4 y1 y2 y3 y4 y5 y6 y7 y8 ⟨rfl, rfl, rfl, h3, rfl, rfl, rfl, rfl, rfl⟩
              rw [h3]
              cases hu : (s_up n (s_out w y k S1 p fl') p fl').1 with
              | none => exact stop hu
              | some p2 =>
                have hu3 := u3 p2 hu
                refine ih (v + 1) (by omega) y1 y4 0 (e + 1) (some p2) (decide ((s_up n (s_out w y k S1 p fl') p fl').2.1 41 p2 ≠ 0)) _ M4 none c2 hc20 hc2 hF3 u2 hM3 (fun q hq => ?_) (fun q => by cases q) (fun _ => rfl) (by omega) ?_
                · cases hq
                  refine ⟨hu3.1, (fun i q => by cases q), fun hcan => ?_⟩
                  have h38 : (s_up n (s_out w y k S1 p fl') p fl').2.1 38 p2 = 2 := by
                    have hup := hu
                    unfold s_up at hup ⊢
                    by_cases q1 : (s_out w y k S1 p fl').1 3 p = -1 ∨ (s_out w y k S1 p fl').1 2 (tn ((s_out w y k S1 p fl').1 3 p)) ≠ 2
                    · rw [if_pos q1] at hup; cases hup
                    · rw [if_neg q1] at hup ⊢
                      by_cases q2 : s_act n (s_hurt (s_out w y k S1 p fl') p fl') ((s_out w y k S1 p fl').1 3 p) = true
                      · rw [if_pos q2] at hup; cases hup
                      · rw [if_neg q2] at hup ⊢
                        show (s_hurt (s_out w y k S1 p fl') p fl').1 38 p2 = 2
                        rw [hurt_38]
                        refine o3 p2 hu3.1.1 hu3.2 ?_
                        have q3 := Classical.byContradiction fun z => q1 (Or.inr z)
                        have q4 : tn ((s_out w y k S1 p fl').1 3 p) = p2 := Option.some.inj hup
                        rw [q4] at q3
                        exact q3
                  have hk2 : (s_up n (s_out w y k S1 p fl') p fl').2.1 2 p2 = 2 := by
                    have hup := hu
                    unfold s_up at hup
                    by_cases q1 : (s_out w y k S1 p fl').1 3 p = -1 ∨ (s_out w y k S1 p fl').1 2 (tn ((s_out w y k S1 p fl').1 3 p)) ≠ 2
                    · rw [if_pos q1] at hup; cases hup
                    · rw [if_neg q1] at hup
                      by_cases q2 : s_act n (s_hurt (s_out w y k S1 p fl') p fl') ((s_out w y k S1 p fl').1 3 p) = true
                      · rw [if_pos q2] at hup; cases hup
                      · rw [if_neg q2] at hup
                        have q3 := Classical.byContradiction fun z => q1 (Or.inr z)
                        have q4 : tn ((s_out w y k S1 p fl').1 3 p) = p2 := Option.some.inj hup
                        rw [q4] at q3
                        rw [k2, ← o2']
                        exact q3
                  rw [decide_eq_true_iff]
                  have hr := hM3.h hcan p2 hu3.1.1 hk2 h38
                  exact ⟨fun z => Or.inr ⟨hk2, fun w => z (hr.mp w)⟩, fun z => z.elim (fun w => absurd rfl w) (fun w q => w.2 (hr.mpr q))⟩
                · show s_end w n y k 5 S t fl = (e + 1 + _, _)
                  rw [hs, s_end]
                  cases hu' : s_up n (s_out w y k S1 p fl') p fl' with
                  | mk o S2 =>
                    rw [hu'] at hu
                    have hu : o = some p2 := hu
                    subst hu
                    simp only []
                    rw [show e + ((s_end w n y k f S2 p2 (decide (S2.1 41 p2 ≠ 0))).1 + 1) = e + 1 + (s_end w n y k f S2 p2 (decide (S2.1 41 p2 ≠ 0))).1 by omega]
            · refine ⟨fun h5 => ⟨rfl, rfl, rfl, rfl, rfl, rfl, rfl, rfl.trans (nI_1 v), ?_⟩, fun h5 => ?_⟩
              · have : S1.1 3 p = -1 := by
                  rcases hF1.g.par p hpn with q | ⟨q, q1, q2⟩
                  · exact q
                  · rw [hx9, q2] at h5; exact absurd h5 (nneg (by omega))
                unfold s_up
                rw [if_pos (Or.inl (o3'.trans this))]
                rfl
              · obtain ⟨q, q1, q2⟩ : ∃ q, q < p ∧ S1.1 3 p = nI q := by
                  rcases hF1.g.par p hpn with z | z
                  · rw [hx9, z] at h5; exact absurd (by decide) h5
                  · exact z
                have et : tn ((s_out w y k S1 p fl').1 3 p) = q := by rw [o3', q2]; exact tnI (by omega)
                have hne : ¬ (s_out w y k S1 p fl').1 3 p = -1 := by rw [o3', q2]; exact nm1 (by omega)
                have e1q : M3 1 q = S1.1 2 q := by rw [hM3.g.2.1, u1.1 2 (by decide) (by decide), o1.1 2 (by decide) (by decide)]
                refine ⟨q, hx9.trans q2, by omega, fun h6 => ⟨rfl, rfl, rfl, rfl, rfl, rfl, rfl, nI_1 v, ?_⟩, fun h6 => ⟨_, kR_activeChild hJ M3 hM3 hw hn x9, ?_⟩⟩
                · unfold s_up
                  rw [if_pos (Or.inr (by rw [et, o2', ← e1q]; exact h6))]
                  rfl
                · rintro r M4 ⟨rfl, rfl⟩
                  have hs2 : s_up n (s_out w y k S1 p fl') p fl' = if s_act n (s_hurt (s_out w y k S1 p fl') p fl') ((s_out w y k S1 p fl').1 3 p) = true then (none, s_hurt (s_out w y k S1 p fl') p fl') else (some (tn ((s_out w y k S1 p fl').1 3 p)), s_hurt (s_out w y k S1 p fl') p fl') := by
                    conv => lhs; unfold s_up
                    rw [if_neg (fun z => z.elim hne (fun z => z (by rw [et, o2', ← e1q]; exact h6)))]
                  have hup2 : (s_up n (s_out w y k S1 p fl') p fl').2 = s_hurt (s_out w y k S1 p fl') p fl' := by
                    rw [hs2]
                    by_cases z : s_act n (s_hurt (s_out w y k S1 p fl') p fl') ((s_out w y k S1 p fl').1 3 p) = true
                    · rw [if_pos z]
                    · rw [if_neg z]
                  rw [hup2]
                  rw [hs2, o3', ← hx9]
                  cases hA : s_act n (s_hurt (s_out w y k S1 p fl') p fl') x9 with
                  | true => exact ⟨fun _ => ⟨rfl, rfl, rfl, rfl, rfl, rfl, rfl, nI_1 v, rfl⟩, fun z => absurd z (by decide)⟩
                  | false =>
                    refine ⟨fun z => absurd rfl z, fun _ => ⟨rfl, rfl, rfl, rfl, rfl, rfl, rfl, nI_1 v, ?_⟩⟩
                    show x9 = nI (tn x9)
                    rw [hx9, q2, tnI (by omega)]
          have hrows : ∀ q, (∀ k, k ≠ 10 → mp M2 10 q 1 k = M2 k) := fun q k hk => mp_ne _ _ _ _ hk
          have stay : (S1.1 0 11 = 0 → fl' = true → S1.1 3 p = -1 ∨ S1.1 2 (tn (S1.1 3 p)) ≠ 2) → RM w n (s_up n (s_out w y k S1 p fl') p fl').2 M2 none c2 := fun hq => by
            have o3' : (s_out w y k S1 p fl').1 3 p = S1.1 3 p := by rw [o1.1 3 (by decide) (by decide)]
            have o2' : ∀ q, (s_out w y k S1 p fl').1 2 q = S1.1 2 q := fun q => by rw [o1.1 2 (by decide) (by decide)]
            have t1 := tf_up (n := n) (s_out w y k S1 p fl') p fl'
            have key : (s_up n (s_out w y k S1 p fl') p fl').2 = s_out w y k S1 p fl' ∨ S1.1 0 11 ≠ 0 := by
              by_cases hcan : S1.1 0 11 = 0
              · left
                unfold s_up
                rw [o3', o2']
                by_cases z : S1.1 3 p = -1 ∨ S1.1 2 (tn (S1.1 3 p)) ≠ 2
                · rw [if_pos z]
                · rw [if_neg z]
                  have hff : fl' = false := by
                    cases fl'
                    · rfl
                    · exact absurd (hq hcan rfl) z
                  have hhu : s_hurt (s_out w y k S1 p fl') p fl' = s_out w y k S1 p fl' := by unfold s_hurt; rw [if_neg (by rw [hff]; exact Bool.false_ne_true)]
                  rw [hhu]
                  by_cases y2 : s_act n (s_out w y k S1 p fl') (S1.1 3 p) = true
                  · rw [if_pos y2]
                  · rw [if_neg y2]
              · exact Or.inr hcan
            rcases key with z | z
            · rw [z]; exact hM2
            · have up41 : (∀ k, k ≠ 41 → (s_up n (s_out w y k S1 p fl') p fl').2.1 k = (s_out w y k S1 p fl').1 k) ∨ True := Or.inr trivial
              have hup : (s_up n (s_out w y k S1 p fl') p fl').2 = s_out w y k S1 p fl' ∨ (s_up n (s_out w y k S1 p fl') p fl').2 = sp (s_out w y k S1 p fl') 41 (tn ((s_out w y k S1 p fl').1 3 p)) 1 := by
                unfold s_up
                by_cases z1 : (s_out w y k S1 p fl').1 3 p = -1 ∨ (s_out w y k S1 p fl').1 2 (tn ((s_out w y k S1 p fl').1 3 p)) ≠ 2
                · rw [if_pos z1]; exact Or.inl rfl
                · rw [if_neg z1]
                  have hhu : s_hurt (s_out w y k S1 p fl') p fl' = s_out w y k S1 p fl' ∨ s_hurt (s_out w y k S1 p fl') p fl' = sp (s_out w y k S1 p fl') 41 (tn ((s_out w y k S1 p fl').1 3 p)) 1 := by
                    unfold s_hurt
                    by_cases z2 : fl' = true
                    · rw [if_pos z2]; exact Or.inr rfl
                    · rw [if_neg z2]; exact Or.inl rfl
                  by_cases z2 : s_act n (s_hurt (s_out w y k S1 p fl') p fl') ((s_out w y k S1 p fl').1 3 p) = true
                  · rw [if_pos z2]; exact hhu
                  · rw [if_neg z2]; exact hhu
              rcases hup with h9 | h9
              · rw [h9]; exact hM2
              · rw [h9]
                refine RM_hu hM2 (fun k hk => sp_ne _ 41 _ 1 k hk) rfl (fun _ _ => rfl) (fun hcan => ?_)
                rw [sp_r, if_neg (by omega), e11] at hcan
                exact absurd hcan z
          refine sR_end_91 F hR (K118 := fun M3 y1 y2 y3 y4 y5 y6 y7 y8 y9 => y1 = z1 ∧ y2 = nI k ∧ y3 = y ∧ y4 = z4 ∧ y5 = nI p ∧ y6 = nI (e + 1) ∧ y7 = z7 ∧ y8 = nI v ∧ y9 = S1.1 3 p ∧ RM w n (s_up n (s_out w y k S1 p fl') p fl').2 M3 none c2 ∧ (∀ i, i < 24 → M3 5 i = M2 5 i)) ?_ ⟨p, rfl, by omega, fun h5 => ⟨rfl, rfl, rfl, rfl, rfl, rfl, rfl, rfl, e2, stay (fun _ _ => Or.inl ?_), fun _ _ => rfl⟩, fun h5 => ⟨fun h6 => ⟨rfl, rfl, rfl, rfl, rfl, rfl, rfl, rfl, e2, stay (fun hcan hf => absurd h6 ((hz7 hcan).mpr hf)), fun _ _ => rfl⟩, fun h6 => ?_⟩⟩
          · rintro M3 y1 y2 y3 y4 y5 y6 y7 y8 y9 ⟨rfl, rfl, h3, rfl, rfl, rfl, rfl, rfl, h9, g1, g2⟩
            rw [h3]
            exact h118 M3 y9 h9 g1 g2
          · rcases hF1.g.par p hpn with q | ⟨q, q1, q2⟩
            · exact q
            · rw [e2, q2] at h5; exact absurd h5 (nneg (by omega))
          · obtain ⟨q, q1, q2⟩ : ∃ q, q < p ∧ S1.1 3 p = nI q := by
              rcases hF1.g.par p hpn with z | z
              · rw [e2, z] at h5; exact absurd (by decide) h5
              · exact z
            refine ⟨q, e2.trans q2, by omega, ?_⟩
            rintro M7 rfl
            refine ⟨rfl, rfl, rfl, rfl, rfl, rfl, rfl, rfl, e2, ?_, fun i _ => by rw [mp_at, if_neg (by omega)]⟩
            by_cases hcan : S1.1 0 11 = 0
            · have hff : fl' = true := (hz7 hcan).mp h6
              have o3' : (s_out w y k S1 p fl').1 3 p = S1.1 3 p := by rw [o1.1 3 (by decide) (by decide)]
              have o2' : ∀ q, (s_out w y k S1 p fl').1 2 q = S1.1 2 q := fun q => by rw [o1.1 2 (by decide) (by decide)]
              have et : tn (S1.1 3 p) = q := by rw [q2]; exact tnI (by omega)
              by_cases hk2 : S1.1 2 q = 2
              · have hup : (s_up n (s_out w y k S1 p fl') p fl').2 = sp (s_out w y k S1 p fl') 41 q 1 := by
                  have hhu : s_hurt (s_out w y k S1 p fl') p fl' = sp (s_out w y k S1 p fl') 41 q 1 := by unfold s_hurt; rw [if_pos hff, o3', et]
                  unfold s_up
                  rw [o3', o2', et, if_neg (fun z => z.elim (fun z => nm1 (show q < 1000 by omega) (q2.symm.trans z)) (fun z => z hk2)), hhu]
                  by_cases z2 : s_act n (sp (s_out w y k S1 p fl') 41 q 1) (S1.1 3 p) = true
                  · rw [if_pos z2]
                  · rw [if_neg z2]
                rw [hup]
                refine RM_hu hM2 (fun k hk => sp_ne _ 41 _ 1 k hk) rfl (hrows q) (fun hcan' i hi h2 h38 => ?_)
                rw [sp_r, mp_at]
                by_cases z : i = q
                · rw [if_pos ⟨rfl, z⟩, if_pos ⟨rfl, z⟩]
                · rw [if_neg (fun w => z w.2), if_neg (fun w => z w.2)]
                  rw [sp_ne _ 41 _ 1 2 (by decide)] at h2
                  rw [sp_ne _ 41 _ 1 38 (by decide)] at h38
                  exact hM2.h (e11.trans hcan) i hi h2 h38
              · have hup : (s_up n (s_out w y k S1 p fl') p fl').2 = s_out w y k S1 p fl' := by
                  unfold s_up
                  rw [o3', o2', et, if_pos (Or.inr hk2)]
                rw [hup]
                refine RM_hu hM2 (fun _ _ => rfl) rfl (hrows q) (fun hcan' i hi h2 h38 => ?_)
                rw [mp_at]
                by_cases z : i = q
                · rw [z, o2'] at h2; exact absurd h2 hk2
                · rw [if_neg (fun w => z w.2)]; exact hM2.h hcan' i hi h2 h38
            · have hst := stay (fun z => absurd z hcan)
              refine RM_hu hst (fun _ _ => rfl) rfl (hrows q) (fun hcan' => ?_)
              have t1 := (tf_up (n := n) (s_out w y k S1 p fl') p fl').2.2.1 11 (by decide)
              rw [t1, e11] at hcan'
              exact absurd hcan' hcan
        have h71 : ∀ (z1 z4 z7 : Int32), (S1.1 0 11 = 0 → (¬ z7 = 0 ↔ fl' = true)) → wx G (sM D cI cZ a) 10 (Qxi G (sM D cI cZ a) (fun r M' => r = nI (s_end w n y k 5 S t fl).1 ∧ rt w n (s_end w n y k 5 S t fl).2 none c 30 M')) (mp M1 5 p 0) 71 [(0, .ref (a 0)), (1, .int z1), (2, .int (nI k)), (3, .int y), (4, .int z4), (5, .int (nI p)), (6, .int (nI (e + 1))), (7, .int z7), (8, .int (nI v))] [] := by
          intro z1 z4 z7 hz7
          have e19 : mp M1 5 p 0 0 19 = S1.1 0 11 := by rw [mp_at, if_neg (by omega)]; exact RA.sc hM1.a 11 (by decide) (by decide)
          have nopass : ¬ (fl' = false ∧ S1.1 0 11 = 0) → RM w n (s_out w y k S1 p fl') (mp M1 5 p 0) none c1 := fun q => by
            unfold s_out
            rw [if_neg q]
            exact hMi
          refine sR_end_71 F hR (K91 := fun M2 y1 y2 y3 y4 y5 y6 y7 y8 => y1 = z1 ∧ y2 = nI k ∧ y3 = y ∧ y4 = z4 ∧ y5 = nI p ∧ y6 = nI (e + 1) ∧ y7 = z7 ∧ y8 = nI v ∧ ∃ c2, c ≤ c2 ∧ c2 ≤ c + 6 * (v + 1) ∧ RM w n (s_out w y k S1 p fl') M2 none c2) ?_ ⟨fun h5 => ⟨rfl, rfl, rfl, rfl, rfl, rfl, rfl, rfl, c1, hc0, by omega, nopass (fun q => by have := (hz7 q.2).mp h5; rw [q.1] at this; exact Bool.false_ne_true this)⟩, fun h5 => ⟨fun h6 => ⟨rfl, rfl, rfl, rfl, rfl, rfl, rfl, rfl, c1, hc0, by omega, nopass (fun q => h6 (e19.trans q.2))⟩, fun h6 => ⟨_, kR_pass hJ _ hMi hFi hpn y hk (by omega), ?_⟩⟩⟩
          · rintro M2 y1 y2 y3 y4 y5 y6 y7 y8 ⟨rfl, rfl, h3, rfl, rfl, rfl, rfl, rfl, c2, g1, g2, g3⟩
            rw [h3]
            exact h91 y1 y4 y7 M2 c2 g1 g2 g3 hz7
          · rintro M7 ⟨⟨c2, g1, g2, g3⟩, -⟩
            refine ⟨rfl, rfl, rfl, rfl, rfl, rfl, rfl, rfl, c2, by omega, by omega, ?_⟩
            have hcan := e19.symm.trans h6
            have hff : fl' = false := by
              cases hf : fl'
              · rfl
              · exact absurd h5 ((hz7 hcan).mpr hf)
            unfold s_out
            rw [if_pos ⟨hff, hcan⟩]
            exact g3
        refine sR_end_13 F hR (K71 := fun M3 y1 y2 y3 y4 y5 y6 y7 y8 => M3 = mp M1 5 p 0 ∧ y1 = z1 ∧ y2 = nI k ∧ y3 = y ∧ y4 = z4 ∧ y5 = nI p ∧ y6 = nI (e + 1) ∧ y8 = nI v ∧ (S1.1 0 11 = 0 → (¬ y7 = 0 ↔ fl' = true))) ?_ ⟨fun q => absurd q h4, fun _ => ⟨fun q => absurd q (nneg (by omega)), fun _ => ⟨p, rfl, by omega, ?_⟩⟩⟩
        · rintro M3 y1 y2 y3 y4 y5 y6 y7 y8 ⟨rfl, rfl, rfl, h3, rfl, rfl, rfl, rfl, g⟩
          rw [h3]
          exact h71 y1 y4 y7 g
        · rintro M3 rfl
          rw [row1, row10]
          refine ⟨fun h5 => ⟨rfl, rfl, rfl, rfl, rfl, rfl, nI_1 e, rfl, fun hcan => ⟨fun _ => (hfl2 hcan).mpr (Or.inl h5), fun _ => by decide⟩⟩, fun h5 => ⟨fun h6 => ⟨rfl, rfl, rfl, rfl, rfl, rfl, nI_1 e, rfl, fun hcan => ⟨fun q => absurd rfl q, fun q => ?_⟩⟩, fun h6 => ⟨fun h7 => ⟨rfl, rfl, rfl, rfl, rfl, rfl, nI_1 e, rfl, fun hcan => ⟨fun q => absurd rfl q, fun q => ?_⟩⟩, fun h7 => ⟨rfl, rfl, rfl, rfl, rfl, rfl, nI_1 e, rfl, fun hcan => ⟨fun _ => (hfl2 hcan).mpr (Or.inr ⟨h6, h7⟩), fun _ => by decide⟩⟩⟩⟩⟩
          · rcases (hfl2 hcan).mp q with z | z
            · exact absurd h5 z
            · exact absurd z.1 h6
          · rcases (hfl2 hcan).mp q with z | z
            · exact absurd h5 z
            · exact absurd h7 z.2
  refine sR_end_0 F hR (K13 := fun M' x1 x2 x3 x4 x5 x6 x7 x8 => M' = M ∧ x2 = nI k ∧ x3 = y ∧ x5 = oN (some t) ∧ x6 = nI 0 ∧ x7 = x ∧ x8 = nI 0) ?_ ⟨rfl, rfl, rfl, rfl, rfl, rfl, rfl⟩
  rintro M' x1 x2 x3 x4 x5 x6 x7 x8 ⟨rfl, rfl, h3, rfl, rfl, rfl, rfl⟩
  rw [h3]
  exact lp 5 0 rfl x1 x4 x7 0 (some t) fl S M' ex c (by omega) (by omega) hF hW hM (fun p q => by cases q; exact ⟨hP, hx, hfl⟩) (fun q => by cases q) (fun q => absurd q (by decide)) (Nat.le_refl _) (by show s_end w n y k 5 S t fl = (0 + _, _); rw [Nat.zero_add])
end DR9
