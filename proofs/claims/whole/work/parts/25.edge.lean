/-! edge, capacity; and what each call of the class does -/
def s_ae1 (S : SS) (a b : Nat) : SS := sp (sp (sp S (10 + a) (tn (S.1 6 a)) (nI b)) 6 a (nI (tn (S.1 6 a) + 1))) 7 b (S.1 7 b + 1)
def s_ae (S : SS) (a b : Nat) : SS := if S.1 2 a = 1 then s_ae1 S a b else sp (s_ae1 S a b) 8 b (S.1 8 b + 1)
def s_edge (n : Nat) (S : SS) (x y : Int32) : Int32 × SS := if S.1 0 10 ≠ 0 ∨ ¬ s_takesE n S.1 x y = true then (0, S) else (1, s_ae S (tn x) (tn y))
def s_cap (S : SS) (x u : Int32) : Int32 × SS := if S.1 0 10 ≠ 0 ∨ ¬ isT 4 x = true ∨ u < 1 ∨ ¬ u ≤ 4 then (0, S) else (1, sp S 35 (tn x) u)
theorem s_ae1_at (S : SS) (a b k i : Nat) : (s_ae1 S a b).1 k i = if k = 7 ∧ i = b then S.1 7 b + 1 else if k = 6 ∧ i = a then nI (tn (S.1 6 a) + 1) else if k = 10 + a ∧ i = tn (S.1 6 a) then nI b else S.1 k i := by
  unfold s_ae1
  rw [sp_r, sp_r, sp_r]
theorem s_ae_at (S : SS) (a b k i : Nat) : (s_ae S a b).1 k i = if k = 8 ∧ i = b ∧ S.1 2 a ≠ 1 then S.1 8 b + 1 else if k = 7 ∧ i = b then S.1 7 b + 1 else if k = 6 ∧ i = a then nI (tn (S.1 6 a) + 1) else if k = 10 + a ∧ i = tn (S.1 6 a) then nI b else S.1 k i := by
  unfold s_ae
  by_cases h : S.1 2 a = 1
  · rw [if_pos h, if_neg (fun q => q.2.2 h), s_ae1_at]
  · rw [if_neg h, sp_r, s_ae1_at]
    by_cases e : k = 8 ∧ i = b
    · rw [if_pos e, if_pos ⟨e.1, e.2, h⟩]
    · rw [if_neg e, if_neg (fun q : k = 8 ∧ i = b ∧ S.1 2 a ≠ 1 => e ⟨q.1, q.2.1⟩)]
theorem s_ae_l (S : SS) (a b : Nat) : (s_ae S a b).2 = S.2 := by
  unfold s_ae
  by_cases h : S.1 2 a = 1
  · rw [if_pos h]; rfl
  · rw [if_neg h]; rfl
theorem takesE_of {n : Nat} {R : MM} (hn : n ≤ 24) {x y : Int32} (h : s_takesE n R x y = true) : ∃ a b, a < n ∧ b < n ∧ x = nI a ∧ y = nI b ∧ R 3 a = R 3 b ∧ R 6 a < 6 := by
  simp only [s_takesE, Bool.and_eq_true, decide_eq_true_iff] at h
  obtain ⟨a, ha, rfl⟩ := isT_of (by omega) h.1.1.1.1
  obtain ⟨b, hb, rfl⟩ := isT_of (by omega) h.1.1.1.2
  rw [tnI (show a < 1000 by omega), tnI (show b < 1000 by omega)] at h
  exact ⟨a, b, ha, hb, rfl, rfl, h.1.1.2, h.1.2⟩
theorem GR_ae {n : Nat} {S : SS} (hG : GR n S.1) {a b : Nat} (ha : a < n) (hb : b < n) (h3 : S.1 3 a = S.1 3 b) (h6 : S.1 6 a < 6) : GR n (s_ae S a b).1 := by
  have hn := hG.le
  obtain ⟨c6, ec6⟩ := hG.ecn ha
  have hc : tn (S.1 6 a) < 6 := by
    rw [ec6] at h6
    exact (nlt (b := 6) (by omega) (by omega)).mp h6
  have at' := s_ae_at S a b
  have eO : ∀ k i, k < 6 → (s_ae S a b).1 k i = S.1 k i := fun k i q => by
    rw [at', if_neg (by omega), if_neg (by omega), if_neg (by omega), if_neg (by omega)]
  have e6 : ∀ i, (s_ae S a b).1 6 i = if i = a then nI (tn (S.1 6 a) + 1) else S.1 6 i := fun i => by
    rw [at', if_neg (by omega), if_neg (by omega)]
    by_cases e : i = a
    · rw [if_pos ⟨rfl, e⟩, if_pos e]
    · rw [if_neg (fun q => e q.2), if_neg (by omega), if_neg e]
  have e10 : ∀ t k, (s_ae S a b).1 (10 + t) k = if t = a ∧ k = tn (S.1 6 a) then nI b else S.1 (10 + t) k := fun t k => by
    rw [at', if_neg (by omega), if_neg (by omega), if_neg (by omega)]
    by_cases e : t = a ∧ k = tn (S.1 6 a)
    · rw [if_pos ⟨by omega, e.2⟩, if_pos e]
    · rw [if_neg (fun q => e ⟨by omega, q.2⟩), if_neg e]
  have eec : ∀ q t, t < n → ec (s_ae S a b).1 q t = if q = a then ec S.1 a t + (if t = b then 1 else 0) else ec S.1 q t := fun q t ht => by
    unfold ec
    rw [e6]
    by_cases e : q = a
    · subst e
      rw [if_pos rfl, if_pos rfl, tnI (by omega)]
      show cN _ (tn (S.1 6 q)) + _ = _
      rw [cN_congr (g := fun k => decide (S.1 (10 + q) k = nI t)) _ (fun k hk => by rw [e10, if_neg (by omega)])]
      congr 1
      show (if decide ((s_ae S q b).1 (10 + q) (tn (S.1 6 q)) = nI t) = true then 1 else 0) = _
      have e10' : (s_ae S q b).1 (10 + q) (tn (S.1 6 q)) = nI b := (e10 q _).trans (if_pos ⟨rfl, rfl⟩)
      rw [e10']
      by_cases z : t = b
      · subst z; simp
      · rw [if_neg z, if_neg]
        rw [decide_eq_true_iff]
        intro y
        exact z ((neq (by omega) (by omega)).mp y).symm
    · rw [if_neg e, if_neg e]
      exact cN_congr _ (fun k _ => by rw [e10, if_neg (fun z => e z.1)])
  refine ⟨⟨hn, by rw [eO 1 0 (by decide)]; exact hG.cnt⟩, fun t ht => by rw [eO 2 t (by decide)]; exact hG.kind t ht, fun t ht => by rw [eO 3 t (by decide)]; exact hG.par t ht, fun t ht => ?_, fun t ht => by rw [eO 5 t (by decide)]; exact hG.need t ht, fun t ht => ?_, fun t ht => ?_, fun t ht => ?_, fun t ht => ?_⟩
  · rw [eO 3 t (by decide), eO 4 t (by decide)]
    obtain ⟨v, v1, v2, v3⟩ := hG.lev t ht
    exact ⟨v, v1, v2, fun p hp q => by rw [eO 4 p (by decide)]; exact v3 p hp q⟩
  · rw [e6]
    by_cases e : t = a
    · subst e
      rw [if_pos rfl]
      refine ⟨tn (S.1 6 t) + 1, by omega, rfl, fun k hk => ?_⟩
      rw [e10]
      by_cases z : k = tn (S.1 6 t)
      · rw [if_pos ⟨rfl, z⟩]
        exact ⟨b, hb, rfl, by rw [eO 3 b (by decide), eO 3 t (by decide)]; exact h3.symm⟩
      · rw [if_neg (fun y => z y.2)]
        obtain ⟨y1, y2⟩ := hG.e1 ht (k := k) (by omega)
        exact ⟨_, y1, y2, by rw [eO 3 _ (by decide), eO 3 t (by decide)]; exact hG.e3 ht (by omega)⟩
    · rw [if_neg e]
      obtain ⟨c, c1, c2, c3⟩ := hG.2.2.2.2.2.1 t ht
      refine ⟨c, c1, c2, fun k hk => ?_⟩
      obtain ⟨b', b1, b2, b3⟩ := c3 k hk
      exact ⟨b', b1, by rw [e10, if_neg (fun y => e y.1)]; exact b2, by rw [eO 3 b' (by decide), eO 3 t (by decide)]; exact b3⟩
  · obtain ⟨y1, y2, y3⟩ := hG.beh t ht
    refine ⟨by rw [e6, if_neg (by omega)]; exact y1, ?_, ?_⟩
    · rw [at', if_neg (by omega), if_neg (by omega), if_neg (by omega), if_neg (by omega)]; exact y2
    · rw [at', if_neg (by omega), if_neg (by omega), if_neg (by omega), if_neg (by omega)]; exact y3
  · have z : (s_ae S a b).1 7 t = nI (ei S.1 n t + if t = b then 1 else 0) := by
      rw [at', if_neg (by omega)]
      by_cases e : t = b
      · subst e; rw [if_pos ⟨rfl, rfl⟩, if_pos rfl, hG.ein t ht, nI_1]
      · rw [if_neg (fun q => e q.2), if_neg (by omega), if_neg (by omega), if_neg e, Nat.add_zero]; exact hG.ein t ht
    rw [z]
    refine congrArg nI (Eq.symm ?_)
    unfold ei
    exact sN_one n ha (fun q hq => by rw [eec q t ht, if_neg hq]) (by rw [eec a t ht, if_pos rfl])
  · have z : (s_ae S a b).1 8 t = nI (es S.1 n t + if t = b ∧ S.1 2 a ≠ 1 then 1 else 0) := by
      rw [at']
      by_cases e : t = b ∧ S.1 2 a ≠ 1
      · rw [if_pos ⟨rfl, e⟩, if_pos e, ← e.1, hG.esn t ht, nI_1]
      · rw [if_neg (fun q => e q.2), if_neg (by omega), if_neg (by omega), if_neg (by omega), if_neg e, Nat.add_zero]; exact hG.esn t ht
    rw [z]
    refine congrArg nI (Eq.symm ?_)
    unfold es
    refine sN_one n ha (fun q hq => by rw [eec q t ht, if_neg hq, eO 2 q (by decide)]) ?_
    rw [eec a t ht, if_pos rfl, eO 2 a (by decide)]
    by_cases e : S.1 2 a = 1
    · rw [if_pos e, if_pos e, if_neg (fun q => q.2 e)]
    · rw [if_neg e, if_neg e]
      by_cases e2 : t = b
      · rw [if_pos e2, if_pos ⟨e2, e⟩]
      · rw [if_neg e2, if_neg (fun q => e2 q.1)]
theorem IV_rows {w n : Nat} {S S' : SS} (h : IV w n S) (hG : GR n S'.1) (h0 : S'.1 0 0 = S.1 0 0) (h2 : S'.1 2 = S.1 2) (h3 : S'.1 3 = S.1 3) (hk : ∀ k, 36 ≤ k → S'.1 k = S.1 k) (hl : S'.2 = S.2) : IV w n S' := by
  obtain ⟨hF, hJ, hR, hB⟩ := h
  refine ⟨⟨hF.w4, h0.trans hF.h0, hG, LN_eq hF.ln hl (hk 38 (by decide))⟩, ?_, ?_, ?_⟩
  · unfold JW; rw [hk 38 (by decide), h2, h3]; exact hJ
  · unfold RU; rw [hk 38 (by decide), hk 37 (by decide)]; exact hR
  · unfold BH; rw [hk 38 (by decide), hk 39 (by decide), hk 40 (by decide)]; exact hB
theorem IV_edge {w n : Nat} {S : SS} (h : IV w n S) (x y : Int32) : IV w n (s_edge n S x y).2 := by
  unfold s_edge
  by_cases q : S.1 0 10 ≠ 0 ∨ ¬ s_takesE n S.1 x y = true
  · rw [if_pos q]; exact h
  · rw [if_neg q]
    have hn := h.1.le
    obtain ⟨a, b, ha, hb, rfl, rfl, h3, h6⟩ := takesE_of hn (Classical.byContradiction fun z => q (Or.inr z))
    rw [tnI (by omega), tnI (by omega)]
    have at' := s_ae_at S a b
    have eO : ∀ k, k < 6 ∨ 36 ≤ k → (s_ae S a b).1 k = S.1 k := fun k q => by
      funext i
      rw [at', if_neg (by omega), if_neg (by omega), if_neg (by omega), if_neg (by omega)]
    exact IV_rows h (GR_ae h.1.g ha hb h3 h6) (by rw [eO 0 (by omega)]) (eO 2 (by omega)) (eO 3 (by omega)) (fun k hk => eO k (by omega)) (s_ae_l S a b)
theorem IV_cap {w n : Nat} {S : SS} (h : IV w n S) (x u : Int32) : IV w n (s_cap S x u).2 := by
  unfold s_cap
  by_cases q : S.1 0 10 ≠ 0 ∨ ¬ isT 4 x = true ∨ u < 1 ∨ ¬ u ≤ 4
  · rw [if_pos q]; exact h
  · rw [if_neg q]
    have e : ∀ k, k ≠ 35 → (sp S 35 (tn x) u).1 k = S.1 k := fun k hk => sp_ne S 35 (tn x) u k hk
    exact IV_rows h (GR_f34 (S := S) (fun k _ hk => e k (by omega)) h.1.g) (by rw [e 0 (by decide)]) (e 2 (by decide)) (e 3 (by decide)) (fun k hk => e k (by omega)) rfl
section CE9
variable {l : Launch} {D : va_G} {cI cZ cL cE : ClassId} {a : Nat → Nat} {w n : Nat}
theorem s_takes_eq {S : SS} {w : Nat} {M : MM} (hX : RX w S M) (n : Nat) (k p d : Int32) : s_takes n M k p d = s_takes n S.1 k p d := by
  unfold s_takes
  rw [hX.1 2 (by decide), hX.1 4 (by decide)]
theorem GR_RX {S : SS} {M : MM} (hX : RX w S M) (hG : GR n S.1) : GR n M := GR_f34 (S := S) (S' := (M, S.2)) (fun k _ hk => hX.1 k (by omega)) hG
theorem kE_add (hJ : IJ (sX D cI cZ cL cE a w)) {S : SS} (M : MM) (hX : RX w S M) (hF : WF w n S) (k p d : Int32) : Ci l (sX D cI cZ cL cE a w) yE_add wE_add rmE_add [.ref (a 0), .int k, .int p, .int d] M (fun r M' => r = (s_add n S k p d).1 ∧ RX w (s_add n S k p d).2.2 M') := by
  have hn := hF.le
  have hw := hF.w4
  have e10 : M 0 10 = S.1 0 10 := hX.at (by decide) 10
  have e1 : M 1 0 = nI n := by rw [hX.at (by decide)]; exact hF.cnt
  refine oE_add hJ hw ⟨fun h => ?_, fun h => ⟨_, kG_takesTask hJ hw hn M e1 k p d, ?_⟩⟩
  · unfold s_add
    rw [if_pos (Or.inl (by rw [← e10]; exact h))]
    exact ⟨rfl, hX⟩
  · rintro r M' ⟨rfl, rfl⟩
    rw [s_takes_eq hX]
    cases hT : s_takes n S.1 k p d with
    | false =>
      refine ⟨fun q => absurd rfl q, fun _ => ?_⟩
      unfold s_add
      rw [if_pos (Or.inr (by rw [hT]; exact Bool.false_ne_true))]
      exact ⟨rfl, hX⟩
    | true =>
      obtain ⟨h24, -, -, hp⟩ := takes_of hT
      have hs : s_add n S k p d = (nI n, n + 1, s_new n S k p d) := by
        unfold s_add
        rw [if_neg]
        rintro (q | q)
        · exact q (e10.symm.trans h)
        · exact q hT
      refine ⟨fun _ => ⟨_, oG_addTask (post := fun r M2 => r = nI n ∧ RX w (s_new n S k p d) M2) hJ hw ⟨n, e1, h24, ?_⟩, fun r M2 h2 => by rw [hs]; exact h2⟩, fun q => absurd q (by decide)⟩
      rintro M1 rfl M7 rfl
      have hX7 := (hX.sp (k := 2) (by decide) n k).sp (k := 3) (by decide) n p
      refine ⟨fun q => ?_, fun q => ?_⟩
      · obtain ⟨t, ht, rfl⟩ : ∃ t, t < n ∧ p = nI t := by
          rcases hp with z | ⟨t, z1, z2, -⟩
          · exact absurd z q
          · exact ⟨t, z1, z2⟩
        refine ⟨t, rfl, by omega, ?_⟩
        rintro M14 rfl M16 rfl M18 rfl
        have e4 : mp (mp M' 2 n k) 3 n (nI t) 4 t = S.1 4 t := by
          rw [mp_at, if_neg (by omega), mp_at, if_neg (by omega)]; exact hX.at (by decide) t
        have e1' : mp (mp (mp (mp M' 2 n k) 3 n (nI t)) 4 n (mp (mp M' 2 n k) 3 n (nI t) 4 t + 1)) 5 n d 1 0 = nI n := by
          rw [mp_at, if_neg (by omega), mp_at, if_neg (by omega), mp_at, if_neg (by omega), mp_at, if_neg (by omega)]; exact e1
        rw [e1', e4, nI_1]
        refine ⟨e1, ?_⟩
        have := ((hX7.sp (k := 4) (by decide) n (S.1 4 t + 1)).sp (k := 5) (by decide) n d).sp (k := 1) (by decide) 0 (nI (n + 1))
        unfold s_new s_lv
        rw [if_neg q, tnI (show t < 1000 by omega)]
        exact this
      · rintro M14 rfl M16 rfl M18 rfl
        have e1' : mp (mp (mp (mp M' 2 n k) 3 n p) 4 n 0) 5 n d 1 0 = nI n := by
          rw [mp_at, if_neg (by omega), mp_at, if_neg (by omega), mp_at, if_neg (by omega), mp_at, if_neg (by omega)]; exact e1
        rw [e1', nI_1]
        refine ⟨e1, ?_⟩
        have := ((hX7.sp (k := 4) (by decide) n 0).sp (k := 5) (by decide) n d).sp (k := 1) (by decide) 0 (nI (n + 1))
        unfold s_new s_lv
        rw [if_pos q]
        exact this
theorem s_takesE_eq {S : SS} {w : Nat} {M : MM} (hX : RX w S M) (hG : GR n S.1) (x y : Int32) : s_takesE n M x y = s_takesE n S.1 x y := by
  unfold s_takesE s_hasE
  rw [hX.1 3 (by decide), hX.1 6 (by decide)]
  cases h : isT n x with
  | false => simp
  | true =>
    have hn := hG.le
    obtain ⟨t, ht, rfl⟩ := isT_of (by omega) h
    rw [tnI (show t < 1000 by omega), hX.1 (10 + t) (by omega)]
theorem kE_edge (hJ : IJ (sX D cI cZ cL cE a w)) {S : SS} (M : MM) (hX : RX w S M) (hF : WF w n S) (x y : Int32) : Ci l (sX D cI cZ cL cE a w) yE_edge wE_edge rmE_edge [.ref (a 0), .int x, .int y] M (fun r M' => r = (s_edge n S x y).1 ∧ RX w (s_edge n S x y).2 M') := by
  have hn := hF.le
  have hw := hF.w4
  have e10 : M 0 10 = S.1 0 10 := hX.at (by decide) 10
  refine oE_edge hJ hw ⟨fun h => ?_, fun h => ⟨_, kG_takesEdge hJ hw M (GR_RX hX hF.g) x y, ?_⟩⟩
  · unfold s_edge
    rw [if_pos (Or.inl (by rw [← e10]; exact h))]
    exact ⟨rfl, hX⟩
  · rintro r M' ⟨rfl, rfl⟩
    rw [s_takesE_eq hX hF.g]
    cases hT : s_takesE n S.1 x y with
    | false =>
      refine ⟨fun q => absurd rfl q, fun _ => ?_⟩
      unfold s_edge
      rw [if_pos (Or.inr (by rw [hT]; exact Bool.false_ne_true))]
      exact ⟨rfl, hX⟩
    | true =>
      obtain ⟨i, j, hi, hj, rfl, rfl, h3, h6⟩ := takesE_of hn hT
      have hs : s_edge n S (nI i) (nI j) = (1, s_ae S i j) := by
        unfold s_edge
        rw [if_neg, tnI (by omega), tnI (by omega)]
        rintro (q | q)
        · exact q (e10.symm.trans h)
        · exact q hT
      obtain ⟨c6, ec6⟩ := hF.g.ecn hi
      have hc : tn (S.1 6 i) < 6 := by
        rw [ec6] at h6
        exact (nlt (b := 6) (by omega) (by omega)).mp h6
      have e6 : M' 6 i = S.1 6 i := hX.at (by decide) i
      refine ⟨fun _ => ⟨_, oG_addEdge (post := fun M2 => RX w (s_ae S i j) M2) hJ hw ⟨i, rfl, by omega, tn (S.1 6 i), by rw [e6]; exact ec6, hc, ?_⟩, fun M2 h2 => by rw [hs]; exact ⟨rfl, h2⟩⟩, fun q => absurd q (by decide)⟩
      rintro M5 rfl M11 rfl
      refine ⟨j, rfl, by omega, ?_⟩
      rintro M17 rfl
      have a6 : mp M' (10 + i) (tn (S.1 6 i)) (nI j) 6 i + 1 = nI (tn (S.1 6 i) + 1) := by
        rw [mp_at, if_neg (by omega), e6]
        conv => lhs; rw [ec6]
        exact nI_1 _
      rw [a6]
      have a7 : mp (mp M' (10 + i) (tn (S.1 6 i)) (nI j)) 6 i (nI (tn (S.1 6 i) + 1)) 7 j = S.1 7 j := by
        rw [mp_at, if_neg (by omega), mp_at, if_neg (by omega)]; exact hX.at (by decide) j
      rw [a7]
      have hX3 : RX w (s_ae1 S i j) _ := ((hX.sp (k := 10 + i) (by omega) (tn (S.1 6 i)) (nI j)).sp (k := 6) (by decide) i (nI (tn (S.1 6 i) + 1))).sp (k := 7) (by decide) j (S.1 7 j + 1)
      have a2 : mp (mp (mp M' (10 + i) (tn (S.1 6 i)) (nI j)) 6 i (nI (tn (S.1 6 i) + 1))) 7 j (S.1 7 j + 1) 2 i = S.1 2 i := by
        rw [mp_at, if_neg (by omega), mp_at, if_neg (by omega), mp_at, if_neg (by omega)]; exact hX.at (by decide) i
      rw [a2]
      refine ⟨fun q => ?_, fun q => ?_⟩
      · unfold s_ae; rw [if_pos q]; exact hX3
      · rintro M20 rfl
        have a8 : mp (mp (mp M' (10 + i) (tn (S.1 6 i)) (nI j)) 6 i (nI (tn (S.1 6 i) + 1))) 7 j (S.1 7 j + 1) 8 j = S.1 8 j := by
          rw [mp_at, if_neg (by omega), mp_at, if_neg (by omega), mp_at, if_neg (by omega)]; exact hX.at (by decide) j
        rw [a8]
        unfold s_ae; rw [if_neg q]; exact hX3.sp (by decide) _ _
theorem kE_capacity (hJ : IJ (sX D cI cZ cL cE a w)) (hw : w ≤ 4) {S : SS} (M : MM) (hX : RX w S M) (x u : Int32) : Ci l (sX D cI cZ cL cE a w) yE_capacity wE_capacity rmE_capacity [.ref (a 0), .int x, .int u] M (fun r M' => r = (s_cap S x u).1 ∧ RX w (s_cap S x u).2 M') := by
  have e10 : M 0 10 = S.1 0 10 := hX.at (by decide) 10
  have no : (S.1 0 10 ≠ 0 ∨ ¬ isT 4 x = true ∨ u < 1 ∨ ¬ u ≤ 4) → (0 : Int32) = (s_cap S x u).1 ∧ RX w (s_cap S x u).2 M := fun q => by
    unfold s_cap
    rw [if_pos q]
    exact ⟨rfl, hX⟩
  refine oE_capacity hJ hw ⟨fun h => no (Or.inl (by rw [← e10]; exact h)), fun h => ⟨_, kE_isSemaphore hJ hw M x, ?_⟩⟩
  rintro r M' ⟨rfl, rfl⟩
  cases hT : isT 4 x with
  | false => exact ⟨fun _ => no (Or.inr (Or.inl (by rw [hT]; exact Bool.false_ne_true))), fun q => absurd rfl q⟩
  | true =>
    refine ⟨fun q => absurd q (by decide), fun _ => ⟨fun h1 => no (Or.inr (Or.inr (Or.inl h1))), fun h1 => ⟨fun h2 => ?_, fun h2 => no (Or.inr (Or.inr (Or.inr h2)))⟩⟩⟩
    obtain ⟨s, hs, rfl⟩ := isT_of (by omega) hT
    refine ⟨s, rfl, hs, ?_⟩
    rintro M2 rfl
    unfold s_cap
    rw [if_neg, tnI (by omega)]
    · exact ⟨rfl, hX.sp (by decide) _ _⟩
    · rintro (q | q | q | q)
      · exact q (e10.symm.trans h)
      · exact q hT
      · exact h1 q
      · exact q h2
theorem kE_check (hJ : IJ (sX D cI cZ cL cE a w)) {S : SS} (M : MM) (hX : RX w S M) (hF : WF w n S) : Ci l (sX D cI cZ cL cE a w) yE_check wE_check rmE_check [.ref (a 0)] M (fun r M' => M' = M ∧ ckR n M r) := by
  have hn := hF.le
  have hw := hF.w4
  have hG := GR_RX hX hF.g
  have e1 : M 1 0 = nI n := hG.cnt
  refine oE_check hJ hw ⟨fun h => ⟨_, kG_hasGroupWithoutSource hJ hw hn M e1, ?_⟩, fun h => ⟨rfl, Or.inl ⟨?_, rfl⟩⟩⟩
  · have h0 : n ≠ 0 := fun q => h (by rw [e1, q]; rfl)
    rintro r M' ⟨rfl, rfl⟩
    cases hs : s_nosrc n M' with
    | true => exact ⟨fun q => absurd q (by decide), fun _ => ⟨rfl, Or.inr (Or.inl ⟨h0, hs, rfl⟩)⟩⟩
    | false =>
      refine ⟨fun _ => ⟨_, kG_hasStrongCycle hJ hw M' hG, ?_⟩, fun q => absurd rfl q⟩
      rintro r M2 ⟨rfl, h1, h2⟩
      refine ⟨fun q => ⟨rfl, Or.inr (Or.inr (Or.inr ⟨h0, hs, fun z => ?_, rfl⟩))⟩, fun q => ⟨rfl, Or.inr (Or.inr (Or.inl ⟨h0, hs, h2.mp (h1.resolve_right q), rfl⟩))⟩⟩
      rw [h2.mpr z] at q
      exact absurd q (by decide)
  · rw [e1] at h
    exact (neq (b := 0) (by omega) (by omega)).mp h
theorem ckR_eq {R R' : MM} (h : ∀ k, 1 ≤ k → k < 34 → R' k = R k) (hn : n ≤ 24) {r : Int32} (hc : ckR n R r) : ckR n R' r := by
  have e1 : s_nosrc n R' = s_nosrc n R := by
    unfold s_nosrc s_src
    rw [h 3 (by decide) (by decide), h 7 (by decide) (by decide)]
  have e2 : ∀ p b, p < n → (se R' p b ↔ se R p b) := fun p b hp => by
    unfold se
    rw [h 2 (by decide) (by decide), h 6 (by decide) (by decide), h (10 + p) (by omega) (by omega)]
  have e3 : ∀ k p b, p < n → (pt n (se R') k p b ↔ pt n (se R) k p b) := by
    intro k
    induction k with
    | zero => intro p b hp; exact e2 p b hp
    | succ k ih =>
      intro p b hp
      constructor
      · rintro ⟨c, c1, c2, c3⟩; exact ⟨c, c1, (e2 p c hp).mp c2, (ih c b c1).mp c3⟩
      · rintro ⟨c, c1, c2, c3⟩; exact ⟨c, c1, (e2 p c hp).mpr c2, (ih c b c1).mpr c3⟩
  have e4 : cy n (se R') ↔ cy n (se R) := by
    constructor
    · rintro ⟨t, k, h1, h2⟩; exact ⟨t, k, h1, (e3 k t t h1).mp h2⟩
    · rintro ⟨t, k, h1, h2⟩; exact ⟨t, k, h1, (e3 k t t h1).mpr h2⟩
  unfold ckR
  rw [e1, e4]
  exact hc
theorem kE_start (hJ : IJ (sX D cI cZ cL cE a w)) {S : SS} (M : MM) (hX : RX w S M) (hF : WF w n S) (x : Int32) : Ci l (sX D cI cZ cL cE a w) yE_start wE_start rmE_start [.ref (a 0), .int x] M (fun r M' => ∃ ck, ckR n S.1 ck ∧ r = (s_start w n S x ck).1 ∧ RX w (s_start w n S x ck).2 M') := by
  have hn := hF.le
  have hw := hF.w4
  have e10 : M 0 10 = S.1 0 10 := hX.at (by decide) 10
  have hck : ∃ ck, ckR n S.1 ck := by
    by_cases h0 : n = 0
    · exact ⟨1, Or.inl ⟨h0, rfl⟩⟩
    · cases hs : s_nosrc n S.1 with
      | true => exact ⟨2, Or.inr (Or.inl ⟨h0, hs, rfl⟩)⟩
      | false =>
        by_cases hc : cy n (se S.1)
        · exact ⟨3, Or.inr (Or.inr (Or.inl ⟨h0, hs, hc, rfl⟩))⟩
        · exact ⟨0, Or.inr (Or.inr (Or.inr ⟨h0, hs, hc, rfl⟩))⟩
  obtain ⟨ck, hck⟩ := hck
  have no : (S.1 0 10 ≠ 0 ∨ x < 1 ∨ 9 < x ∨ ck ≠ 0) → ∃ ck, ckR n S.1 ck ∧ (0 : Int32) = (s_start w n S x ck).1 ∧ RX w (s_start w n S x ck).2 M := fun q => ⟨ck, hck, by
    unfold s_start
    rw [if_pos q]
    exact ⟨rfl, hX⟩⟩
  refine oE_start hJ hw ⟨fun h => no (Or.inl (by rw [← e10]; exact h)), fun h => ⟨fun h1 => no (Or.inr (Or.inl h1)), fun h1 => ⟨fun h2 => no (Or.inr (Or.inr (Or.inl h2))), fun h2 => ⟨_, kE_check hJ M hX hF, ?_⟩⟩⟩⟩
  rintro r M' ⟨rfl, hr⟩
  have hr2 := ckR_one (ckR_eq (R := M') (R' := S.1) (fun k _ hk => (hX.1 k (by omega)).symm) hn hr) hck
  subst hr2
  refine ⟨fun h3 => ?_, fun h3 => no (Or.inr (Or.inr (Or.inr h3)))⟩
  rintro M11 rfl M13 rfl M15 rfl M17 rfl M19 rfl M21 rfl M23 rfl
  have hX2 := ((((((hX.sp (k := 0) (by decide) 10 1).sp (k := 0) (by decide) 11 0).sp (k := 0) (by decide) 12 (-1)).sp (k := 0) (by decide) 13 x).sp (k := 0) (by decide) 14 0).sp (k := 0) (by decide) 15 0).sp (k := 0) (by decide) 16 0
  refine ⟨_, kA_fill hJ hw _ (k := 40) (Or.inr rfl) 0, ?_⟩
  rintro M29 rfl
  have hX3 : RX w (s_st0 S x) _ := hX2.fill (k := 40) (by decide)
  have hk : kp1 w n S (s_st0 S x) := (((((((kp1_sp0 S (by decide) _).tr (kp1_sp0 _ (by decide) _)).tr (kp1_sp0 _ (by decide) _)).tr (kp1_sp0 _ (by decide) _)).tr (kp1_sp0 _ (by decide) _)).tr (kp1_sp0 _ (by decide) _)).tr (kp1_sp0 _ (by decide) _)).tr (kp1_fill _ (by decide))
  refine ⟨_, kE_beginRound hJ _ hX3 (hF.k hk), fun M35 h35 => ⟨r, hck, ?_⟩⟩
  unfold s_start
  rw [if_neg]
  · exact ⟨rfl, h35⟩
  · rintro (q | q | q | q)
    · exact q (e10.symm.trans h)
    · exact h1 q
    · exact h2 q
    · exact q h3
end CE9
