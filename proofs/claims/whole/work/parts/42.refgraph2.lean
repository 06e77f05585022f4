/-! The reference: add, edge, capacity, start -/
theorem RM_cap {w n : Nat} {S : SS} {M : MM} {c : Nat} (h : RM w n S M none c) (s : Nat) (u : Int32) : RM w n (sp S 35 s u) (mp M 14 s (u - 1)) none c := by
  obtain ⟨⟨⟨g1, g2, g3, g4, g5, g6, g7⟩, a0, a8, a9, a14, b18, b19, b20, b21, b22, b23, b24⟩, hp, ⟨l1, l2, l3⟩, hh⟩ := h
  have row : ∀ k, k ≠ 14 → mp M 14 s (u - 1) k = M k := fun k q => mp_ne _ _ _ _ q
  have s1 : ∀ k, k ≠ 35 → (sp S 35 s u).1 k = S.1 k := fun k q => sp_ne S 35 s u k q
  refine ⟨⟨⟨?_, ?_, ?_, ?_, ?_, ?_, fun t k ht hk => ?_⟩, ?_, ?_, ?_, fun i hi => ?_, ?_, ?_, ?_, ?_, ?_, ?_, ?_⟩, ?_, ⟨?_, ?_, ?_⟩, ?_⟩
  · rw [row 0 (by decide)]; exact g1
  · rw [row 1 (by decide), s1 2 (by decide)]; exact g2
  · rw [row 2 (by decide), s1 3 (by decide)]; exact g3
  · rw [row 3 (by decide), s1 4 (by decide)]; exact g4
  · rw [row 4 (by decide), s1 5 (by decide)]; exact g5
  · rw [row 11 (by decide), s1 6 (by decide)]; exact g6
  · rw [row 12 (by decide), s1 (10 + t) (by omega)]; exact g7 t k ht hk
  · rw [row 0 (by decide)]; exact a0
  · rw [row 8 (by decide), s1 39 (by decide)]; exact a8
  · rw [row 9 (by decide), s1 40 (by decide)]; exact a9
  · rw [mp_at, sp_r]
    by_cases e : i = s
    · rw [if_pos ⟨rfl, e⟩, if_pos ⟨rfl, e⟩]
    · rw [if_neg (fun z => e z.2), if_neg (fun z => e z.2)]; exact a14 i hi
  · rw [row 0 (by decide), s1 0 (by decide)]; exact b18
  · rw [row 0 (by decide), s1 0 (by decide)]; exact b19
  · rw [row 0 (by decide), s1 0 (by decide)]; exact b20
  · rw [row 0 (by decide), s1 0 (by decide)]; exact b21
  · rw [row 0 (by decide), s1 0 (by decide)]; exact b22
  · rw [row 0 (by decide), s1 0 (by decide)]; exact b23
  · rw [row 0 (by decide), s1 0 (by decide)]; exact b24
  · unfold RP; rw [row 5 (by decide), row 6 (by decide), s1 38 (by decide)]; exact hp
  · rw [row 0 (by decide)]; exact l1
  · rw [row 7 (by decide)]; exact l2
  · rw [row 7 (by decide)]; exact l3
  · unfold RH; rw [s1 0 (by decide), row 10 (by decide), s1 2 (by decide), s1 38 (by decide), s1 41 (by decide)]; exact hh
theorem RM_ae {w n : Nat} {S : SS} {M : MM} {c : Nat} (h : RM w n S M none c) (hG : GR n S.1) {a b : Nat} (ha : a < n) (hb : b < n) (hc : tn (S.1 6 a) < 6) : RM w n (s_ae S a b) (mp (mp M 12 (6 * a + tn (S.1 6 a)) (nI b)) 11 a (nI (tn (S.1 6 a) + 1))) none c := by
  have hn := hG.le
  obtain ⟨⟨⟨g1, g2, g3, g4, g5, g6, g7⟩, a0, a8, a9, a14, b18, b19, b20, b21, b22, b23, b24⟩, hp, ⟨l1, l2, l3⟩, hh⟩ := h
  have row : ∀ k, k ≠ 11 → k ≠ 12 → mp (mp M 12 (6 * a + tn (S.1 6 a)) (nI b)) 11 a (nI (tn (S.1 6 a) + 1)) k = M k := fun k q1 q2 => by rw [mp_ne _ _ _ _ q1, mp_ne _ _ _ _ q2]
  have s1 : ∀ k, k < 6 ∨ 34 ≤ k → (s_ae S a b).1 k = S.1 k := fun k q => by
    funext i
    rw [s_ae_at, if_neg (by omega), if_neg (by omega), if_neg (by omega), if_neg (by omega)]
  refine ⟨⟨⟨?_, ?_, ?_, ?_, ?_, ?_, fun t k ht hk => ?_⟩, ?_, ?_, ?_, ?_, ?_, ?_, ?_, ?_, ?_, ?_, ?_⟩, ?_, ⟨?_, ?_, ?_⟩, ?_⟩
  · rw [row 0 (by decide) (by decide)]; exact g1
  · rw [row 1 (by decide) (by decide), s1 2 (by omega)]; exact g2
  · rw [row 2 (by decide) (by decide), s1 3 (by omega)]; exact g3
  · rw [row 3 (by decide) (by decide), s1 4 (by omega)]; exact g4
  · rw [row 4 (by decide) (by decide), s1 5 (by omega)]; exact g5
  · funext i
    rw [mp_at, s_ae_at, if_neg (show ¬ (6 = 8 ∧ i = b ∧ S.1 2 a ≠ 1) by omega), if_neg (show ¬ (6 = 7 ∧ i = b) by omega)]
    by_cases e : i = a
    · rw [if_pos ⟨rfl, e⟩, if_pos ⟨rfl, e⟩]
    · rw [if_neg (fun z => e z.2), if_neg (fun z => e z.2), if_neg (by omega), mp_at, if_neg (by omega), g6]
  · rw [mp_at, if_neg (by omega), mp_at, s_ae_at, if_neg (show ¬ (10 + t = 8 ∧ k = b ∧ S.1 2 a ≠ 1) by omega), if_neg (show ¬ (10 + t = 7 ∧ k = b) by omega), if_neg (show ¬ (10 + t = 6 ∧ k = a) by omega)]
    by_cases e : t = a ∧ k = tn (S.1 6 a)
    · rw [if_pos ⟨rfl, by omega⟩, if_pos ⟨by omega, e.2⟩]
    · rw [if_neg (by omega), if_neg (by omega)]; exact g7 t k ht hk
  · rw [row 0 (by decide) (by decide)]; exact a0
  · rw [row 8 (by decide) (by decide), s1 39 (by omega)]; exact a8
  · rw [row 9 (by decide) (by decide), s1 40 (by omega)]; exact a9
  · rw [row 14 (by decide) (by decide), s1 35 (by omega)]; exact a14
  · rw [row 0 (by decide) (by decide), s1 0 (by omega)]; exact b18
  · rw [row 0 (by decide) (by decide), s1 0 (by omega)]; exact b19
  · rw [row 0 (by decide) (by decide), s1 0 (by omega)]; exact b20
  · rw [row 0 (by decide) (by decide), s1 0 (by omega)]; exact b21
  · rw [row 0 (by decide) (by decide), s1 0 (by omega)]; exact b22
  · rw [row 0 (by decide) (by decide), s1 0 (by omega)]; exact b23
  · rw [row 0 (by decide) (by decide), s1 0 (by omega)]; exact b24
  · unfold RP; rw [row 5 (by decide) (by decide), row 6 (by decide) (by decide), s1 38 (by omega)]; exact hp
  · rw [row 0 (by decide) (by decide)]; exact l1
  · rw [row 7 (by decide) (by decide)]; exact l2
  · rw [row 7 (by decide) (by decide), s_ae_l]; exact l3
  · unfold RH; rw [s1 0 (by omega), row 10 (by decide) (by decide), s1 2 (by omega), s1 38 (by omega), s1 41 (by omega)]; exact hh
theorem RM_new {w n : Nat} {S : SS} {M : MM} {c : Nat} (h : RM w n S M none c) (hB : BH n S) (hn : n < 24) (k p d : Int32) : RM w (n + 1) (s_new n S k p d) (mp (mp (mp (mp (mp M 1 n k) 2 n p) 3 n (s_lv S p)) 4 n d) 0 1 (nI (n + 1))) none c := by
  obtain ⟨⟨⟨g1, g2, g3, g4, g5, g6, g7⟩, a0, a8, a9, a14, b18, b19, b20, b21, b22, b23, b24⟩, hp, ⟨l1, l2, l3⟩, hh⟩ := h
  have at' : ∀ k' i, mp (mp (mp (mp (mp M 1 n k) 2 n p) 3 n (s_lv S p)) 4 n d) 0 1 (nI (n + 1)) k' i = if k' = 0 ∧ i = 1 then nI (n + 1) else if k' = 4 ∧ i = n then d else if k' = 3 ∧ i = n then s_lv S p else if k' = 2 ∧ i = n then p else if k' = 1 ∧ i = n then k else M k' i := fun k' i => by rw [mp_at, mp_at, mp_at, mp_at, mp_at]
  have row : ∀ k', 4 < k' → mp (mp (mp (mp (mp M 1 n k) 2 n p) 3 n (s_lv S p)) 4 n d) 0 1 (nI (n + 1)) k' = M k' := fun k' q => by
    funext i
    rw [at', if_neg (by omega), if_neg (by omega), if_neg (by omega), if_neg (by omega), if_neg (by omega)]
  have r0 : ∀ i, i ≠ 1 → mp (mp (mp (mp (mp M 1 n k) 2 n p) 3 n (s_lv S p)) 4 n d) 0 1 (nI (n + 1)) 0 i = M 0 i := fun i q => by
    rw [at', if_neg (by omega), if_neg (by omega), if_neg (by omega), if_neg (by omega), if_neg (by omega)]
  have sat := s_new_at n S k p d
  have s1 : ∀ k', 5 < k' → (s_new n S k p d).1 k' = S.1 k' := fun k' q => by
    funext i
    rw [sat, if_neg (by omega), if_neg (by omega), if_neg (by omega), if_neg (by omega), if_neg (by omega)]
  have s0 : ∀ i, (s_new n S k p d).1 0 i = S.1 0 i := fun i => by
    rw [sat, if_neg (by omega), if_neg (by omega), if_neg (by omega), if_neg (by omega), if_neg (by omega)]
  refine ⟨⟨⟨?_, ?_, ?_, ?_, ?_, ?_, fun t q ht hq => ?_⟩, ?_, ?_, ?_, ?_, ?_, ?_, ?_, ?_, ?_, ?_, ?_⟩, ?_, ⟨?_, ?_, ?_⟩, fun q i hi h2 h38 => ?_⟩
  · rw [at', if_pos ⟨rfl, rfl⟩]
  · funext i
    rw [at', sat]
    by_cases e : i = n
    · simp [e]
    · simp [e, g2]
  · funext i
    rw [at', sat]
    by_cases e : i = n
    · simp [e]
    · simp [e, g3]
  · funext i
    rw [at', sat]
    by_cases e : i = n
    · simp [e]
    · simp [e, g4]
  · funext i
    rw [at', sat]
    by_cases e : i = n
    · simp [e]
    · simp [e, g5]
  · rw [row 11 (by decide), s1 6 (by decide)]; exact g6
  · rw [row 12 (by decide), s1 (10 + t) (by omega)]; exact g7 t q ht hq
  · rw [r0 0 (by decide)]; exact a0
  · rw [row 8 (by decide), s1 39 (by decide)]; exact a8
  · rw [row 9 (by decide), s1 40 (by decide)]; exact a9
  · rw [row 14 (by decide), s1 35 (by decide)]; exact a14
  · rw [r0 18 (by decide), s0]; exact b18
  · rw [r0 19 (by decide), s0]; exact b19
  · rw [r0 20 (by decide), s0]; exact b20
  · rw [r0 21 (by decide), s0]; exact b21
  · rw [r0 22 (by decide), s0]; exact b22
  · rw [r0 23 (by decide), s0]; exact b23
  · rw [r0 24 (by decide), s0, r0 17 (by decide), s0]; exact b24
  · unfold RP; rw [row 5 (by decide), row 6 (by decide), s1 38 (by decide)]; exact hp
  · rw [r0 16 (by decide)]; exact l1
  · rw [row 7 (by decide)]; exact l2
  · rw [row 7 (by decide)]; exact l3
  · rw [s0] at q
    rw [s1 38 (by decide)] at h38
    rw [row 10 (by decide), s1 41 (by decide)]
    have hin : i ≠ n := fun e => by
      rw [e, (hB n (Nat.le_refl _)).1] at h38
      exact absurd h38 (by decide)
    rw [sat, if_neg (by omega), if_neg (fun z => hin z.1), if_neg (fun z => hin z.1), if_neg (fun z => hin z.1), if_neg (fun z => hin z.1)] at h2
    exact hh q i (by omega) h2 h38
/-- the numbers of a run that begins -/
def s_st7 (S : SS) (x : Int32) : SS := sp (sp (sp (sp (sp (sp (sp S 0 10 1) 0 11 0) 0 12 (-1)) 0 13 x) 0 14 0) 0 15 0) 0 16 0
def m_st8 (M : MM) (x : Int32) : MM := mp (mp (mp (mp (mp (mp (mp (mp M 0 17 1) 0 18 1) 0 19 0) 0 20 (-1)) 0 21 x) 0 22 0) 0 23 0) 0 24 0
theorem RM_st {w n : Nat} {S : SS} {M : MM} {c : Nat} (h : RM w n S M none c) (hN : ∀ t, t < n → S.1 38 t = 0) {x : Int32} (hx : ¬ x = 0) : RM w n (s_st7 S x) (m_st8 M x) none c := by
  obtain ⟨⟨hg, a0, a8, a9, a14, -⟩, hp, ⟨l1, l2, l3⟩, hh⟩ := h
  have row : ∀ k, k ≠ 0 → m_st8 M x k = M k := fun k q => by
    unfold m_st8
    rw [mp_ne _ _ _ _ q, mp_ne _ _ _ _ q, mp_ne _ _ _ _ q, mp_ne _ _ _ _ q, mp_ne _ _ _ _ q, mp_ne _ _ _ _ q, mp_ne _ _ _ _ q, mp_ne _ _ _ _ q]
  have s1 : ∀ k, k ≠ 0 → (s_st7 S x).1 k = S.1 k := fun k q => by
    unfold s_st7
    rw [sp_ne _ _ _ _ k q, sp_ne _ _ _ _ k q, sp_ne _ _ _ _ k q, sp_ne _ _ _ _ k q, sp_ne _ _ _ _ k q, sp_ne _ _ _ _ k q, sp_ne _ _ _ _ k q]
  have r0 : ∀ i, i < 17 → m_st8 M x 0 i = M 0 i := fun i q => by
    unfold m_st8
    rw [mp_at, if_neg (by omega), mp_at, if_neg (by omega), mp_at, if_neg (by omega), mp_at, if_neg (by omega), mp_at, if_neg (by omega), mp_at, if_neg (by omega), mp_at, if_neg (by omega), mp_at, if_neg (by omega)]
  have hf : fr S (s_st7 S x) := fun k hk _ => s1 k (by omega)
  refine ⟨⟨RG_keep hg (r0 1 (by decide)) (row 1 (by decide)) (row 2 (by decide)) (row 3 (by decide)) (row 4 (by decide)) (row 11 (by decide)) (row 12 (by decide)) hf, (r0 0 (by decide)).trans a0, ?_, ?_, ?_, ?_, ?_, ?_, ?_, ?_, ?_, ?_, ?_⟩, ?_, ⟨?_, ?_, ?_⟩, fun q i hi h2 h38 => ?_⟩
  · rw [row 8 (by decide), s1 39 (by decide)]; exact a8
  · rw [row 9 (by decide), s1 40 (by decide)]; exact a9
  · rw [row 14 (by decide), s1 35 (by decide)]; exact a14
  · simp [m_st8, s_st7, mp_at, sp_r]
  · simp [m_st8, s_st7, mp_at, sp_r]
  · simp [m_st8, s_st7, mp_at, sp_r]
  · simp [m_st8, s_st7, mp_at, sp_r]
  · simp [m_st8, s_st7, mp_at, sp_r]
  · simp [m_st8, s_st7, mp_at, sp_r]
  · simp [m_st8, s_st7, mp_at, sp_r]
  · simp [m_st8, s_st7, mp_at, sp_r, hx]
  · unfold RP; rw [row 5 (by decide), row 6 (by decide), s1 38 (by decide)]; exact hp
  · rw [r0 16 (by decide)]; exact l1
  · rw [row 7 (by decide)]; exact l2
  · rw [row 7 (by decide)]; exact l3
  · rw [s1 38 (by decide), hN i hi] at h38
    exact absurd h38 (by decide)
theorem RM_ran {w n : Nat} {S : SS} {M : MM} {ex : Option Nat} {c : Nat} (h : RM w n S M ex c) (t : Nat) (x : Int32) : RM w n (sp S 40 t x) (mp M 9 t x) ex c := by
  obtain ⟨⟨hg, a0, a8, a9, a14, b⟩, hp, ⟨l1, l2, l3⟩, hh⟩ := h
  have row : ∀ k, k ≠ 9 → mp M 9 t x k = M k := fun k q => mp_ne _ _ _ _ q
  have s1 : ∀ k, k ≠ 40 → (sp S 40 t x).1 k = S.1 k := fun k q => sp_ne S 40 t x k q
  refine ⟨⟨RG_keep hg (by rw [row 0 (by decide)]) (row 1 (by decide)) (row 2 (by decide)) (row 3 (by decide)) (row 4 (by decide)) (row 11 (by decide)) (row 12 (by decide)) (fr.sp S (by decide) t x), by rw [row 0 (by decide)]; exact a0, ?_, fun i hi => ?_, ?_, ?_⟩, ?_, ⟨?_, ?_, ?_⟩, ?_⟩
  · rw [row 8 (by decide), s1 39 (by decide)]; exact a8
  · rw [mp_at, sp_r]
    by_cases e : i = t
    · rw [if_pos ⟨rfl, e⟩, if_pos ⟨rfl, e⟩]
    · rw [if_neg (fun z => e z.2), if_neg (fun z => e z.2)]; exact a9 i hi
  · rw [row 14 (by decide), s1 35 (by decide)]; exact a14
  · rw [row 0 (by decide), s1 0 (by decide)]; exact b
  · unfold RP; rw [row 5 (by decide), row 6 (by decide), s1 38 (by decide)]; exact hp
  · rw [row 0 (by decide)]; exact l1
  · rw [row 7 (by decide)]; exact l2
  · rw [row 7 (by decide)]; exact l3
  · unfold RH; rw [s1 0 (by decide), row 10 (by decide), s1 2 (by decide), s1 38 (by decide), s1 41 (by decide)]; exact hh
theorem RM_40 {w n : Nat} {S S' : SS} {M : MM} {ex : Option Nat} {c : Nat} (h : RM w n S M ex c) (h1 : ∀ k, k ≠ 40 → S'.1 k = S.1 k) (h2 : S'.2 = S.2) (h3 : ∀ t, t < 24 → S'.1 40 t = S.1 40 t) : RM w n S' M ex c := by
  obtain ⟨⟨hg, a0, a8, a9, a14, b⟩, hp, hl, hr⟩ := h
  refine ⟨⟨RG_keep hg rfl rfl rfl rfl rfl rfl rfl (fun k _ hk => h1 k (by omega)), a0, ?_, fun t ht => by rw [h3 t ht]; exact a9 t ht, ?_, ?_⟩, ?_, ?_, ?_⟩
  · rw [h1 39 (by decide)]; exact a8
  · rw [h1 35 (by decide)]; exact a14
  · rw [h1 0 (by decide)]; exact b
  · unfold RP; rw [h1 38 (by decide)]; exact hp
  · unfold RL; rw [h2]; exact hl
  · unfold RH; rw [h1 0 (by decide), h1 2 (by decide), h1 38 (by decide), h1 41 (by decide)]; exact hr
def s_z40 (S : SS) : Nat → SS
  | 0 => S
  | m + 1 => sp (s_z40 S m) 40 m 0
theorem z40_at (S : SS) : ∀ m k i, (s_z40 S m).1 k i = if k = 40 ∧ i < m then 0 else S.1 k i := by
  intro m
  induction m with
  | zero => intro k i; rw [if_neg (by omega)]; rfl
  | succ m ih =>
    intro k i
    unfold s_z40
    rw [sp_r, ih]
    by_cases e : k = 40 ∧ i = m
    · rw [if_pos e, if_pos (by omega)]
    · rw [if_neg e]
      by_cases e2 : k = 40 ∧ i < m
      · rw [if_pos e2, if_pos (by omega)]
      · rw [if_neg e2, if_neg (by omega)]
theorem z40_l (S : SS) : ∀ m, (s_z40 S m).2 = S.2 := by
  intro m
  induction m with
  | zero => rfl
  | succ m ih => exact ih
theorem RM_13 {w n : Nat} {S : SS} {M M' : MM} {ex : Option Nat} {c : Nat} (h : RM w n S M ex c) (hW : W13 M M') : RM w n S M' ex c := by
  obtain ⟨⟨hg, a0, a8, a9, a14, b⟩, hp, ⟨l1, l2, l3⟩, hr⟩ := h
  refine ⟨⟨RG_13 hW hg, ?_, ?_, ?_, ?_, ?_⟩, ?_, ⟨?_, ?_, ?_⟩, ?_⟩
  · rw [hW 0 (by decide)]; exact a0
  · rw [hW 8 (by decide)]; exact a8
  · rw [hW 9 (by decide)]; exact a9
  · rw [hW 14 (by decide)]; exact a14
  · rw [hW 0 (by decide)]; exact b
  · unfold RP; rw [hW 5 (by decide), hW 6 (by decide)]; exact hp
  · rw [hW 0 (by decide)]; exact l1
  · rw [hW 7 (by decide)]; exact l2
  · rw [hW 7 (by decide)]; exact l3
  · unfold RH; rw [hW 10 (by decide)]; exact hr
/-- while no run is under way nothing is active -/
def NU (n : Nat) (S : SS) : Prop := S.1 0 10 = 0 → ∀ t, t < n → S.1 38 t = 0
section DR12
variable {l : Launch} {D : va_G} {cI cZ : ClassId} {a : Nat → Nat} {w n : Nat}
theorem kR_capacity (hJ : IJ (sM D cI cZ a)) {S : SS} (M : MM) {c : Nat} (hM : RM w n S M none c) (x u : Int32) : Ci l (sM D cI cZ a) yR_capacity wR_capacity rmR_capacity [.ref (a 0), .int x, .int u] M (fun r M' => r = (s_cap S x u).1 ∧ RM w n (s_cap S x u).2 M' none c) := by
  have e18 : M 0 18 = S.1 0 10 := RA.sc hM.a 10 (by decide) (by decide)
  have no : (S.1 0 10 ≠ 0 ∨ ¬ isT 4 x = true ∨ u < 1 ∨ ¬ u ≤ 4) → (0 : Int32) = (s_cap S x u).1 ∧ RM w n (s_cap S x u).2 M none c := fun q => by
    unfold s_cap
    rw [if_pos q]
    exact ⟨rfl, hM⟩
  refine oR_capacity hJ ⟨fun h => no (Or.inl (by rw [← e18]; exact h)), fun h => ⟨fun h1 => no (Or.inr (Or.inl ?_)), fun h1 => ⟨fun h2 => no (Or.inr (Or.inl ?_)), fun h2 => ⟨fun h3 => no (Or.inr (Or.inr (Or.inl h3))), fun h3 => ⟨fun h4 => ?_, fun h4 => no (Or.inr (Or.inr (Or.inr h4)))⟩⟩⟩⟩⟩
  · rw [isT, decide_eq_true_iff]
    exact fun q => Int32.not_lt.mpr q.1 h1
  · rw [isT, decide_eq_true_iff]
    rintro ⟨q1, q2⟩
    obtain ⟨j, hj, rfl⟩ := lt_tn (n := 4) (by omega) h1 q2
    have := (nlt (a := 3) (by omega) (by omega)).mp h2
    omega
  · obtain ⟨j, hj, rfl⟩ := nI_of h1
    have hj4 : j < 4 := by
      have := mt (nI_ltI (a := 3) (by decide) hj).mpr h2
      omega
    refine ⟨j, rfl, hj4, ?_⟩
    rintro M6 rfl
    have : s_cap S (nI j) u = (1, sp S 35 j u) := by
      unfold s_cap
      rw [if_neg, tnI (by omega)]
      rintro (q | q | q | q)
      · exact q (e18.symm.trans h)
      · exact q (isT_nI (by omega) hj4)
      · exact h3 q
      · exact q h4
    rw [this]
    exact ⟨rfl, RM_cap hM j u⟩
theorem kR_edge (hJ : IJ (sM D cI cZ a)) {S : SS} (M : MM) {c : Nat} (hM : RM w n S M none c) (hG : GR n S.1) (x y : Int32) : Ci l (sM D cI cZ a) yR_edge wR_edge rmR_edge [.ref (a 0), .int x, .int y] M (fun r M' => r = (s_edge n S x y).1 ∧ RM w n (s_edge n S x y).2 M' none c) := by
  have hn := hG.le
  have e18 : M 0 18 = S.1 0 10 := RA.sc hM.a 10 (by decide) (by decide)
  have no : (S.1 0 10 ≠ 0 ∨ ¬ s_takesE n S.1 x y = true) → (0 : Int32) = (s_edge n S x y).1 ∧ RM w n (s_edge n S x y).2 M none c := fun q => by
    unfold s_edge
    rw [if_pos q]
    exact ⟨rfl, hM⟩
  refine oR_edge hJ ⟨fun h => no (Or.inl (by rw [← e18]; exact h)), fun h => ⟨_, kR_isTask hJ M hM.g.1 x, ?_⟩⟩
  rintro r M' ⟨rfl, rfl⟩
  by_cases hT : isT n x = true
  · rw [if_pos hT]
    refine ⟨fun q => absurd q (by decide), fun _ => ⟨_, kR_isTask hJ M' hM.g.1 y, ?_⟩⟩
    rintro r M2 ⟨rfl, rfl⟩
    by_cases hU : isT n y = true
    · rw [if_pos hU]
      obtain ⟨i, hi, rfl⟩ := isT_of (by omega) hT
      obtain ⟨j, hj, rfl⟩ := isT_of (by omega) hU
      have e1 := tnI (show i < 1000 by omega)
      have e2 := tnI (show j < 1000 by omega)
      have p1 : M2 2 i = S.1 3 i := by rw [hM.g.2.2.1]
      have p2 : M2 2 j = S.1 3 j := by rw [hM.g.2.2.1]
      obtain ⟨c6, ec6⟩ := hG.ecn hi
      have e11 : M2 11 i = nI (tn (S.1 6 i)) := by rw [hM.g.2.2.2.2.2.1]; exact ec6
      have hE : s_hasE S.1 i (nI j) = true ↔ 0 < ec S.1 i j := by
        rw [ec_se hG hi]
        simp only [s_hasE, List.any_eq_true, List.mem_range, decide_eq_true_iff]
      refine ⟨fun q => absurd q (by decide), fun _ => ⟨i, rfl, by omega, j, rfl, by omega, fun h1 => ⟨_, kR_edges hJ M2 hM.g hG hi, ?_⟩, fun h1 => no (Or.inr ?_)⟩⟩
      · rintro r M3 ⟨rfl, rfl⟩
        have hle := ec_le (t := j) hG hi
        have hpos : (0 : Int32) < nI (ec S.1 i j) ↔ 0 < ec S.1 i j := nlt (a := 0) (by omega) (by omega)
        refine ⟨fun h2 => no (Or.inr ?_), fun h2 => ⟨fun h3 => ?_, fun h3 => no (Or.inr ?_)⟩⟩
        · simp only [s_takesE, e1, Bool.and_eq_true]
          intro q
          have := q.2
          rw [hE.mpr (hpos.mp h2)] at this
          exact Bool.false_ne_true this
        · rw [e11] at h3
          have h3' := (nlt (b := 6) (by omega) (by omega)).mp h3
          refine ⟨6 * i + tn (S.1 6 i), by rw [e11]; exact n6 _ _, by omega, ?_⟩
          rintro M33 rfl M39 rfl
          have e11' : mp M3 12 (6 * i + tn (S.1 6 i)) (nI j) 11 i + 1 = nI (tn (S.1 6 i) + 1) := by rw [mp_at, if_neg (by omega), e11, nI_1]
          rw [e11']
          have hs : s_edge n S (nI i) (nI j) = (1, s_ae S i j) := by
            unfold s_edge
            rw [if_neg, e1, e2]
            rintro (q | q)
            · exact q (e18.symm.trans h)
            · apply q
              simp only [s_takesE, e1, e2, hT, hU, Bool.and_eq_true, decide_eq_true_iff]
              refine ⟨⟨⟨⟨trivial, trivial⟩, by rw [← p1, ← p2]; exact h1⟩, ?_⟩, ?_⟩
              · rw [ec6]; exact h3
              · cases hh : s_hasE S.1 i (nI j) with
                | false => rfl
                | true => exact absurd (hpos.mpr (hE.mp hh)) h2
          rw [hs]
          exact ⟨rfl, RM_ae hM hG hi hj h3'⟩
        · simp only [s_takesE, e1, Bool.and_eq_true, decide_eq_true_iff]
          intro q
          have := q.1.2
          rw [ec6, ← e11] at this
          exact h3 this
      · simp only [s_takesE, e1, e2, Bool.and_eq_true, decide_eq_true_iff]
        intro q
        exact h1 (by rw [p1, p2]; exact q.1.1.2)
    · rw [if_neg hU]
      refine ⟨fun _ => no (Or.inr ?_), fun q => absurd rfl q⟩
      simp only [s_takesE, Bool.and_eq_true]
      exact fun q => hU q.1.1.1.2
  · rw [if_neg hT]
    refine ⟨fun _ => no (Or.inr ?_), fun q => absurd rfl q⟩
    simp only [s_takesE, Bool.and_eq_true]
    exact fun q => hT q.1.1.1.1
theorem kR_add (hJ : IJ (sM D cI cZ a)) {S : SS} (M : MM) {c : Nat} (hM : RM w n S M none c) (hG : GR n S.1) (hB : BH n S) (k p d : Int32) : Ci l (sM D cI cZ a) yR_add wR_add rmR_add [.ref (a 0), .int k, .int p, .int d] M (fun r M' => r = (s_add n S k p d).1 ∧ RM w (s_add n S k p d).2.1 (s_add n S k p d).2.2 M' none c) := by
  have hn := hG.le
  have e18 : M 0 18 = S.1 0 10 := RA.sc hM.a 10 (by decide) (by decide)
  have no : (S.1 0 10 ≠ 0 ∨ ¬ s_takes n S.1 k p d = true) → (-1 : Int32) = (s_add n S k p d).1 ∧ RM w (s_add n S k p d).2.1 (s_add n S k p d).2.2 M none c := fun q => by
    unfold s_add
    rw [if_pos q]
    exact ⟨rfl, hM⟩
  refine oR_add hJ (fun G hl hR F => ?_)
  subst hl
  have hpf : ∃ pf : Bool, pf = (decide (p = -1) || (isT n p && decide (S.1 2 (tn p) = 2 ∨ S.1 2 (tn p) = 3) && decide (S.1 4 (tn p) < 3))) := ⟨_, rfl⟩
  obtain ⟨pf, epf⟩ := hpf
  have etk : s_takes n S.1 k p d = (decide (n < 24) && decide (0 ≤ k ∧ k ≤ 3) && decide (0 ≤ d ∧ d ≤ 15) && pf) := by rw [epf]; rfl
  have h82 : S.1 0 10 = 0 → s_takes n S.1 k p d = true → ∀ x4 : Int32, wx G (sM D cI cZ a) 5 (Qxi G (sM D cI cZ a) (fun r M' => r = (s_add n S k p d).1 ∧ RM w (s_add n S k p d).2.1 (s_add n S k p d).2.2 M' none c)) M 82 [(0, .ref (a 0)), (1, .int k), (2, .int p), (3, .int d), (4, .int x4)] [] := by
    intro h10 hT x4
    obtain ⟨h24, -, -, hp⟩ := takes_of hT
    have hs : s_add n S k p d = (nI n, n + 1, s_new n S k p d) := by
      unfold s_add
      rw [if_neg]
      rintro (q | q)
      · exact q h10
      · exact q hT
    rw [hs]
    have e01 : M 0 1 = nI n := hM.g.1
    refine sR_add_82 F hR ⟨n, e01, h24, ?_⟩
    rintro M1 rfl
    refine ⟨n, by rw [mp_at, if_neg (by omega)]; exact e01, h24, ?_⟩
    rintro M7 rfl
    have e3 : ∀ i, mp (mp M 1 n k) 2 n p 3 i = S.1 4 i := fun i => by rw [mp_at, if_neg (by omega), mp_at, if_neg (by omega), hM.g.2.2.2.1]
    have fin : ∀ v : Int32, v = s_lv S p → ∀ M30, M30 = mp (mp (mp (mp (mp M 1 n k) 2 n p) 3 n v) 4 n d) 0 1 (mp (mp (mp (mp M 1 n k) 2 n p) 3 n v) 4 n d 0 1 + 1) → (M30 0 1 - 1 = (nI n, n + 1, s_new n S k p d).1 ∧ RM w (nI n, n + 1, s_new n S k p d).2.1 (nI n, n + 1, s_new n S k p d).2.2 M30 none c) := by
      rintro v hv M30 rfl
      have e : mp (mp (mp (mp M 1 n k) 2 n p) 3 n v) 4 n d 0 1 = nI n := by
        rw [mp_at, if_neg (by omega), mp_at, if_neg (by omega), mp_at, if_neg (by omega), mp_at, if_neg (by omega)]; exact e01
      rw [e, nI_1]
      refine ⟨?_, ?_⟩
      · rw [mp_at, if_pos ⟨rfl, rfl⟩]; exact pk_sub (a := n + 1) (b := 1) (by omega)
      · rw [hv]; exact RM_new hM hB h24 k p d
    refine ⟨fun q => ?_, fun q => ?_⟩
    · obtain ⟨t, ht, rfl⟩ : ∃ t, t < n ∧ p = nI t := by
        rcases hp with z | ⟨t, z1, z2, -⟩
        · exact absurd z q
        · exact ⟨t, z1, z2⟩
      refine ⟨t, rfl, by omega, n, by rw [mp_at, if_neg (by omega), mp_at, if_neg (by omega)]; exact e01, h24, ?_⟩
      rintro M18 rfl
      refine ⟨n, by rw [mp_at, if_neg (by omega), mp_at, if_neg (by omega), mp_at, if_neg (by omega)]; exact e01, h24, ?_⟩
      rintro M24 rfl
      refine fin _ ?_
      unfold s_lv
      rw [if_neg q, tnI (show t < 1000 by omega), e3]
    · refine ⟨n, by rw [mp_at, if_neg (by omega), mp_at, if_neg (by omega)]; exact e01, h24, ?_⟩
      rintro M32 rfl
      refine ⟨n, by rw [mp_at, if_neg (by omega), mp_at, if_neg (by omega), mp_at, if_neg (by omega)]; exact e01, h24, ?_⟩
      rintro M38 rfl
      refine fin _ ?_
      unfold s_lv
      rw [if_pos q]
  have h40 : ∀ x4 : Int32, (x4 = 0 ↔ pf = false) → wx G (sM D cI cZ a) 5 (Qxi G (sM D cI cZ a) (fun r M' => r = (s_add n S k p d).1 ∧ RM w (s_add n S k p d).2.1 (s_add n S k p d).2.2 M' none c)) M 40 [(0, .ref (a 0)), (1, .int k), (2, .int p), (3, .int d), (4, .int x4)] [] := by
    intro x4 hx4
    have h24 : (24 : Int32) ≤ M 0 1 ↔ 24 ≤ n := by rw [hM.g.1]; exact nle (a := 24) (by omega) (by omega)
    refine sR_add_40 F hR (K82 := fun M' x1 x2 x3 x4 => M' = M ∧ x1 = k ∧ x2 = p ∧ x3 = d ∧ S.1 0 10 = 0 ∧ s_takes n S.1 k p d = true) ?_ ⟨fun h => no (Or.inl (by rw [← e18]; exact h)), fun h => ⟨fun h1 => no (Or.inr ?_), fun h1 => ⟨fun h2 => no (Or.inr ?_), fun h2 => ⟨fun h3 => no (Or.inr ?_), fun h3 => ⟨fun h4 => no (Or.inr ?_), fun h4 => ⟨fun h5 => no (Or.inr ?_), fun h5 => ⟨fun h6 => ⟨rfl, rfl, rfl, rfl, e18.symm.trans h, ?_⟩, fun h6 => no (Or.inr ?_)⟩⟩⟩⟩⟩⟩⟩
    · rintro M' x1 x2 x3 x4 ⟨rfl, rfl, rfl, rfl, g1, g2⟩
      exact h82 g1 g2 x4
    · rw [etk]; simp only [Bool.and_eq_true, decide_eq_true_iff]; have := h24.mp h1; omega
    · rw [etk]; simp only [Bool.and_eq_true, decide_eq_true_iff]; exact fun q => Int32.not_lt.mpr q.1.1.2.1 h2
    · rw [etk]; simp only [Bool.and_eq_true, decide_eq_true_iff]; exact fun q => Int32.not_lt.mpr q.1.1.2.2 h3
    · rw [etk]; simp only [Bool.and_eq_true, decide_eq_true_iff]; exact fun q => Int32.not_lt.mpr q.1.2.1 h4
    · rw [etk]; simp only [Bool.and_eq_true, decide_eq_true_iff]; exact fun q => Int32.not_lt.mpr q.1.2.2 h5
    · rw [etk]; simp only [Bool.and_eq_true, decide_eq_true_iff]
      refine ⟨⟨⟨by have := mt h24.mpr h1; omega, Int32.not_lt.mp h2, Int32.not_lt.mp h3⟩, Int32.not_lt.mp h4, Int32.not_lt.mp h5⟩, ?_⟩
      cases hpf : pf with
      | true => rfl
      | false => exact absurd (hx4.mpr hpf) h6
    · rw [etk, hx4.mp h6]; simp
  refine sR_add_0 F hR (K40 := fun M' x1 x2 x3 x4 => M' = M ∧ x1 = k ∧ x2 = p ∧ x3 = d ∧ (x4 = 0 ↔ pf = false)) ?_ ⟨fun h => ⟨rfl, rfl, rfl, rfl, ?_⟩, fun h => ⟨_, kR_isTask hJ M hM.g.1 p, ?_⟩⟩
  · rintro M' x1 x2 x3 x4 ⟨rfl, rfl, rfl, rfl, g⟩
    exact h40 x4 g
  · have : pf = true := by rw [epf, h]; rfl
    rw [this]
    exact ⟨fun q => absurd q (by decide), fun q => absurd q (by decide)⟩
  · rintro r M6 ⟨rfl, rfl⟩
    have hd1 : decide (p = -1) = false := by rw [decide_eq_false_iff_not]; exact h
    by_cases hT : isT n p = true
    · rw [if_pos hT]
      obtain ⟨t, ht, rfl⟩ := isT_of (by omega) hT
      have e1 : M6 1 t = S.1 2 t := by rw [hM.g.2.1]
      have e3 : M6 3 t = S.1 4 t := by rw [hM.g.2.2.2.1]
      obtain ⟨kd, kd3, ekd⟩ := hG.kind t ht
      have hk2 : M6 1 t < 2 ↔ ¬ (S.1 2 t = 2 ∨ S.1 2 t = 3) := by
        rw [e1, ekd]
        have a1 : nI kd < 2 ↔ kd < 2 := nlt (b := 2) (by omega) (by omega)
        have a2 : nI kd = 2 ↔ kd = 2 := neq (b := 2) (by omega) (by omega)
        have a3 : nI kd = 3 ↔ kd = 3 := neq (b := 3) (by omega) (by omega)
        rw [a1, a2, a3]
        omega
      have epf' : pf = (decide (S.1 2 t = 2 ∨ S.1 2 t = 3) && decide (S.1 4 t < 3)) := by rw [epf, hd1, hT, tnI (show t < 1000 by omega)]; simp
      refine ⟨fun q => absurd q (by decide), fun _ => ⟨t, rfl, by omega, fun h2 => ⟨rfl, rfl, rfl, rfl, ?_⟩, fun h2 => ⟨fun h3 => ⟨rfl, rfl, rfl, rfl, ?_⟩, fun h3 => ⟨rfl, rfl, rfl, rfl, ?_⟩⟩⟩⟩
      · have : decide (S.1 2 t = 2 ∨ S.1 2 t = 3) = false := by rw [decide_eq_false_iff_not]; exact hk2.mp h2
        rw [epf', this]
        exact ⟨fun _ => rfl, fun _ => rfl⟩
      · have : decide (S.1 4 t < 3) = false := by rw [decide_eq_false_iff_not, ← e3]; exact Int32.not_lt.mpr h3
        rw [epf', this, Bool.and_false]
        exact ⟨fun _ => rfl, fun _ => rfl⟩
      · have q1 : decide (S.1 2 t = 2 ∨ S.1 2 t = 3) = true := by rw [decide_eq_true_iff]; exact Classical.byContradiction fun q => h2 (hk2.mpr q)
        have q2 : decide (S.1 4 t < 3) = true := by rw [decide_eq_true_iff, ← e3]; exact Int32.not_le.mp h3
        rw [epf', q1, q2]
        exact ⟨fun q => absurd q (by decide), fun q => absurd q (by decide)⟩
    · rw [if_neg hT]
      refine ⟨fun _ => ⟨rfl, rfl, rfl, rfl, ?_⟩, fun q => absurd rfl q⟩
      have hT' : isT n p = false := by rw [← Bool.not_eq_true]; exact hT
      rw [epf, hd1, hT']
      exact ⟨fun _ => rfl, fun _ => rfl⟩
theorem kR_start (hJ : IJ (sM D cI cZ a)) {S : SS} (M : MM) {c : Nat} (hM : RM w n S M none c) (hI : IV w n S) (hN : NU n S) (hc : c + 24 < 2 ^ 31) (x : Int32) : Ci l (sM D cI cZ a) yR_start wR_start rmR_start [.ref (a 0), .int x] M (fun r M' => ∃ ck, ckR n S.1 ck ∧ r = (s_start w n S x ck).1 ∧ rt w n (s_start w n S x ck).2 none c 24 M') := by
  have hF := hI.1
  have hn := hF.le
  have hw := hF.w4
  have e18 : M 0 18 = S.1 0 10 := RA.sc hM.a 10 (by decide) (by decide)
  have hck : ∃ ck, ckR n S.1 ck := by
    by_cases h0 : n = 0
    · exact ⟨1, Or.inl ⟨h0, rfl⟩⟩
    · cases hs : s_nosrc n S.1 with
      | true => exact ⟨2, Or.inr (Or.inl ⟨h0, hs, rfl⟩)⟩
      | false =>
        by_cases hcy : cy n (se S.1)
        · exact ⟨3, Or.inr (Or.inr (Or.inl ⟨h0, hs, hcy, rfl⟩))⟩
        · exact ⟨0, Or.inr (Or.inr (Or.inr ⟨h0, hs, hcy, rfl⟩))⟩
  obtain ⟨ck, hck⟩ := hck
  have no : ∀ M', RM w n S M' none c → (S.1 0 10 ≠ 0 ∨ x < 1 ∨ 9 < x ∨ ck ≠ 0) → ∃ ck, ckR n S.1 ck ∧ (0 : Int32) = (s_start w n S x ck).1 ∧ rt w n (s_start w n S x ck).2 none c 24 M' := fun M' hM' q => ⟨ck, hck, by
    unfold s_start
    rw [if_pos q]
    exact ⟨rfl, c, by omega, by omega, hM'⟩⟩
  refine oR_start hJ (fun G hl hR F => ?_)
  subst hl
  have e10 : (s_st7 S x).1 0 10 = 1 := by simp [s_st7, sp_r]
  have e38 : (s_st7 S x).1 38 = S.1 38 := by
    unfold s_st7
    rw [sp_ne _ _ _ _ 38 (by decide), sp_ne _ _ _ _ 38 (by decide), sp_ne _ _ _ _ 38 (by decide), sp_ne _ _ _ _ 38 (by decide), sp_ne _ _ _ _ 38 (by decide), sp_ne _ _ _ _ 38 (by decide), sp_ne _ _ _ _ 38 (by decide)]
  have e40 : (s_st7 S x).1 40 = S.1 40 := by
    unfold s_st7
    rw [sp_ne _ _ _ _ 40 (by decide), sp_ne _ _ _ _ 40 (by decide), sp_ne _ _ _ _ 40 (by decide), sp_ne _ _ _ _ 40 (by decide), sp_ne _ _ _ _ 40 (by decide), sp_ne _ _ _ _ 40 (by decide), sp_ne _ _ _ _ 40 (by decide)]
  have est : s_st0 S x = s_fill (s_st7 S x) 40 := rfl
  have lp : S.1 0 10 = 0 → ¬ (S.1 0 10 ≠ 0 ∨ x < 1 ∨ 9 < x ∨ ck ≠ 0) → ∀ m j M1, j + m = n → RM w n (s_z40 (s_st7 S x) j) M1 none c → wx G (sM D cI cZ a) 3 (Qxi G (sM D cI cZ a) (fun r M' => ∃ ck, ckR n S.1 ck ∧ r = (s_start w n S x ck).1 ∧ rt w n (s_start w n S x ck).2 none c 24 M')) M1 69 [(0, .ref (a 0)), (1, .int x), (2, .int (nI j))] [] := by
    intro h10 hok m
    have hNU := hN h10
    induction m with
    | zero =>
      intro j M1 hj hM1
      have hj : j = n := by omega
      subst hj
      have h4 : M1 0 1 ≤ nI j := by rw [hM1.g.1]; exact (nle (by omega) (by omega)).mpr (by omega)
      have hM2 : RM w j (s_st0 S x) M1 none c := by
        rw [est]
        refine RM_40 hM1 (fun k hk => ?_) ?_ (fun t ht => ?_)
        · funext i
          rw [s_fill_at, if_neg (fun q => hk q.1), z40_at, if_neg (fun q => hk q.1)]
        · rw [z40_l]; rfl
        · rw [s_fill_at, if_pos ⟨rfl, ht⟩, z40_at]
          by_cases e : 40 = 40 ∧ t < j
          · rw [if_pos e]
          · rw [if_neg e, e40]
            exact (hI.2.2.2 t (by omega)).2.2.symm
      have hI2 := IV_st0 hI x
      refine sR_start_69 F hR (K69 := fun _ _ _ => False) (fun _ _ _ q => q.elim) ⟨fun _ => ⟨_, kR_nextRound hJ M1 hM2 hI2.1 hI2.2.2.2 hc, ?_⟩, fun q => absurd h4 q⟩
      rintro M6 ⟨⟨c6, g1, g2, g3⟩, -⟩
      refine ⟨ck, hck, ?_⟩
      unfold s_start
      rw [if_neg hok]
      exact ⟨rfl, c6, g1, g2, g3⟩
    | succ m ih =>
      intro j M1 hj hM1
      have h4 : ¬ M1 0 1 ≤ nI j := by rw [hM1.g.1]; intro q; have := (nle (by omega) (by omega)).mp q; omega
      refine sR_start_69 F hR (K69 := fun M2 x1 x2 => x1 = x ∧ x2 = nI (j + 1) ∧ RM w n (s_z40 (s_st7 S x) (j + 1)) M2 none c) ?_ ⟨fun q => absurd q h4, fun _ => ⟨j, rfl, by omega, ?_⟩⟩
      · rintro M2 x1 x2 ⟨h1, rfl, g⟩
        rw [h1]
        exact ih (j + 1) M2 (by omega) g
      · rintro M8 rfl M14 rfl
        refine ⟨rfl, nI_1 j, RM_hu (RM_ran hM1 j 0) (fun _ _ => rfl) rfl (fun k hk => mp_ne _ _ _ _ hk) (fun _ i hi _ q38 => ?_)⟩
        rw [z40_at, if_neg (by omega), e38, hNU i hi] at q38
        exact absurd q38 (by decide)
  refine sR_start_0 F hR (K69 := fun M1 x1 x2 => x1 = x ∧ x2 = nI 0 ∧ S.1 0 10 = 0 ∧ ¬ (S.1 0 10 ≠ 0 ∨ x < 1 ∨ 9 < x ∨ ck ≠ 0) ∧ RM w n (s_st7 S x) M1 none c) ?_ ⟨fun h => no M hM (Or.inl (by rw [← e18]; exact h)), fun h => ⟨fun h1 => no M hM (Or.inr (Or.inl h1)), fun h1 => ⟨fun h2 => no M hM (Or.inr (Or.inr (Or.inl h2))), fun h2 => ⟨_, kR_check hJ M hM.g hF.g, ?_⟩⟩⟩⟩
  · rintro M1 x1 x2 ⟨h1, rfl, g1, g2, g3⟩
    rw [h1]
    exact lp g1 g2 n 0 M1 (by omega) g3
  · rintro r M8 ⟨hW, hr⟩
    have hr2 := ckR_one hr hck
    subst hr2
    have hM8 := RM_13 hM hW
    refine ⟨fun h3 => ?_, fun h3 => no M8 hM8 (Or.inr (Or.inr (Or.inr h3)))⟩
    rintro M11 rfl M13 rfl M15 rfl M17 rfl M19 rfl M21 rfl M23 rfl M25 rfl
    have h10 := e18.symm.trans h
    refine ⟨rfl, rfl, h10, ?_, RM_st hM8 (hN h10) (fun q => h1 (by rw [q]; decide))⟩
    rintro (q | q | q | q)
    · exact q h10
    · exact h1 q
    · exact h2 q
    · exact q h3
end DR12
