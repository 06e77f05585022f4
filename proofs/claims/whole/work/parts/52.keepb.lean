/-! add, edge, capacity keep what is true between two calls -/
theorem IR_add {w n : Nat} {S : SS} (hI : IV w n S) (h : IR w n S) (k p d : Int32) : IR w (s_add n S k p d).2.1 (s_add n S k p d).2.2 := by
  unfold s_add
  by_cases q : S.1 0 10 ≠ 0 ∨ ¬ s_takes n S.1 k p d = true
  · rw [if_pos q]; exact h
  · rw [if_neg q]
    show IR w (n + 1) (s_new n S k p d)
    obtain ⟨h1, h2, h3, h4, h6⟩ := h
    have hw := hI.1.w4
    have at' := s_new_at n S k p d
    have e38 : ∀ k' i, 5 < k' → (s_new n S k p d).1 k' i = S.1 k' i := fun k' i z => by
      rw [at', if_neg (by omega), if_neg (by omega), if_neg (by omega), if_neg (by omega), if_neg (by omega)]
    have e0 : ∀ i, (s_new n S k p d).1 0 i = S.1 0 i := fun i => by
      rw [at', if_neg (by omega), if_neg (by omega), if_neg (by omega), if_neg (by omega), if_neg (by omega)]
    have e5 : ∀ i, i ≠ n → (s_new n S k p d).1 5 i = S.1 5 i := fun i z => by
      rw [at', if_neg (by omega), if_neg (fun q => z q.1), if_neg (fun q => z q.1), if_neg (fun q => z q.1), if_neg (fun q => z q.1)]
    have b := (hI.2.2.2 n (Nat.le_refl _)).1
    have hr : ∀ i, isR w (s_new n S k p d) i = isR w S i := fun i => by
      unfold isR
      rw [e38 38 i (by decide)]
    have hn : isR w S n = false := by
      rw [Bool.eq_false_iff]
      intro z
      rw [isR_iff] at z
      obtain ⟨k', hk', z⟩ := z
      rw [b] at z
      exact n3_0 (by omega) z.symm
    refine ⟨fun t ht k' hk' z => ?_, fun s hs => ?_, fun s hs => by rw [e38 35 s (by decide)]; exact h3 s hs, TH_0q h4 (e0 12), RO_0q h6 (e0 13) (e0 14)⟩
    · rw [e38 38 t (by decide)] at z
      rw [e38 37 k' (by decide)]
      by_cases e : t = n
      · rw [e, b] at z; exact absurd z.symm (n3_0 (by omega))
      · exact h1 t (by omega) k' hk' z
    · rw [e38 36 s (by decide), h2 s hs]
      congr 1
      unfold hu
      show _ = cN _ n + (if _ = true then 1 else 0)
      dsimp only
      have hz : ¬ ((isR w (s_new n S k p d) n && decide ((none : Option Nat) ≠ some n) && nb ((s_new n S k p d).1 5 n) s) = true) := by
        rw [hr n, hn]
        simp
      rw [if_neg hz, Nat.add_zero]
      refine cN_congr n (fun i hi => ?_)
      rw [hr i, e5 i (by omega)]
theorem NB_add {w n : Nat} {S : SS} (hI : IV w n S) (h : NB n S) (k p d : Int32) : NB (s_add n S k p d).2.1 (s_add n S k p d).2.2 := by
  unfold s_add
  by_cases q : S.1 0 10 ≠ 0 ∨ ¬ s_takes n S.1 k p d = true
  · rw [if_pos q]; exact h
  · rw [if_neg q]
    show NB (n + 1) (s_new n S k p d)
    have h10 : S.1 0 10 = 0 := Classical.byContradiction fun z => q (Or.inl z)
    have at' := s_new_at n S k p d
    have e38 : ∀ k' i, 5 < k' → (s_new n S k p d).1 k' i = S.1 k' i := fun k' i z => by
      rw [at', if_neg (by omega), if_neg (by omega), if_neg (by omega), if_neg (by omega), if_neg (by omega)]
    have e0 : ∀ i, (s_new n S k p d).1 0 i = S.1 0 i := fun i => by
      rw [at', if_neg (by omega), if_neg (by omega), if_neg (by omega), if_neg (by omega), if_neg (by omega)]
    refine ⟨fun _ t ht => ?_, BG_q h.2 (e0 10) (e0 13) (e0 14)⟩
    rw [e38 38 t (by decide)]
    by_cases e : t = n
    · rw [e]; exact (hI.2.2.2 n (Nat.le_refl _)).1
    · exact h.1 h10 t (by omega)
theorem IA_add {w n : Nat} {S : SS} (h : IA w n S) (k p d : Int32) : IA w (s_add n S k p d).2.1 (s_add n S k p d).2.2 := ⟨IV_add h.1 k p d, IR_add h.1 h.2.1 k p d, NB_add h.1 h.2.2 k p d⟩
theorem ae_at {S : SS} {a b : Nat} (ha : a < 24) (k i : Nat) (hk : k < 6 ∨ 34 ≤ k) : (s_ae S a b).1 k i = S.1 k i := by
  have e : (s_ae1 S a b).1 k i = S.1 k i := by
    unfold s_ae1
    rw [sp_r, if_neg (by omega), sp_r, if_neg (by omega), sp_r, if_neg (by omega)]
  unfold s_ae
  by_cases q : S.1 2 a = 1
  · rw [if_pos q]; exact e
  · rw [if_neg q, sp_r, if_neg (by omega)]; exact e
theorem IA_edge {w n : Nat} {S : SS} (h : IA w n S) (x y : Int32) : IA w n (s_edge n S x y).2 := by
  refine ⟨IV_edge h.1 x y, ?_, ?_⟩
  · unfold s_edge
    by_cases q : S.1 0 10 ≠ 0 ∨ ¬ s_takesE n S.1 x y = true
    · rw [if_pos q]; exact h.2.1
    · rw [if_neg q]
      have ht : s_takesE n S.1 x y = true := Classical.byContradiction fun z => q (Or.inr z)
      have hx : isT n x = true := by
        unfold s_takesE at ht
        rw [Bool.and_eq_true, Bool.and_eq_true, Bool.and_eq_true, Bool.and_eq_true] at ht
        exact ht.1.1.1.1
      have hn := h.1.1.le
      obtain ⟨t, ht', rfl⟩ := isT_of (by omega) hx
      rw [tnI (by omega)]
      have e : ∀ k, (k < 6 ∨ 34 ≤ k) → (s_ae S t (tn y)).1 k = S.1 k := fun k hk => funext fun i => ae_at (by omega) k i hk
      exact IR_same h.2.1 (e 36 (by omega)) (e 37 (by omega)) (e 5 (by omega)) (e 35 (by omega)) (fun i _ k _ => by rw [e 38 (by omega)]) (e 0 (by omega))
  · unfold s_edge
    by_cases q : S.1 0 10 ≠ 0 ∨ ¬ s_takesE n S.1 x y = true
    · rw [if_pos q]; exact h.2.2
    · rw [if_neg q]
      have ht : s_takesE n S.1 x y = true := Classical.byContradiction fun z => q (Or.inr z)
      have hx : isT n x = true := by
        unfold s_takesE at ht
        rw [Bool.and_eq_true, Bool.and_eq_true, Bool.and_eq_true, Bool.and_eq_true] at ht
        exact ht.1.1.1.1
      have hn := h.1.1.le
      obtain ⟨t, ht', rfl⟩ := isT_of (by omega) hx
      rw [tnI (by omega)]
      have e : ∀ k, (k < 6 ∨ 34 ≤ k) → (s_ae S t (tn y)).1 k = S.1 k := fun k hk => funext fun i => ae_at (by omega) k i hk
      have h10 : S.1 0 10 = 0 := Classical.byContradiction fun z => q (Or.inl z)
      exact ⟨fun _ i hi => by rw [e 38 (by omega)]; exact h.2.2.1 h10 i hi, BG_q h.2.2.2 (by rw [e 0 (by omega)]) (by rw [e 0 (by omega)]) (by rw [e 0 (by omega)])⟩
theorem IA_cap {w n : Nat} {S : SS} (h : IA w n S) (x u : Int32) : IA w n (s_cap S x u).2 := by
  refine ⟨IV_cap h.1 x u, ?_, ?_⟩
  · unfold s_cap
    by_cases q : S.1 0 10 ≠ 0 ∨ ¬ isT 4 x = true ∨ u < 1 ∨ ¬ u ≤ 4
    · rw [if_pos q]; exact h.2.1
    · rw [if_neg q]
      obtain ⟨h1, h2, h3, h4, h6⟩ := h.2.1
      have e := fun k (z : k ≠ 35) => sp_ne S 35 (tn x) u k z
      have hu1 : ¬ u < 1 := fun z => q (Or.inr (Or.inr (Or.inl z)))
      have hu4 : u ≤ 4 := Classical.byContradiction fun z => q (Or.inr (Or.inr (Or.inr z)))
      obtain ⟨j, hj, rfl⟩ : ∃ j, j < 2 ^ 31 ∧ u = nI j := nI_of (fun z => hu1 (Int32.lt_trans z (by decide)))
      have hj4 : j ≤ 4 := (nI_leI (b := 4) hj (by decide)).mp hu4
      have hj1 : 1 ≤ j := by
        have := mt (nI_ltI (b := 1) hj (by decide)).mpr hu1
        omega
      refine ⟨RV_nr h1 (e 37 (by decide)) (nr_eq (e 38 (by decide))), HU_rq h2 (e 36 (by decide)) (e 5 (by decide)) (fun t _ k _ => by rw [e 38 (by decide)]), fun s hs => ?_, TH_0q h4 (by rw [e 0 (by decide)]), RO_0q h6 (by rw [e 0 (by decide)]) (by rw [e 0 (by decide)])⟩
      rw [sp_r]
      by_cases z : 35 = 35 ∧ s = tn x
      · rw [if_pos z]; exact ⟨j, hj1, hj4, rfl⟩
      · rw [if_neg z]; exact h3 s hs
  · unfold s_cap
    by_cases q : S.1 0 10 ≠ 0 ∨ ¬ isT 4 x = true ∨ u < 1 ∨ ¬ u ≤ 4
    · rw [if_pos q]; exact h.2.2
    · rw [if_neg q]
      have e := fun k (z : k ≠ 35) => sp_ne S 35 (tn x) u k z
      have h10 : S.1 0 10 = 0 := Classical.byContradiction fun z => q (Or.inl z)
      exact ⟨fun _ i hi => by rw [e 38 (by decide)]; exact h.2.2.1 h10 i hi, BG_q h.2.2.2 (by rw [e 0 (by decide)]) (by rw [e 0 (by decide)]) (by rw [e 0 (by decide)])⟩
