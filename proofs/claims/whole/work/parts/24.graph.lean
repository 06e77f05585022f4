/-! cancel, start, add, edge, capacity: what they do, and that they keep what is true between calls -/
theorem pl_cd {w l : Nat} (hw : w ≤ 4) (hl : l < w + 2) : pl (cd w l) = true := by
  rw [pl, decide_eq_true_iff, cd_n]
  have a1 := cdn_lt hw hl
  by_cases h0 : l = 0
  · left; unfold cdn; rw [if_pos h0]; rfl
  · right
    intro q
    have q := (nlt (b := 10) (by omega) (by omega)).mp q
    unfold cdn at q
    (repeat' split at q) <;> omega
theorem pl_n {k : Nat} (h1 : k ≠ 1) (h2 : k < 10) : ¬ pl (nI k) = true := by
  rw [pl, decide_eq_true_iff]
  rintro (q | q)
  · exact h1 ((neq (b := 1) (by omega) (by omega)).mp q)
  · exact q ((nlt (b := 10) (by omega) (by omega)).mpr h2)
theorem IV_drop {w n : Nat} {S : SS} (h : IV w n S) : IV w n (s_drop w n S).2 := by
  obtain ⟨hF, hJ, hR, hB⟩ := h
  have hw := hF.w4
  have r : ∀ k i, (s_drop w n S).2.1 k i = if k = 38 ∧ i < n ∧ pl (S.1 38 i) = true then 0 else S.1 k i := s_drp_at S n
  have hf : fr S (s_drop w n S).2 := fun k _ h2 => by
    funext i
    rw [r, if_neg (by omega)]
  refine ⟨hF.k ⟨hf, by rw [r, if_neg (by omega)], fun _ l hl => ?_⟩, fun t ht ha p hp h3 h2 => ?_, fun k hk => ?_, fun i hi => ?_⟩
  · show (if l < w + 2 then [] else _ : List Nat).Nodup ∧ ∀ t, t ∈ (if l < w + 2 then [] else _ : List Nat) ↔ t < n ∧ (s_drop w n S).2.1 38 t = cd w l
    rw [if_pos hl]
    refine ⟨List.nodup_nil, fun t => ⟨(fun q => by cases q), fun q => ?_⟩⟩
    rw [r] at q
    by_cases z : 38 = 38 ∧ t < n ∧ pl (S.1 38 t) = true
    · rw [if_pos z] at q; exact absurd q.2.symm (cd_0 hw hl)
    · rw [if_neg z] at q
      exact absurd ⟨rfl, q.1, by rw [q.2]; exact pl_cd hw hl⟩ z
  · rw [hf 3 (by decide) (by decide)] at h3
    rw [hf 2 (by decide) (by decide)] at h2
    rw [r] at ha
    by_cases z : 38 = 38 ∧ t < n ∧ pl (S.1 38 t) = true
    · rw [if_pos z] at ha; exact absurd rfl ha
    · rw [if_neg z] at ha
      have := hJ t ht ha p hp h3 h2
      rw [r, if_neg]
      · exact this
      · rw [this]; exact fun q => pl_n (k := 2) (by decide) (by decide) q.2.2
  · rw [r, if_neg (by omega)]
    rcases hR k hk with z | ⟨t', z1, z2, z3⟩
    · exact Or.inl z
    · refine Or.inr ⟨t', z1, z2, ?_⟩
      rw [r, if_neg]
      · exact z3
      · rw [z3]; exact fun q => pl_n (by omega) (by omega) q.2.2
  · obtain ⟨b1, b2, b3⟩ := hB i hi
    exact ⟨by rw [r, if_neg (by omega)]; exact b1, by rw [r, if_neg (by omega)]; exact b2, by rw [r, if_neg (by omega)]; exact b3⟩
theorem IV_ecw1 {w n : Nat} {S : SS} (h : IV w n S) {m : Nat} (hm : m < n) : IV w n (if S.1 38 m = 2 ∧ ¬ s_act n S (nI m) = true then sp S 38 m 0 else S) := by
  by_cases q : S.1 38 m = 2 ∧ ¬ s_act n S (nI m) = true
  · rw [if_pos q]
    obtain ⟨hF, hJ, hR, hB⟩ := h
    have hw := hF.w4
    have hP : PE w n S m := ⟨hm, by rw [q.1]; decide, fun l hl => by rw [q.1]; exact (cd_2 hw hl).symm, fun _ t' ht' h3 => Classical.byContradiction fun z => q.2 (by rw [s_act_iff]; exact ⟨t', ht', h3, z⟩)⟩
    obtain ⟨h1, h2, -⟩ := idle_inv hF hJ hP
    refine ⟨hF.k h1, h2, fun k hk => ?_, fun i hi => ?_⟩
    · rw [sp_r, if_neg (by omega)]
      rcases hR k hk with z | ⟨t', z1, z2, z3⟩
      · exact Or.inl z
      · refine Or.inr ⟨t', z1, z2, ?_⟩
        rw [sp_r, if_neg]
        · exact z3
        · rintro ⟨-, rfl⟩
          rw [q.1] at z3
          exact n3_2 (by omega) z3.symm
    · obtain ⟨b1, b2, b3⟩ := hB i hi
      exact ⟨by rw [sp_r, if_neg (by omega)]; exact b1, by rw [sp_r, if_neg (by omega)]; exact b2, by rw [sp_r, if_neg (by omega)]; exact b3⟩
  · rw [if_neg q]; exact h
theorem IV_ecw {w n : Nat} : ∀ m, m ≤ n → ∀ S, IV w n S → IV w n (s_ecw n m S) := by
  intro m
  induction m with
  | zero => intro _ S h; exact h
  | succ m ih => intro hm S h; exact ih (by omega) _ (IV_ecw1 h (by omega))
theorem IV_cancel {w n : Nat} {S : SS} (h : IV w n S) : IV w n (s_cancel w n S).2 := by
  unfold s_cancel
  by_cases q : S.1 0 10 = 0 ∨ S.1 0 11 ≠ 0
  · rw [if_pos q]; exact h
  · rw [if_neg q]; exact IV_close (IV_ecw n (Nat.le_refl _) _ (IV_drop (IV_sp0 h (by decide) 1)))
/-- what check answers -/
def ckR (n : Nat) (R : MM) (r : Int32) : Prop := (n = 0 ∧ r = 1) ∨ (n ≠ 0 ∧ s_nosrc n R = true ∧ r = 2) ∨ (n ≠ 0 ∧ s_nosrc n R = false ∧ cy n (se R) ∧ r = 3) ∨ (n ≠ 0 ∧ s_nosrc n R = false ∧ ¬ cy n (se R) ∧ r = 0)
theorem ckR_one {n : Nat} {R : MM} {r r' : Int32} (h : ckR n R r) (h' : ckR n R r') : r = r' := by
  rcases h with ⟨a, rfl⟩ | ⟨a, b, rfl⟩ | ⟨a, b, c, rfl⟩ | ⟨a, b, c, rfl⟩ <;> rcases h' with ⟨a', rfl⟩ | ⟨a', b', rfl⟩ | ⟨a', b', c', rfl⟩ | ⟨a', b', c', rfl⟩ <;> first | rfl | (exact absurd a a') | (exact absurd a' a) | (exact absurd c c') | (exact absurd c' c) | (rw [b] at b'; cases b')
def s_st0 (S : SS) (x : Int32) : SS := s_fill (sp (sp (sp (sp (sp (sp (sp S 0 10 1) 0 11 0) 0 12 (-1)) 0 13 x) 0 14 0) 0 15 0) 0 16 0) 40
def s_start (w n : Nat) (S : SS) (x ck : Int32) : Int32 × SS := if S.1 0 10 ≠ 0 ∨ x < 1 ∨ 9 < x ∨ ck ≠ 0 then (0, S) else (1, s_round w n (s_st0 S x))
theorem IV_fill40 {w n : Nat} {S : SS} (h : IV w n S) : IV w n (s_fill S 40) := by
  obtain ⟨hF, hJ, hR, hB⟩ := h
  have hk := kp1_fill (w := w) (n := n) S (k := 40) (by decide)
  have e : ∀ k, k ≠ 40 → (s_fill S 40).1 k = S.1 k := fun k q => by
    funext i
    rw [s_fill_at, if_neg (fun z => q z.1)]
  refine ⟨hF.k hk, JW_eq hJ hk.1 (e 38 (by decide)), RU_up hF.w4 hR (e 37 (by decide)) (fun i _ => by rw [e 38 (by decide)]), fun i hi => ?_⟩
  obtain ⟨b1, b2, b3⟩ := hB i hi
  refine ⟨by rw [e 38 (by decide)]; exact b1, by rw [e 39 (by decide)]; exact b2, ?_⟩
  rw [s_fill_at]
  by_cases q : 40 = 40 ∧ i < 24
  · rw [if_pos q]
  · rw [if_neg q]; exact b3
theorem IV_st0 {w n : Nat} {S : SS} (h : IV w n S) (x : Int32) : IV w n (s_st0 S x) :=
  IV_fill40 (IV_sp0 (IV_sp0 (IV_sp0 (IV_sp0 (IV_sp0 (IV_sp0 (IV_sp0 h (by decide) _) (by decide) _) (by decide) _) (by decide) _) (by decide) _) (by decide) _) (by decide) _)
theorem IV_start {w n : Nat} {S : SS} (h : IV w n S) (x ck : Int32) : IV w n (s_start w n S x ck).2 := by
  unfold s_start
  by_cases q : S.1 0 10 ≠ 0 ∨ x < 1 ∨ 9 < x ∨ ck ≠ 0
  · rw [if_pos q]; exact h
  · rw [if_neg q]; exact IV_round (IV_st0 h x)
def s_lv (S : SS) (p : Int32) : Int32 := if p = -1 then 0 else S.1 4 (tn p) + 1
def s_new (n : Nat) (S : SS) (k p d : Int32) : SS := sp (sp (sp (sp (sp S 2 n k) 3 n p) 4 n (s_lv S p)) 5 n d) 1 0 (nI (n + 1))
def s_add (n : Nat) (S : SS) (k p d : Int32) : Int32 × Nat × SS := if S.1 0 10 ≠ 0 ∨ ¬ s_takes n S.1 k p d = true then (-1, n, S) else (nI n, n + 1, s_new n S k p d)
theorem s_new_at (n : Nat) (S : SS) (k p d : Int32) (k' i : Nat) : (s_new n S k p d).1 k' i = if k' = 1 ∧ i = 0 then nI (n + 1) else if i = n ∧ k' = 2 then k else if i = n ∧ k' = 3 then p else if i = n ∧ k' = 4 then s_lv S p else if i = n ∧ k' = 5 then d else S.1 k' i := by
  unfold s_new
  rw [sp_r, sp_r, sp_r, sp_r, sp_r]
  by_cases h1 : k' = 1 ∧ i = 0
  · rw [if_pos h1, if_pos h1]
  · rw [if_neg h1, if_neg h1]
    by_cases h2 : i = n
    · subst h2
      by_cases a2 : k' = 2
      · subst a2; simp
      · by_cases a3 : k' = 3
        · subst a3; simp
        · by_cases a4 : k' = 4
          · subst a4; simp
          · by_cases a5 : k' = 5
            · subst a5; simp
            · simp [a2, a3, a4, a5]
    · simp [h2]
theorem sN_congr {f g : Nat → Nat} : ∀ m, (∀ q, q < m → f q = g q) → sN f m = sN g m := by
  intro m
  induction m with
  | zero => intro _; rfl
  | succ m ih => intro q; show sN f m + f m = sN g m + g m; rw [ih (fun i hi => q i (by omega)), q m (by omega)]
theorem cN_congr {f g : Nat → Bool} : ∀ m, (∀ q, q < m → f q = g q) → cN f m = cN g m := by
  intro m
  induction m with
  | zero => intro _; rfl
  | succ m ih => intro q; show cN f m + (if f m = true then 1 else 0) = cN g m + (if g m = true then 1 else 0); rw [ih (fun i hi => q i (by omega)), q m (by omega)]
theorem cN_0 {f : Nat → Bool} : ∀ m, (∀ q, q < m → ¬ f q = true) → cN f m = 0 := by
  intro m
  induction m with
  | zero => intro _; rfl
  | succ m ih => intro q; show cN f m + (if f m = true then 1 else 0) = 0; rw [ih (fun i hi => q i (by omega)), if_neg (q m (by omega))]
theorem sN_0 {f : Nat → Nat} : ∀ m, (∀ q, q < m → f q = 0) → sN f m = 0 := by
  intro m
  induction m with
  | zero => intro _; rfl
  | succ m ih => intro q; show sN f m + f m = 0; rw [ih (fun i hi => q i (by omega)), q m (by omega)]
theorem sN_one {f g : Nat → Nat} {a d : Nat} : ∀ m, a < m → (∀ q, q ≠ a → g q = f q) → g a = f a + d → sN g m = sN f m + d := by
  intro m
  induction m with
  | zero => intro h; exact absurd h (Nat.not_lt_zero _)
  | succ m ih =>
    intro h h1 h2
    show sN g m + g m = sN f m + f m + d
    by_cases e : a = m
    · subst e
      rw [sN_congr (f := g) (g := f) a (fun q hq => h1 q (by omega)), h2]
      omega
    · rw [ih (by omega) h1 h2, h1 m (Ne.symm e)]
      omega
theorem takes_of {n : Nat} {R : MM} {k p d : Int32} (h : s_takes n R k p d = true) : n < 24 ∧ (∃ j, j ≤ 3 ∧ k = nI j) ∧ (∃ j, j < 16 ∧ d = nI j) ∧ (p = -1 ∨ ∃ t, t < n ∧ p = nI t ∧ (R 2 t = 2 ∨ R 2 t = 3) ∧ R 4 t < 3) := by
  simp only [s_takes, Bool.and_eq_true, Bool.or_eq_true, decide_eq_true_iff] at h
  obtain ⟨⟨⟨h1, h2⟩, h3⟩, h4⟩ := h
  refine ⟨h1, ?_, ?_, ?_⟩
  · obtain ⟨j, hj, rfl⟩ := nI_of (Int32.not_lt.mpr h2.1)
    exact ⟨j, (nI_leI (b := 3) hj (by decide)).mp h2.2, rfl⟩
  · obtain ⟨j, hj, rfl⟩ := nI_of (Int32.not_lt.mpr h3.1)
    have := (nI_leI (b := 15) hj (by decide)).mp h3.2
    exact ⟨j, by omega, rfl⟩
  · rcases h4 with h4 | h4
    · exact Or.inl h4
    · obtain ⟨t, ht, rfl⟩ := isT_of (by omega) h4.1.1
      rw [tnI (show t < 1000 by omega)] at h4
      exact Or.inr ⟨t, ht, rfl, h4.1.2, h4.2⟩
theorem GR_new {n : Nat} {S : SS} (hG : GR n S.1) {k p d : Int32} (h : s_takes n S.1 k p d = true) : GR (n + 1) (s_new n S k p d).1 := by
  obtain ⟨h1, ⟨kk, hk, rfl⟩, ⟨dd, hd, rfl⟩, hp⟩ := takes_of h
  have at' := s_new_at n S (nI kk) p (nI dd)
  have eO : ∀ k' i, (k' < 1 ∨ 5 < k') → (s_new n S (nI kk) p (nI dd)).1 k' i = S.1 k' i := fun k' i q => by
    rw [at', if_neg (by omega), if_neg (by omega), if_neg (by omega), if_neg (by omega), if_neg (by omega)]
  have eL : ∀ k' i, 1 < k' → i ≠ n → (s_new n S (nI kk) p (nI dd)).1 k' i = S.1 k' i := fun k' i q1 q2 => by
    rw [at', if_neg (by omega), if_neg (fun q => q2 q.1), if_neg (fun q => q2 q.1), if_neg (fun q => q2 q.1), if_neg (fun q => q2 q.1)]
  have e2 : (s_new n S (nI kk) p (nI dd)).1 2 n = nI kk := by rw [at', if_neg (by omega), if_pos ⟨rfl, rfl⟩]
  have e3 : (s_new n S (nI kk) p (nI dd)).1 3 n = p := by rw [at', if_neg (by omega), if_neg (by omega), if_pos ⟨rfl, rfl⟩]
  have e4 : (s_new n S (nI kk) p (nI dd)).1 4 n = s_lv S p := by rw [at', if_neg (by omega), if_neg (by omega), if_neg (by omega), if_pos ⟨rfl, rfl⟩]
  have e5 : (s_new n S (nI kk) p (nI dd)).1 5 n = nI dd := by rw [at', if_neg (by omega), if_neg (by omega), if_neg (by omega), if_neg (by omega), if_pos ⟨rfl, rfl⟩]
  have eec : ∀ a t, ec (s_new n S (nI kk) p (nI dd)).1 a t = ec S.1 a t := fun a t => by
    unfold ec
    rw [eO 6 a (by omega)]
    exact cN_congr _ (fun q _ => by rw [eO (10 + a) q (by omega)])
  have ecn : ∀ t, ec S.1 n t = 0 := fun t => by
    unfold ec
    rw [(hG.beh n (Nat.le_refl _)).1]
    rfl
  have ecx : ∀ a, a < n → ec S.1 a n = 0 := fun a ha => by
    unfold ec
    refine cN_0 _ (fun q hq => ?_)
    rw [decide_eq_true_iff]
    intro z
    obtain ⟨y1, y2⟩ := hG.e1 ha hq
    rw [y2] at z
    have := (neq (by omega) (by omega)).mp z
    omega
  refine ⟨⟨by omega, by rw [at', if_pos ⟨rfl, rfl⟩]⟩, fun t ht => ?_, fun t ht => ?_, fun t ht => ?_, fun t ht => ?_, fun t ht => ?_, fun t ht => ?_, fun t ht => ?_, fun t ht => ?_⟩
  · by_cases e : t = n
    · subst e; exact ⟨kk, hk, e2⟩
    · rw [eL 2 t (by decide) e]; exact hG.kind t (by omega)
  · by_cases e : t = n
    · subst e
      rw [e3]
      rcases hp with q | ⟨q, q1, q2, -⟩
      · exact Or.inl q
      · exact Or.inr ⟨q, q1, q2⟩
    · rw [eL 3 t (by decide) e]; exact hG.par t (by omega)
  · by_cases e : t = n
    · subst e
      rw [e4, e3]
      unfold s_lv
      rcases hp with q | ⟨q, q1, rfl, -, q4⟩
      · rw [if_pos q]
        exact ⟨0, by omega, rfl, fun p' _ z => by rw [q] at z; exact absurd z.symm (nm1 (by omega))⟩
      · obtain ⟨v, v1, v2, -⟩ := hG.lev q q1
        rw [v2] at q4
        have v3 := (nlt (b := 3) (by omega) (by omega)).mp q4
        rw [if_neg (nm1 (show q < 1000 by omega)), tnI (show q < 1000 by omega), v2, nI_1]
        refine ⟨v + 1, by omega, rfl, fun p' hp' z => ⟨v, rfl, ?_⟩⟩
        rw [← (neq (by omega) (by omega)).mp z, eL 4 q (by decide) (by omega)]
        exact v2
    · rw [eL 3 t (by decide) e, eL 4 t (by decide) e]
      obtain ⟨v, v1, v2, v3⟩ := hG.lev t (by omega)
      exact ⟨v, v1, v2, fun p' hp' z => by rw [eL 4 p' (by decide) (by omega)]; exact v3 p' hp' z⟩
  · by_cases e : t = n
    · subst e; exact ⟨dd, hd, e5⟩
    · rw [eL 5 t (by decide) e]; exact hG.need t (by omega)
  · rw [eO 6 t (by omega)]
    by_cases e : t = n
    · subst e
      exact ⟨0, by omega, (hG.beh t (Nat.le_refl _)).1, fun k hk => absurd hk (Nat.not_lt_zero _)⟩
    · obtain ⟨c, c1, c2, c3⟩ := hG.2.2.2.2.2.1 t (by omega)
      refine ⟨c, c1, c2, fun k hk => ?_⟩
      obtain ⟨b, b1, b2, b3⟩ := c3 k hk
      exact ⟨b, by omega, by rw [eO (10 + t) k (by omega)]; exact b2, by rw [eL 3 b (by decide) (by omega), eL 3 t (by decide) e]; exact b3⟩
  · rw [eO 6 t (by omega), eO 7 t (by omega), eO 8 t (by omega)]
    exact hG.beh t (by omega)
  · rw [eO 7 t (by omega)]
    unfold ei
    rw [sN_congr (f := fun a => ec (s_new n S (nI kk) p (nI dd)).1 a t) (g := fun a => ec S.1 a t) _ (fun q _ => eec q t)]
    show _ = nI (sN (fun a => ec S.1 a t) n + ec S.1 n t)
    rw [ecn, Nat.add_zero]
    by_cases e : t = n
    · subst e
      rw [sN_0 t (fun q hq => ecx q hq)]
      exact (hG.beh t (Nat.le_refl _)).2.1
    · exact hG.ein t (by omega)
  · rw [eO 8 t (by omega)]
    unfold es
    have z1 : ∀ q, q < n + 1 → (if (s_new n S (nI kk) p (nI dd)).1 2 q = 1 then 0 else ec (s_new n S (nI kk) p (nI dd)).1 q t) = if S.1 2 q = 1 then 0 else ec S.1 q t := fun q hq => by
      rw [eec]
      by_cases e : q = n
      · subst e; rw [ecn]; simp
      · rw [eL 2 q (by decide) e]
    rw [sN_congr _ z1]
    show _ = nI (sN (fun a => if S.1 2 a = 1 then 0 else ec S.1 a t) n + if S.1 2 n = 1 then 0 else ec S.1 n t)
    rw [ecn, show (if S.1 2 n = 1 then 0 else 0) = 0 by simp, Nat.add_zero]
    by_cases e : t = n
    · subst e
      rw [sN_0 t (fun q hq => by rw [ecx q hq]; simp)]
      exact (hG.beh t (Nat.le_refl _)).2.2
    · exact hG.esn t (by omega)
theorem IV_add {w n : Nat} {S : SS} (h : IV w n S) (k p d : Int32) : IV w (s_add n S k p d).2.1 (s_add n S k p d).2.2 := by
  unfold s_add
  by_cases q : S.1 0 10 ≠ 0 ∨ ¬ s_takes n S.1 k p d = true
  · rw [if_pos q]; exact h
  · rw [if_neg q]
    show IV w (n + 1) (s_new n S k p d)
    have ht : s_takes n S.1 k p d = true := Classical.byContradiction fun z => q (Or.inr z)
    obtain ⟨hF, hJ, hR, hB⟩ := h
    have hw := hF.w4
    have at' := s_new_at n S k p d
    have e38 : ∀ k' i, 5 < k' → (s_new n S k p d).1 k' i = S.1 k' i := fun k' i z => by
      rw [at', if_neg (by omega), if_neg (by omega), if_neg (by omega), if_neg (by omega), if_neg (by omega)]
    have eL : ∀ k' i, 1 < k' → i ≠ n → (s_new n S k p d).1 k' i = S.1 k' i := fun k' i q1 q2 => by
      rw [at', if_neg (by omega), if_neg (fun q => q2 q.1), if_neg (fun q => q2 q.1), if_neg (fun q => q2 q.1), if_neg (fun q => q2 q.1)]
    have h24 := (takes_of ht).1
    refine ⟨⟨hw, by rw [at', if_neg (by omega), if_neg (by omega), if_neg (by omega), if_neg (by omega), if_neg (by omega)]; exact hF.h0, GR_new hF.g ht, fun l hl => ⟨(hF.ln l hl).1, fun t => ?_⟩⟩, fun t ht' ha p' hp' h3 h2 => ?_, fun k' hk' => ?_, fun i hi => ?_⟩
    · rw [show (s_new n S k p d).2 l = S.2 l from rfl, (hF.ln l hl).2, e38 38 t (by decide)]
      refine ⟨fun z => ⟨by omega, z.2⟩, fun z => ⟨?_, z.2⟩⟩
      by_cases e : t = n
      · subst e
        rw [(hB t (Nat.le_refl _)).1] at z
        exact absurd z.2.symm (cd_0 hw hl)
      · omega
    · rw [e38 38 t (by decide)] at ha
      rw [e38 38 p' (by decide)]
      have htn : t ≠ n := fun e => ha (by rw [e]; exact (hB n (Nat.le_refl _)).1)
      rw [eL 3 t (by decide) htn] at h3
      have hp'n : p' < n := by
        rcases hF.g.par t (by omega) with z | ⟨z, z1, z2⟩
        · rw [z] at h3; exact absurd h3.symm (nm1 (by omega))
        · rw [z2] at h3
          have := (neq (by omega) (by omega)).mp h3
          omega
      rw [eL 2 p' (by decide) (by omega)] at h2
      exact hJ t (by omega) ha p' hp'n h3 h2
    · rw [e38 37 k' (by decide)]
      rcases hR k' hk' with z | ⟨t', z1, z2, z3⟩
      · exact Or.inl z
      · exact Or.inr ⟨t', by omega, z2, by rw [e38 38 t' (by decide)]; exact z3⟩
    · rw [e38 38 i (by decide), e38 39 i (by decide), e38 40 i (by decide)]
      exact hB i (by omega)
