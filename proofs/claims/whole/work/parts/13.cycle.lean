/-! Strong edges lead from a task back to itself: paths, and the two ways in which the programs look for them (striking out; closing under paths). -/
def pt (n : Nat) (E : Nat → Nat → Prop) : Nat → Nat → Nat → Prop
  | 0, a, b => E a b
  | k + 1, a, b => ∃ c, c < n ∧ E a c ∧ pt n E k c b
def cy (n : Nat) (E : Nat → Nat → Prop) : Prop := ∃ t k, t < n ∧ pt n E k t t
theorem pt_app {n : Nat} {E : Nat → Nat → Prop} {b c j : Nat} (hb : b < n) (h2 : pt n E j b c) : ∀ (i a : Nat), pt n E i a b → pt n E (i + j + 1) a c := by
  intro i
  induction i with
  | zero =>
    intro a h1
    rw [show 0 + j + 1 = j + 1 by omega]
    exact ⟨b, hb, h1, h2⟩
  | succ i ih =>
    intro a h1
    obtain ⟨c', g1, g2, g3⟩ := h1
    rw [show i + 1 + j + 1 = (i + j + 1) + 1 by omega]
    exact ⟨c', g1, g2, ih c' g3⟩
theorem pigeon : ∀ (n : Nat) (x : Nat → Nat), (∀ i, i ≤ n → x i < n) → ∃ i j, i < j ∧ j ≤ n ∧ x i = x j := by
  intro n
  induction n with
  | zero =>
    intro x h
    exact absurd (h 0 (Nat.le_refl _)) (Nat.not_lt_zero _)
  | succ n ih =>
    intro x h
    by_cases hx : ∃ i, i ≤ n ∧ x i = x (n + 1)
    · obtain ⟨i, h1, h2⟩ := hx
      exact ⟨i, n + 1, by omega, Nat.le_refl _, h2⟩
    · have hx : ∀ i, i ≤ n → x i ≠ x (n + 1) := fun i hi e => hx ⟨i, hi, e⟩
      obtain ⟨i, j, h1, h2, h3⟩ := ih (fun i => if x i = n then x (n + 1) else x i) (fun i hi => by
        have a1 := h i (by omega)
        have a2 := h (n + 1) (Nat.le_refl _)
        have a3 := hx i hi
        show (if x i = n then x (n + 1) else x i) < n
        by_cases e : x i = n
        · rw [if_pos e]; omega
        · rw [if_neg e]; omega)
      refine ⟨i, j, h1, by omega, ?_⟩
      have b1 := hx i (by omega)
      have b2 := hx j h2
      by_cases e1 : x i = n
      · by_cases e2 : x j = n
        · rw [e1, e2]
        · have h3 : (if x i = n then x (n + 1) else x i) = (if x j = n then x (n + 1) else x j) := h3
          rw [if_pos e1, if_neg e2] at h3
          exact absurd h3.symm b2
      · by_cases e2 : x j = n
        · have h3 : (if x i = n then x (n + 1) else x i) = (if x j = n then x (n + 1) else x j) := h3
          rw [if_neg e1, if_pos e2] at h3
          exact absurd h3 b1
        · have h3 : (if x i = n then x (n + 1) else x i) = (if x j = n then x (n + 1) else x j) := h3
          rw [if_neg e1, if_neg e2] at h3
          exact h3
/-- a walk of n steps among n tasks goes through one twice -/
theorem walk_cy {n : Nat} {E : Nat → Nat → Prop} (x : Nat → Nat) (hx : ∀ i, i ≤ n → x i < n) (he : ∀ i, i < n → E (x i) (x (i + 1))) : cy n E := by
  obtain ⟨i, j, h1, h2, h3⟩ := pigeon n x hx
  have key : ∀ d i, i + d + 1 ≤ n → pt n E d (x i) (x (i + d + 1)) := by
    intro d
    induction d with
    | zero => intro i hi; exact he i (by omega)
    | succ d ih =>
      intro i hi
      refine ⟨x (i + 1), hx _ (by omega), he i (by omega), ?_⟩
      have := ih (i + 1) (by omega)
      rw [show i + (d + 1) + 1 = i + 1 + d + 1 by omega]
      exact this
  refine ⟨x i, j - i - 1, hx i (by omega), ?_⟩
  have := key (j - i - 1) i (by omega)
  rw [show i + (j - i - 1) + 1 = j by omega, ← h3] at this
  exact this
/-- striking out: one pass over 0 .. m-1, and passes -/
def ks (n : Nat) (E : Nat → Nat → Prop) (L : Nat → Prop) : Nat → Nat → Prop
  | 0 => L
  | m + 1 => fun q => ks n E L m q ∧ (q = m → ∃ c, c < n ∧ E m c ∧ ks n E L m c)
def kp (n : Nat) (E : Nat → Nat → Prop) : Nat → Nat → Prop
  | 0 => fun q => q < n
  | p + 1 => ks n E (kp n E p) n
theorem ks_sub {n : Nat} {E : Nat → Nat → Prop} {L : Nat → Prop} : ∀ (m q : Nat), ks n E L m q → L q := by
  intro m
  induction m with
  | zero => intro q h; exact h
  | succ m ih => intro q h; exact ih q h.1
theorem ks_out {n : Nat} {E : Nat → Nat → Prop} {L : Nat → Prop} : ∀ (m q : Nat), q < m → ks n E L m q → ∃ c, c < n ∧ E q c ∧ L c := by
  intro m
  induction m with
  | zero => intro q hq; exact absurd hq (Nat.not_lt_zero _)
  | succ m ih =>
    intro q hq h
    by_cases e : q = m
    · subst e
      obtain ⟨c, h1, h2, h3⟩ := h.2 rfl
      exact ⟨c, h1, h2, ks_sub _ _ h3⟩
    · exact ih q (by omega) h.1
theorem kp_lt {n : Nat} {E : Nat → Nat → Prop} : ∀ (p q : Nat), kp n E p q → q < n := by
  intro p
  induction p with
  | zero => intro q h; exact h
  | succ p ih => intro q h; exact ih q (ks_sub _ _ h)
theorem kp_walk {n : Nat} {E : Nat → Nat → Prop} : ∀ (p q : Nat), kp n E p q → ∃ x : Nat → Nat, x 0 = q ∧ (∀ i, i ≤ p → x i < n) ∧ ∀ i, i < p → E (x i) (x (i + 1)) := by
  intro p
  induction p with
  | zero =>
    intro q h
    exact ⟨fun _ => q, rfl, fun _ _ => h, fun i hi => absurd hi (Nat.not_lt_zero _)⟩
  | succ p ih =>
    intro q h
    have hq := kp_lt _ _ h
    obtain ⟨c, h1, h2, h3⟩ := ks_out n q hq h
    obtain ⟨x, g1, g2, g3⟩ := ih c h3
    refine ⟨fun i => match i with | 0 => q | i + 1 => x i, rfl, fun i hi => ?_, fun i hi => ?_⟩
    · cases i with
      | zero => exact hq
      | succ i => exact g2 i (by omega)
    · cases i with
      | zero =>
        show E q (x 0)
        rw [g1]
        exact h2
      | succ i => exact g3 i (by omega)
theorem ks_keep {n : Nat} {E : Nat → Nat → Prop} {L Z : Nat → Prop} (hZ : ∀ a, Z a → a < n ∧ ∃ c, c < n ∧ E a c ∧ Z c) (h : ∀ a, Z a → L a) : ∀ m a, Z a → ks n E L m a := by
  intro m
  induction m with
  | zero => exact h
  | succ m ih =>
    intro a ha
    refine ⟨ih a ha, fun e => ?_⟩
    subst e
    obtain ⟨-, c, h1, h2, h3⟩ := hZ a ha
    exact ⟨c, h1, h2, ih c h3⟩
theorem kp_keep {n : Nat} {E : Nat → Nat → Prop} {Z : Nat → Prop} (hZ : ∀ a, Z a → a < n ∧ ∃ c, c < n ∧ E a c ∧ Z c) : ∀ p a, Z a → kp n E p a := by
  intro p
  induction p with
  | zero => exact fun a ha => (hZ a ha).1
  | succ p ih => exact ks_keep hZ ih n
/-- what is left behind n passes: nothing, unless there is a circle -/
theorem kp_iff (n : Nat) (E : Nat → Nat → Prop) : (∃ q, kp n E n q) ↔ cy n E := by
  constructor
  · intro ⟨q, h⟩
    obtain ⟨x, -, h2, h3⟩ := kp_walk n q h
    exact walk_cy x h2 h3
  · intro ⟨t, k, ht, hp⟩
    refine ⟨t, kp_keep (Z := fun a => a < n ∧ ∃ j, pt n E j a t) (fun a ⟨ha, j, hj⟩ => ⟨ha, ?_⟩) n t ⟨ht, k, hp⟩⟩
    cases j with
    | zero => exact ⟨t, ht, hj, ht, k, hp⟩
    | succ j =>
      obtain ⟨c, h1, h2, h3⟩ := hj
      exact ⟨c, h1, h2, h1, j, h3⟩
/-- closing under paths: halts below m alone -/
def pI (E : Nat → Nat → Prop) : Nat → Nat → Nat → Prop
  | 0, a, b => E a b
  | m + 1, a, b => pI E m a b ∨ (pI E m a m ∧ pI E m m b)
theorem pI_up {E : Nat → Nat → Prop} {a b : Nat} : ∀ (m m' : Nat), m ≤ m' → pI E m a b → pI E m' a b := by
  intro m m' h
  induction m' with
  | zero => intro g; rw [show m = 0 by omega] at g; exact g
  | succ m' ih =>
    intro g
    by_cases e : m = m' + 1
    · rw [e] at g; exact g
    · exact Or.inl (ih (by omega) g)
theorem pI_trans {E : Nat → Nat → Prop} : ∀ (m a b c : Nat), c < m → pI E m a c → pI E m c b → pI E m a b := by
  intro m
  induction m with
  | zero => intro a b c hc; exact absurd hc (Nat.not_lt_zero _)
  | succ m ih =>
    intro a b c hc h1 h2
    by_cases e : c = m
    · subst e
      have g1 : pI E c a c := by
        rcases h1 with h | h
        · exact h
        · exact h.1
      have g2 : pI E c c b := by
        rcases h2 with h | h
        · exact h
        · exact h.2
      exact Or.inr ⟨g1, g2⟩
    · have hc' : c < m := by omega
      rcases h1 with h1 | ⟨h1, h1'⟩
      · rcases h2 with h2 | ⟨h2, h2'⟩
        · exact Or.inl (ih a b c hc' h1 h2)
        · exact Or.inr ⟨ih a m c hc' h1 h2, h2'⟩
      · rcases h2 with h2 | ⟨h2, h2'⟩
        · exact Or.inr ⟨h1, ih m b c hc' h1' h2⟩
        · exact Or.inr ⟨h1, h2'⟩
theorem pI_of {n : Nat} {E : Nat → Nat → Prop} : ∀ (k a b : Nat), pt n E k a b → pI E n a b := by
  intro k
  induction k with
  | zero => intro a b h; exact pI_up 0 n (Nat.zero_le _) h
  | succ k ih =>
    intro a b h
    obtain ⟨c, h1, h2, h3⟩ := h
    exact pI_trans n a b c h1 (pI_up 0 n (Nat.zero_le _) h2) (ih c b h3)
theorem pI_pt {n : Nat} {E : Nat → Nat → Prop} : ∀ (m a b : Nat), m ≤ n → pI E m a b → ∃ k, pt n E k a b := by
  intro m
  induction m with
  | zero => intro a b _ h; exact ⟨0, h⟩
  | succ m ih =>
    intro a b hm h
    rcases h with h | ⟨h1, h2⟩
    · exact ih a b (by omega) h
    · obtain ⟨k1, g1⟩ := ih a m (by omega) h1
      obtain ⟨k2, g2⟩ := ih m b (by omega) h2
      exact ⟨k1 + k2 + 1, pt_app (by omega) g2 k1 a g1⟩
theorem pI_cy (n : Nat) (E : Nat → Nat → Prop) : (∃ t, t < n ∧ pI E n t t) ↔ cy n E := by
  constructor
  · intro ⟨t, h1, h2⟩
    obtain ⟨k, h3⟩ := pI_pt n t t (Nat.le_refl _) h2
    exact ⟨t, k, h1, h3⟩
  · intro ⟨t, k, h1, h2⟩
    exact ⟨t, h1, pI_of k t t h2⟩
