/-! The class, seen as rows of numbers and lists: S.1 k is the cell k of the class (k < 43), S.2 l the line l (0 the parked, l + 1 the line l, w + 1 the shared one). -/
abbrev SS : Type := MM × (Nat → List Nat)
def sp (S : SS) (k i : Nat) (x : Int32) : SS := (mp S.1 k i x, S.2)
def sq (S : SS) (l : Nat) (L : List Nat) : SS := (S.1, va_up S.2 l L)
theorem sp_r (S : SS) (k i : Nat) (x : Int32) (k' i' : Nat) : (sp S k i x).1 k' i' = if k' = k ∧ i' = i then x else S.1 k' i' := mp_at _ _ _ _ _ _
theorem sp_l (S : SS) (k i : Nat) (x : Int32) : (sp S k i x).2 = S.2 := rfl
theorem sq_r (S : SS) (l : Nat) (L : List Nat) : (sq S l L).1 = S.1 := rfl
theorem sq_l (S : SS) (l : Nat) (L : List Nat) (l' : Nat) : (sq S l L).2 l' = if l' = l then L else S.2 l' := rfl
theorem mp_ne (M : MM) (k i : Nat) (x : Int32) {k' : Nat} (h : k' ≠ k) : mp M k i x k' = M k' := by
  funext j
  rw [mp_at, if_neg (fun q => h q.1)]
/-- a line in the class's memory -/
def lnm (M : MM) (l : Nat) (L : List Nat) : Prop := M (43 + 2 * l) 1 = nI L.length ∧ ∀ j t, L[j]? = some t → M (43 + 2 * l + 1) j = nI t
/-- only the line l has changed -/
def chl (M M' : MM) (l : Nat) (L : List Nat) : Prop := lnm M' l L ∧ ∀ k, k ≠ 43 + 2 * l → k ≠ 43 + 2 * l + 1 → M' k = M k
def RX (w : Nat) (S : SS) (M : MM) : Prop := (∀ k, k < 43 → M k = S.1 k) ∧ ∀ l, l < w + 2 → lnm M l (S.2 l)
theorem lnm_eq {M M' : MM} {l : Nat} {L : List Nat} (h1 : M' (43 + 2 * l) = M (43 + 2 * l)) (h2 : M' (43 + 2 * l + 1) = M (43 + 2 * l + 1)) (h : lnm M l L) : lnm M' l L := by
  refine ⟨by rw [h1]; exact h.1, fun j t q => by rw [h2]; exact h.2 j t q⟩
theorem RX.sp {w : Nat} {S : SS} {M : MM} (h : RX w S M) {k : Nat} (hk : k < 43) (i : Nat) (x : Int32) : RX w (sp S k i x) (mp M k i x) := by
  refine ⟨fun k' hk' => ?_, fun l hl => ?_⟩
  · show mp M k i x k' = mp S.1 k i x k'
    funext j
    rw [mp_at, mp_at, h.1 k' hk']
  · exact lnm_eq (mp_ne _ _ _ _ (by omega)) (mp_ne _ _ _ _ (by omega)) (h.2 l hl)
theorem RX.sq {w : Nat} {S : SS} {M M' : MM} (h : RX w S M) {l : Nat} {L : List Nat} (hc : chl M M' l L) : RX w (sq S l L) M' := by
  refine ⟨fun k hk => ?_, fun l' hl' => ?_⟩
  · rw [hc.2 k (by omega) (by omega)]
    exact h.1 k hk
  · rw [sq_l]
    by_cases e : l' = l
    · subst e
      rw [if_pos rfl]
      exact hc.1
    · rw [if_neg e]
      exact lnm_eq (hc.2 _ (by omega) (by omega)) (hc.2 _ (by omega) (by omega)) (h.2 l' hl')
theorem RX.at {w : Nat} {S : SS} {M : MM} (h : RX w S M) {k : Nat} (hk : k < 43) (i : Nat) : M k i = S.1 k i := by rw [h.1 k hk]
theorem b31 {n : Nat} (h : n < 1000) : n < 2 ^ 31 := by omega
theorem nle {a b : Nat} (ha : a < 1000) (hb : b < 1000) : nI a ≤ nI b ↔ a ≤ b := nI_leI (b31 ha) (b31 hb)
theorem nlt {a b : Nat} (ha : a < 1000) (hb : b < 1000) : nI a < nI b ↔ a < b := nI_ltI (b31 ha) (b31 hb)
theorem neq {a b : Nat} (ha : a < 1000) (hb : b < 1000) : nI a = nI b ↔ a = b := nI_eq (b31 ha) (b31 hb)
theorem nneg {a : Nat} (ha : a < 1000) : ¬ nI a < 0 := nI_pos (b31 ha)
theorem nm1 {a : Nat} (ha : a < 1000) : ¬ nI a = -1 := fun h => nneg ha (by rw [h]; decide)
def tn (x : Int32) : Nat := x.toNatClampNeg
theorem tnI {a : Nat} (ha : a < 1000) : tn (nI a) = a := nI_clamp (b31 ha)
theorem lt_tn {x : Int32} {n : Nat} (hn : n < 1000) (h0 : ¬ x < 0) (h : x < nI n) : ∃ j, j < n ∧ x = nI j := by
  obtain ⟨j, hj, rfl⟩ := nI_of h0
  exact ⟨j, (nI_ltI hj (b31 hn)).mp h, rfl⟩
/-- bit s of a set of needs, as the class looks at it -/
def nb (nd : Int32) (s : Nat) : Bool := decide (¬ (nd &&& (1 <<< (nI s &&& 31))) = 0)
def s_free (S : SS) (nd : Int32) : Bool := (List.range 4).all fun s => !(nb nd s) || decide (S.1 36 s < S.1 35 s)
def s_hold (S : SS) (nd : Int32) : Nat → SS
  | 0 => S
  | s + 1 => if nb nd s = true then sp (s_hold S nd s) 36 s (S.1 36 s + 1) else s_hold S nd s
def s_give (S : SS) (nd : Int32) : Nat → SS
  | 0 => S
  | s + 1 => if nb nd s = true then sp (s_give S nd s) 36 s (S.1 36 s - 1) else s_give S nd s
theorem s_hold_at (S : SS) (nd : Int32) : ∀ m k i, (s_hold S nd m).1 k i = if k = 36 ∧ i < m ∧ nb nd i = true then S.1 36 i + 1 else S.1 k i := by
  intro m
  induction m with
  | zero => intro k i; rw [if_neg (by omega)]; rfl
  | succ m ih =>
    intro k i
    show (if nb nd m = true then _ else _ : SS).1 k i = _
    by_cases hb : nb nd m = true
    · rw [if_pos hb, sp_r, ih]
      by_cases e : k = 36 ∧ i = m
      · obtain ⟨rfl, rfl⟩ := e
        rw [if_pos ⟨rfl, rfl⟩, if_pos ⟨rfl, by omega, hb⟩]
      · rw [if_neg e]
        by_cases e2 : k = 36 ∧ i < m ∧ nb nd i = true
        · rw [if_pos e2, if_pos ⟨e2.1, by omega, e2.2.2⟩]
        · rw [if_neg e2, if_neg (fun q => e2 ⟨q.1, by have : i ≠ m := fun r => e ⟨q.1, r⟩; omega, q.2.2⟩)]
    · rw [if_neg hb, ih]
      by_cases e2 : k = 36 ∧ i < m ∧ nb nd i = true
      · rw [if_pos e2, if_pos ⟨e2.1, by omega, e2.2.2⟩]
      · rw [if_neg e2, if_neg (fun q => e2 ⟨q.1, by have : i ≠ m := fun r => hb (r ▸ q.2.2); omega, q.2.2⟩)]
theorem s_give_at (S : SS) (nd : Int32) : ∀ m k i, (s_give S nd m).1 k i = if k = 36 ∧ i < m ∧ nb nd i = true then S.1 36 i - 1 else S.1 k i := by
  intro m
  induction m with
  | zero => intro k i; rw [if_neg (by omega)]; rfl
  | succ m ih =>
    intro k i
    show (if nb nd m = true then _ else _ : SS).1 k i = _
    by_cases hb : nb nd m = true
    · rw [if_pos hb, sp_r, ih]
      by_cases e : k = 36 ∧ i = m
      · obtain ⟨rfl, rfl⟩ := e
        rw [if_pos ⟨rfl, rfl⟩, if_pos ⟨rfl, by omega, hb⟩]
      · rw [if_neg e]
        by_cases e2 : k = 36 ∧ i < m ∧ nb nd i = true
        · rw [if_pos e2, if_pos ⟨e2.1, by omega, e2.2.2⟩]
        · rw [if_neg e2, if_neg (fun q => e2 ⟨q.1, by have : i ≠ m := fun r => e ⟨q.1, r⟩; omega, q.2.2⟩)]
    · rw [if_neg hb, ih]
      by_cases e2 : k = 36 ∧ i < m ∧ nb nd i = true
      · rw [if_pos e2, if_pos ⟨e2.1, by omega, e2.2.2⟩]
      · rw [if_neg e2, if_neg (fun q => e2 ⟨q.1, by have : i ≠ m := fun r => hb (r ▸ q.2.2); omega, q.2.2⟩)]
theorem s_hold_l (S : SS) (nd : Int32) : ∀ m, (s_hold S nd m).2 = S.2 := by
  intro m
  induction m with
  | zero => rfl
  | succ m ih =>
    show (if nb nd m = true then _ else _ : SS).2 = _
    by_cases hb : nb nd m = true
    · rw [if_pos hb, sp_l, ih]
    · rw [if_neg hb, ih]
theorem s_give_l (S : SS) (nd : Int32) : ∀ m, (s_give S nd m).2 = S.2 := by
  intro m
  induction m with
  | zero => rfl
  | succ m ih =>
    show (if nb nd m = true then _ else _ : SS).2 = _
    by_cases hb : nb nd m = true
    · rw [if_pos hb, sp_l, ih]
    · rw [if_neg hb, ih]
