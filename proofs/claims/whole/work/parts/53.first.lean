/-! The start: what a new object and a new reference hold -/
theorem arrV_congr {c : ClassId} {N : Nat} {f g : Nat → Value} (h : ∀ j, j < N → f j = g j) : arrV c N f = arrV c N g := by
  unfold arrV
  rw [show (fun j : Fin N => f j.val) = (fun j => g j.val) from funext fun j => h j.val j.isLt]
def M0 (w : Nat) : MM := fun k i => if k = 0 then (if i = 0 then nI w else if i = 12 then -1 else 0) else if k = 35 then (if i < 4 then 1 else 0) else if k = 37 then (if i < w then -1 else 0) else 0
def S0 (w : Nat) : SS := (M0 w, fun _ => [])
theorem M0_0 (w k i : Nat) (h0 : k ≠ 0) (h1 : k ≠ 35) (h2 : k ≠ 37) : M0 w k i = 0 := by
  unfold M0
  rw [if_neg h0, if_neg h1, if_neg h2]
theorem M0_f (w k : Nat) (h0 : k ≠ 0) (h1 : k ≠ 35) (h2 : k ≠ 37) : M0 w k = fun _ => 0 := funext fun i => M0_0 w k i h0 h1 h2
theorem RX_S0 (w : Nat) : RX w (S0 w) (M0 w) := ⟨fun _ _ => rfl, fun l _ => ⟨(M0_0 w _ 1 (by omega) (by omega) (by omega)).trans nI_0.symm, fun j t h => by cases h⟩⟩
theorem IA_S0 {w : Nat} (hw : w ≤ 4) : IA w 0 (S0 w) := by
  have z : ∀ k i, k ≠ 0 → k ≠ 35 → k ≠ 37 → (S0 w).1 k i = 0 := fun k i => M0_0 w k i
  refine ⟨⟨⟨hw, rfl, ?_, ?_⟩, fun t ht => absurd ht (by omega), fun k hk => Or.inl ?_, fun t _ => ⟨z 38 t (by decide) (by decide) (by decide), z 39 t (by decide) (by decide) (by decide), z 40 t (by decide) (by decide) (by decide)⟩⟩, ⟨fun t ht => absurd ht (by omega), fun s hs => ?_, fun s hs => ⟨1, by omega, by omega, ?_⟩, Or.inl rfl, ⟨0, 0, by omega, by omega, rfl, rfl⟩⟩, fun _ t ht => absurd ht (by omega), ⟨fun _ => rfl, fun _ => rfl⟩, fun q => absurd rfl q⟩
  · exact ⟨⟨by omega, (z 1 0 (by decide) (by decide) (by decide)).trans nI_0.symm⟩, fun t ht => absurd ht (by omega), fun t ht => absurd ht (by omega), fun t ht => absurd ht (by omega), fun t ht => absurd ht (by omega), fun t ht => absurd ht (by omega), fun t _ => ⟨z 6 t (by decide) (by decide) (by decide), z 7 t (by decide) (by decide) (by decide), z 8 t (by decide) (by decide) (by decide)⟩, fun t ht => absurd ht (by omega), fun t ht => absurd ht (by omega)⟩
  · exact fun l _ => ⟨List.nodup_nil, fun t => ⟨fun h => (by cases h), fun h => absurd h.1 (by omega)⟩⟩
  · show M0 w 37 k = -1
    unfold M0
    rw [if_neg (by decide), if_neg (by decide), if_pos rfl, if_pos hk]
  · exact (z 36 s (by decide) (by decide) (by decide)).trans nI_0.symm
  · show M0 w 35 s = nI 1
    unfold M0
    rw [if_neg (by decide), if_pos rfl, if_pos hs]
    rfl
theorem RM_S0 {w : Nat} (hw : w ≤ 4) : RM w 0 (S0 w) (Mr0 w) none 0 := by
  have z : ∀ k i, k ≠ 0 → k ≠ 35 → k ≠ 37 → (S0 w).1 k i = 0 := fun k i => M0_0 w k i
  have y : ∀ k i, k ≠ 0 → Mr0 w k i = 0 := fun k i h => if_neg h
  refine ⟨⟨⟨rfl, ?_, ?_, ?_, ?_, ?_, ?_⟩, rfl, ?_, ?_, ?_, rfl, rfl, rfl, rfl, rfl, rfl, rfl, ⟨fun _ => rfl, fun _ => rfl⟩⟩, fun t _ => ⟨fun _ => Or.inl ⟨y 5 t (by decide), z 38 t (by decide) (by decide) (by decide)⟩, fun h => by cases h⟩, ⟨rfl, fun t _ => ⟨0, Nat.le_refl _, (y 7 t (by decide)).trans nI_0.symm⟩, fun l _ => ⟨fun t h => (by cases h), List.Pairwise.nil⟩⟩, fun _ t ht => absurd ht (by omega)⟩
  · exact funext fun i => (y 1 i (by decide)).trans (z 2 i (by decide) (by decide) (by decide)).symm
  · exact funext fun i => (y 2 i (by decide)).trans (z 3 i (by decide) (by decide) (by decide)).symm
  · exact funext fun i => (y 3 i (by decide)).trans (z 4 i (by decide) (by decide) (by decide)).symm
  · exact funext fun i => (y 4 i (by decide)).trans (z 5 i (by decide) (by decide) (by decide)).symm
  · exact funext fun i => (y 11 i (by decide)).trans (z 6 i (by decide) (by decide) (by decide)).symm
  · exact fun t k ht hk => (y 12 _ (by decide)).trans (z (10 + t) k (by omega) (by omega) (by omega)).symm
  · exact fun t _ => (y 8 t (by decide)).trans (z 39 t (by decide) (by decide) (by decide)).symm
  · exact fun t _ => (y 9 t (by decide)).trans (z 40 t (by decide) (by decide) (by decide)).symm
  · intro s hs
    rw [y 14 s (by decide)]
    show 0 = M0 w 35 s - 1
    unfold M0
    rw [if_neg (by decide), if_pos rfl, if_pos hs]
    rfl
/-- where a cell of the class's system lies among the cells in the order in which they were made -/
def px (w k : Nat) : Nat := if k < 6 then k else if k < 9 then k + 25 else if k = 9 then 6 else if k < 34 then k - 3 else if k < 37 then k else if k < 42 then k + 5 + 2 * w else if k = 42 then 37 else if k < 45 then k - 3 + 2 * w else k - 7
theorem px_lt {w k : Nat} (h : k < 47 + 2 * w) : px w k < 47 + 2 * w := by
  unfold px
  (repeat' split) <;> omega
theorem px_inj {w i j : Nat} (hi : i < 47 + 2 * w) (hj : j < 47 + 2 * w) (h : px w i = px w j) : i = j := by
  unfold px at h
  (repeat' split at h) <;> omega
theorem at_q {D : va_G} {cA : ClassId} {q N : Nat} {f g : Nat → Option Nat} {H : Heap} (h : va_at D vwC (q, .inl (cA, N, .inr (.inr (.inr (.inr f))))) H) (e : ∀ j, j < N → f j = g j) : va_at D vwC (q, .inl (cA, N, .inr (.inr (.inr (.inr g))))) H := by
  show H[q]? = some (vp_cell cA (N, .inr (.inr (.inr (.inr g)))))
  have h : H[q]? = some (vp_cell cA (N, .inr (.inr (.inr (.inr f))))) := h
  rw [h, vp_cell_q, vp_cell_q, arrV_congr (fun j hj => by rw [e j hj])]
theorem px_a {w : Nat} (t : Nat) (ht : t < 24) : px w (10 + t) = 7 + t := by
  unfold px
  rw [if_neg (by omega), if_neg (by omega), if_neg (by omega), if_pos (by omega)]
  omega
theorem px_l {w : Nat} (l : Nat) : px w (43 + 2 * (l + 1)) = 38 + 2 * l := by
  unfold px
  rw [if_neg (by omega), if_neg (by omega), if_neg (by omega), if_neg (by omega), if_neg (by omega), if_neg (by omega), if_neg (by omega), if_neg (by omega)]
  omega
theorem px_t {w : Nat} (l : Nat) : px w (43 + 2 * (l + 1) + 1) = 38 + 2 * l + 1 := by
  unfold px
  rw [if_neg (by omega), if_neg (by omega), if_neg (by omega), if_neg (by omega), if_neg (by omega), if_neg (by omega), if_neg (by omega), if_neg (by omega)]
  omega
/-- a new object's cells are the class's system -/
theorem EP_wl {D : va_G} {cI cZ cL cE : ClassId} {w q0 : Nat} {V : UU} (h : EP cI cZ cL cE w q0 V) {H : Heap} (hP : va_P D vwC (wu V) H) : va_P D vwC (wl (sX D cI cZ cL cE (fun k => V.2.1 (px w k)) w) (M0 w)) H := by
  obtain ⟨e1, e2, c0, ⟨g1, g2, g3, g4, g5, ⟨r, g6, g6'⟩, g7, g31, g32, g33, g34, g35, g36⟩, ⟨⟨f, l1, l2⟩, l3⟩, p1, p2, r1, r2, r3, r4, r5⟩ := h
  intro k q hk
  obtain ⟨hk1, rfl⟩ := wl_of hk
  have hk1 : k < 43 + 2 * (w + 2) := hk1
  have hV : va_at D vwC (V.2.1 (px w k), V.2.2 (px w k)) H := hP (px w k) _ (wu_at (by rw [e1]; exact px_lt (by omega)))
  have z := M0_f w
  show va_at D vwC (V.2.1 (px w k), cfX cI cZ cL cE (fun k => V.2.1 (px w k)) w k (M0 w k)) H
  by_cases h10 : k < 10
  · have hh : k = 0 ∨ k = 1 ∨ k = 2 ∨ k = 3 ∨ k = 4 ∨ k = 5 ∨ k = 6 ∨ k = 7 ∨ k = 8 ∨ k = 9 := by omega
    rcases hh with rfl | rfl | rfl | rfl | rfl | rfl | rfl | rfl | rfl | rfl
    · rw [show V.2.2 (px w 0) = V.2.2 0 from rfl, c0] at hV; exact hV
    · rw [show V.2.2 (px w 1) = V.2.2 1 from rfl, g1] at hV; exact hV
    · rw [show V.2.2 (px w 2) = V.2.2 2 from rfl, g2] at hV; exact hV
    · rw [show V.2.2 (px w 3) = V.2.2 3 from rfl, g3] at hV; exact hV
    · rw [show V.2.2 (px w 4) = V.2.2 4 from rfl, g4] at hV; exact hV
    · rw [show V.2.2 (px w 5) = V.2.2 5 from rfl, g5] at hV; exact hV
    · rw [show V.2.2 (px w 6) = V.2.2 31 from rfl, g31] at hV; exact hV
    · rw [show V.2.2 (px w 7) = V.2.2 32 from rfl, g32] at hV; exact hV
    · rw [show V.2.2 (px w 8) = V.2.2 33 from rfl, g33] at hV; exact hV
    · rw [show V.2.2 (px w 9) = V.2.2 6 from rfl, g6] at hV
      exact at_q hV (fun j hj => by dsimp only; rw [if_pos hj, px_a j hj, g6' j hj])
  · by_cases h34 : k < 34
    · obtain ⟨t, rfl⟩ : ∃ t, k = 10 + t := ⟨k - 10, by omega⟩
      rw [px_a t (by omega), g7 t (by omega)] at hV
      rw [px_a t (by omega), z (10 + t) (by omega) (by omega) (by omega)]
      unfold cfX
      rw [if_neg h10, if_pos h34]
      exact hV
    · by_cases h43 : k < 43
      · have hh : k = 34 ∨ k = 35 ∨ k = 36 ∨ k = 37 ∨ k = 38 ∨ k = 39 ∨ k = 40 ∨ k = 41 ∨ k = 42 := by omega
        rcases hh with rfl | rfl | rfl | rfl | rfl | rfl | rfl | rfl | rfl
        · rw [show V.2.2 (px w 34) = V.2.2 34 from rfl, g34] at hV; exact hV
        · rw [show V.2.2 (px w 35) = V.2.2 35 from rfl, g35] at hV; exact hV
        · rw [show V.2.2 (px w 36) = V.2.2 36 from rfl, g36] at hV; exact hV
        · rw [show V.2.2 (px w 37) = V.2.2 (42 + 2 * w) from rfl, r1] at hV; exact hV
        · rw [show V.2.2 (px w 38) = V.2.2 (43 + 2 * w) from rfl, r2] at hV; exact hV
        · rw [show V.2.2 (px w 39) = V.2.2 (44 + 2 * w) from rfl, r3] at hV; exact hV
        · rw [show V.2.2 (px w 40) = V.2.2 (45 + 2 * w) from rfl, r4] at hV; exact hV
        · rw [show V.2.2 (px w 41) = V.2.2 (46 + 2 * w) from rfl, r5] at hV; exact hV
        · rw [show V.2.2 (px w 42) = V.2.2 37 from rfl, l1] at hV
          exact at_q hV (fun j hj => by dsimp only; rw [l2 j hj, px_l j])
      · by_cases h45 : k < 45
        · have hh : k = 43 ∨ k = 44 := by omega
          rcases hh with rfl | rfl
          · rw [show V.2.2 (px w 43) = V.2.2 (40 + 2 * w) from rfl, p1] at hV; exact hV
          · rw [show V.2.2 (px w 44) = V.2.2 (41 + 2 * w) from rfl, p2] at hV; exact hV
        · by_cases hp : (k - 43) % 2 = 0
          · obtain ⟨l, rfl⟩ : ∃ l, k = 43 + 2 * (l + 1) := ⟨(k - 45) / 2, by omega⟩
            have hc := x_cL (D := D) (cI := cI) (cZ := cZ) (cL := cL) (cE := cE) (a := fun k => V.2.1 (px w k)) (w := w) (l + 1) (M0 w (43 + 2 * (l + 1)))
            have hc : cfX cI cZ cL cE (fun k => V.2.1 (px w k)) w (43 + 2 * (l + 1)) (M0 w (43 + 2 * (l + 1))) = _ := hc
            rw [hc, M0_0 w _ 1 (by omega) (by omega) (by omega)]
            rw [px_t l, px_l l]
            rw [px_l l, (l3 l (by omega)).1] at hV
            exact hV
          · obtain ⟨l, rfl⟩ : ∃ l, k = 43 + 2 * (l + 1) + 1 := ⟨(k - 46) / 2, by omega⟩
            have hc := x_cT (D := D) (cI := cI) (cZ := cZ) (cL := cL) (cE := cE) (a := fun k => V.2.1 (px w k)) (w := w) (l + 1) (M0 w (43 + 2 * (l + 1) + 1))
            have hc : cfX cI cZ cL cE (fun k => V.2.1 (px w k)) w (43 + 2 * (l + 1) + 1) (M0 w (43 + 2 * (l + 1) + 1)) = _ := hc
            rw [hc, z _ (by omega) (by omega) (by omega), px_t l]
            rw [px_t l, (l3 l (by omega)).2] at hV
            exact hV
theorem EP_IJ {D : va_G} {cI cZ cL cE : ClassId} {w q0 : Nat} {V : UU} (h : EP cI cZ cL cE w q0 V) {A : Nat → Prop} (hD : va_D A (wu V)) : IJ (sX D cI cZ cL cE (fun k => V.2.1 (px w k)) w) ∧ ∀ k, k < 43 + 2 * (w + 2) → A (V.2.1 (px w k)) := by
  refine ⟨fun i j hi hj e => ?_, fun k hk => ?_⟩
  · have hi : i < 43 + 2 * (w + 2) := hi
    have hj : j < 43 + 2 * (w + 2) := hj
    exact px_inj (by omega) (by omega) (hD.1 _ _ _ _ (wu_at (U := V) (k := px w i) (by rw [h.1]; exact px_lt (by omega))) (wu_at (U := V) (k := px w j) (by rw [h.1]; exact px_lt (by omega))) e)
  · exact hD.2 _ _ (wu_at (U := V) (k := px w k) (by rw [h.1]; exact px_lt (by omega)))
