/-! The reference: taking, units, begin -/
theorem RM_sub {w n : Nat} {S S' : SS} {M : MM} {ex : Option Nat} {c : Nat} (h : RM w n S M ex c) (h1 : S'.1 = S.1) (h2 : ∀ l, l < w + 2 → (S'.2 l).Sublist (S.2 l)) : RM w n S' M ex c := by
  obtain ⟨⟨hg, a⟩, hp, ⟨l1, l2, l3⟩, hr⟩ := h
  refine ⟨⟨RG_keep hg rfl rfl rfl rfl rfl rfl rfl (fun k _ _ => by rw [h1]), ?_⟩, ?_, ⟨l1, l2, fun l hl => ⟨fun t ht => (l3 l hl).1 t ((h2 l hl).subset ht), (l3 l hl).2.sublist (h2 l hl)⟩⟩, ?_⟩
  · rw [h1]; exact a
  · unfold RP; rw [h1]; exact hp
  · unfold RH; rw [h1]; exact hr
theorem sq_sub (S : SS) (l0 : Nat) {L : List Nat} (h : L.Sublist (S.2 l0)) : ∀ l, ((sq S l0 L).2 l).Sublist (S.2 l) := fun l => by
  rw [sq_l]
  by_cases e : l = l0
  · rw [if_pos e, e]; exact h
  · rw [if_neg e]; exact List.Sublist.refl _
theorem endL_lt {L : List Nat} {last : Bool} {t : Nat} (h : endL L last = some t) : t ∈ L := by
  unfold endL at h
  cases last with
  | true => rw [if_pos rfl] at h; exact List.mem_of_getLast? h
  | false => rw [if_neg Bool.false_ne_true] at h; exact List.mem_of_head? h
section DR6
variable {l : Launch} {D : va_G} {cI cZ : ClassId} {a : Nat → Nat} {w n : Nat}
theorem vic_mod {k d : Nat} (hk : k < w) (hd : d < w) : (k + d) % w = s_vic w k d := by
  unfold s_vic
  by_cases h : k + d < w
  · rw [if_pos h, Nat.mod_eq_of_lt h]
  · rw [if_neg h, Nat.mod_eq_sub_mod (by omega), Nat.mod_eq_of_lt (by omega)]
theorem kR_take (hJ : IJ (sM D cI cZ a)) {S : SS} (M : MM) {ex : Option Nat} {c : Nat} (hM : RM w n S M ex c) (hF : WF w n S) (hc : c < 2 ^ 31) {k : Nat} (hk : k < w) : Ci l (sM D cI cZ a) yR_take wR_take rmR_take [.ref (a 0), .int (nI k)] M (fun r M' => r = oN (s_take w k S).1 ∧ RM w n (s_take w k S).2 M' ex c ∧ M' 10 = M 10) := by
  have hn := hF.le
  have hw := hF.w4
  have hlt : ∀ (v : Nat) (last : Bool) (t : Nat), v ≤ w → endL (S.2 (v + 1)) last = some t → t < 1000 := fun v last t hv h => by
    have := (((hF.ln (v + 1) (by omega)).2 t).mp (endL_lt h)).1
    omega
  have e0 : M 0 0 = nI w := hM.a.2.1
  refine oR_take hJ (fun G hl hR F => ?_)
  subst hl
  have fin : ∀ t d M1 S1, s_take w k S = (some t, S1) → t < 1000 → RM w n S1 M1 ex c → M1 10 = M 10 → M1 0 0 = nI w → wx G (sM D cI cZ a) 4 (Qxi G (sM D cI cZ a) (fun r M' => r = oN (s_take w k S).1 ∧ RM w n (s_take w k S).2 M' ex c ∧ M' 10 = M 10)) M1 23 [(0, .ref (a 0)), (1, .int (nI k)), (2, .int (nI t)), (3, .int (nI d))] [] := by
    intro t d M1 S1 hs ht hM1 h10 h00
    have h0 : (0 : Int32) ≤ nI t := nI_pos' (by omega)
    refine sR_take_23 F hR (K23 := fun _ _ _ _ => False) (fun _ _ _ _ q => q.elim) ⟨fun _ => ?_, fun _ => ⟨fun _ => ?_, fun q => absurd h0 q⟩⟩
    · rw [hs]; exact ⟨rfl, hM1, h10⟩
    · rw [hs]; exact ⟨rfl, hM1, h10⟩
  have lp : ∀ f d, d + f = w → s_take w k S = s_steal w k S f d → wx G (sM D cI cZ a) 4 (Qxi G (sM D cI cZ a) (fun r M' => r = oN (s_take w k S).1 ∧ RM w n (s_take w k S).2 M' ex c ∧ M' 10 = M 10)) M 23 [(0, .ref (a 0)), (1, .int (nI k)), (2, .int (-1)), (3, .int (nI d))] [] := by
    intro f
    induction f with
    | zero =>
      intro d hd hs
      have h4 : M 0 0 ≤ nI d := by rw [e0]; exact (nle (by omega) (by omega)).mpr (by omega)
      refine sR_take_23 F hR (K23 := fun _ _ _ _ => False) (fun _ _ _ _ q => q.elim) ⟨fun _ => ?_, fun q => absurd h4 q⟩
      rw [hs]
      exact ⟨rfl, hM, rfl⟩
    | succ f ih =>
      intro d hd hs
      have h4 : ¬ M 0 0 ≤ nI d := by rw [e0]; intro q; have := (nle (by omega) (by omega)).mp q; omega
      have hv := s_vic_lt hk (d := d) (by omega)
      have erem : (nI k + nI d) - (nI k + nI d) / (M 0 0) * (M 0 0) = nI (s_vic w k d) := by
        rw [e0, nI_add, pk_rem (by omega) (by omega) (by omega), vic_mod hk (by omega)]
      refine sR_take_23 F hR (K23 := fun M1 x1 x2 x3 => x1 = nI k ∧ ((x2 = -1 ∧ x3 = nI (d + 1) ∧ M1 = M ∧ S.2 (s_vic w k d + 1) = []) ∨ ∃ t d2 S1, x2 = nI t ∧ x3 = nI d2 ∧ t < 1000 ∧ s_take w k S = (some t, S1) ∧ RM w n S1 M1 ex c ∧ M1 10 = M 10 ∧ M1 0 0 = nI w)) ?_ ⟨fun q => absurd q h4, fun _ => ⟨fun q => absurd q (by decide), fun _ => ⟨by rw [e0]; exact nI_ne0 (by omega) (by omega), ?_⟩⟩⟩
      · rintro M1 x1 x2 x3 ⟨rfl, ⟨rfl, rfl, rfl, hh⟩ | ⟨t, d2, S1, rfl, rfl, g1, g2, g3, g4, g5⟩⟩
        · refine ih (d + 1) (by omega) ?_
          rw [hs]
          conv => lhs; unfold s_steal
          rw [hh]
        · exact fin t d2 M1 S1 g2 g1 g3 g4 g5
      · rw [erem]
        refine ⟨_, kR_endOf hJ M hM hF hc (k := s_vic w k d) (by omega) false 0 rfl, ?_⟩
        rintro r M7 ⟨rfl, rfl⟩
        have hb := fun t => hlt (s_vic w k d) false t (by omega)
        refine ⟨fun h5 => ?_, fun h5 => ?_⟩
        · rintro M10 rfl
          refine ⟨rfl, Or.inr ?_⟩
          have h6 := (oN_pos hb).mp h5
          cases hL : S.2 (s_vic w k d + 1) with
          | nil => rw [hL] at h6; exact absurd rfl h6
          | cons t L =>
            have ht := hb t (by rw [hL]; rfl)
            refine ⟨t, d + 1, sq (sp S 0 16 (S.1 0 16 + 1)) (s_vic w k d + 1) L, rfl, nI_1 d, ht, ?_, ?_, mp_ne _ _ _ _ (by decide), ?_⟩
            · rw [hs]
              unfold s_steal
              rw [hL]
            · have e24 : M7 0 24 = S.1 0 16 := RA.sc hM.a 16 (by decide) (by decide)
              rw [e24]
              refine RM_sub (RM_sc hM (i := 16) (by decide) (by decide) rfl _ (fun q => absurd q (by decide))) rfl (fun l' _ => sq_sub _ _ ?_ l')
              show L.Sublist (S.2 (s_vic w k d + 1))
              rw [hL]
              exact List.sublist_cons_self t L
            · rw [mp_at, if_neg (by omega)]; exact e0
        · rintro M12 rfl
          have e : mp M7 0 24 (M7 0 24) = M7 := by
            funext k' i
            rw [mp_at]
            by_cases q : k' = 0 ∧ i = 24
            · rw [if_pos q, q.1, q.2]
            · rw [if_neg q]
          rw [e]
          have h6 : endL (S.2 (s_vic w k d + 1)) false = none := Classical.byContradiction fun q => h5 ((oN_pos hb).mpr q)
          rw [h6]
          refine ⟨rfl, Or.inl ⟨rfl, nI_1 d, rfl, ?_⟩⟩
          cases hL : S.2 (s_vic w k d + 1) with
          | nil => rfl
          | cons t L => rw [hL] at h6; cases h6
  have hb1 := fun t => hlt k true t (by omega)
  refine sR_take_0 F hR (K23 := fun M1 x1 x2 x3 => M1 = M ∧ x1 = nI k ∧ x3 = nI 1 ∧ ((x2 = -1 ∧ s_take w k S = s_steal w k S (w - 1) 1) ∨ ∃ t S1, x2 = nI t ∧ t < 1000 ∧ s_take w k S = (some t, S1) ∧ RM w n S1 M ex c)) ?_ ⟨_, kR_endOf hJ M hM hF hc (k := k) (by omega) true 1 rfl, ?_⟩
  · rintro M1 x1 x2 x3 ⟨rfl, rfl, rfl, ⟨rfl, hh⟩ | ⟨t, S1, rfl, g1, g2, g3⟩⟩
    · exact lp (w - 1) 1 (by omega) hh
    · exact fin t 1 M1 S1 g2 g1 g3 rfl e0
  · rintro r M5 ⟨rfl, rfl⟩
    refine ⟨fun h5 => ⟨rfl, rfl, rfl, Or.inr ?_⟩, fun h5 => ?_⟩
    · have h6 := (oN_pos hb1).mp h5
      cases hg : (S.2 (k + 1)).getLast? with
      | none =>
        have : endL (S.2 (k + 1)) true = none := hg
        exact absurd this h6
      | some t =>
        have he : endL (S.2 (k + 1)) true = some t := hg
        rw [he]
        refine ⟨t, sq S (k + 1) (S.2 (k + 1)).dropLast, rfl, hb1 t he, ?_, RM_sub hM rfl (fun l' _ => sq_sub _ _ (List.dropLast_sublist _) l')⟩
        unfold s_take
        rw [hg]
    · have h6 : endL (S.2 (k + 1)) true = none := Classical.byContradiction fun q => h5 ((oN_pos hb1).mpr q)
      have hg : (S.2 (k + 1)).getLast? = none := h6
      have hb2 := fun t => hlt w false t (Nat.le_refl _)
      rw [e0]
      refine ⟨_, kR_endOf hJ M5 hM hF hc (k := w) (Nat.le_refl _) false 0 rfl, ?_⟩
      rintro r M12 ⟨rfl, rfl⟩
      refine ⟨rfl, rfl, rfl, ?_⟩
      cases hL : S.2 (w + 1) with
      | nil =>
        refine Or.inl ⟨rfl, ?_⟩
        unfold s_take
        rw [hg, hL]
      | cons t L =>
        refine Or.inr ⟨t, sq S (w + 1) L, rfl, hb2 t (by rw [hL]; rfl), ?_, RM_sub hM rfl (fun l' _ => sq_sub _ _ ?_ l')⟩
        · unfold s_take
          rw [hg, hL]
        · rw [hL]; exact List.sublist_cons_self t L
/-- t runs -/
def isR (w : Nat) (S : SS) (t : Nat) : Bool := (List.range w).any fun k => decide (S.1 38 t = nI (3 + k))
theorem isR_iff (w : Nat) (S : SS) (t : Nat) : isR w S t = true ↔ ∃ k, k < w ∧ S.1 38 t = nI (3 + k) := by
  simp [isR, List.any_eq_true]
def hu (w n : Nat) (S : SS) (ex : Option Nat) (s : Nat) : Nat := cN (fun t => isR w S t && decide (ex ≠ some t) && nb (S.1 5 t) s) n
/-- the units that are held: those of the running tasks -/
def HU (w n : Nat) (S : SS) (ex : Option Nat) : Prop := ∀ s, s < 4 → S.1 36 s = nI (hu w n S ex s)
def CP (S : SS) : Prop := ∀ s, s < 4 → ∃ u, 1 ≤ u ∧ u ≤ 4 ∧ S.1 35 s = nI u
theorem bit_eq : ∀ k, k < 16 → ∀ s, s < 4 → ((((nI k) >>> (nI s &&& 31)) &&& 1 = 1) ↔ nb (nI k) s = true) := by decide +kernel
theorem isR_M5 {S : SS} {M : MM} {c : Nat} (hw : w ≤ 4) (hM : RM w n S M none c) {t : Nat} (ht : t < 24) : M 5 t = 3 ↔ isR w S t = true := by
  rw [isR_iff]
  constructor
  · intro h
    obtain ⟨-, k, hk, -, h4⟩ := hM.p.run3 ht h
    exact ⟨k, hk, h4⟩
  · rintro ⟨k, hk, h4⟩
    exact ((hM.p.run hw ht (by simp) hk).mpr h4).1
theorem kR_held (hJ : IJ (sM D cI cZ a)) {S : SS} (M : MM) {c : Nat} (hM : RM w n S M none c) (hw : w ≤ 4) (hG : GR n S.1) (hH : HU w n S none) (x : Int32) : Ci l (sM D cI cZ a) yR_held wR_held rmR_held [.ref (a 0), .int x] M (fun r M' => M' = M ∧ r = if isT 4 x = true then S.1 36 (tn x) else 0) := by
  have hn := hG.le
  refine oR_held hJ (fun G hl hR F => ?_)
  subst hl
  have lp : ∀ s, s < 4 → x = nI s → ∀ m j, j + m = n → wx G (sM D cI cZ a) 4 (Qxi G (sM D cI cZ a) (fun r M' => M' = M ∧ r = if isT 4 x = true then S.1 36 (tn x) else 0)) M 4 [(0, .ref (a 0)), (1, .int x), (2, .int (nI (hu w j S none s))), (3, .int (nI j))] [] := by
    intro s hs hx m
    induction m with
    | zero =>
      intro j hj
      have hj : j = n := by omega
      subst hj
      have h4 : M 0 1 ≤ nI j := by rw [hM.g.1]; exact (nle (by omega) (by omega)).mpr (by omega)
      refine sR_held_4 F hR (K4 := fun _ _ _ _ => False) (fun _ _ _ _ q => q.elim) ⟨fun _ => ⟨rfl, ?_⟩, fun q => absurd h4 q⟩
      rw [hx, if_pos (isT_nI (by omega) hs), tnI (by omega)]
      exact (hH s hs).symm
    | succ m ih =>
      intro j hj
      have h4 : ¬ M 0 1 ≤ nI j := by rw [hM.g.1]; intro q; have := (nle (by omega) (by omega)).mp q; omega
      have hx0 : ¬ x < 0 := by rw [hx]; exact nneg (by omega)
      have hx4 : ¬ (4 : Int32) ≤ x := by
        rw [hx]
        intro q
        have := (nle (a := 4) (by omega) (by omega)).mp q
        omega
      obtain ⟨d, hd, ed⟩ := hG.need j (by omega)
      have e4 : M 4 j = nI d := by rw [hM.g.2.2.2.2.1]; exact ed
      have hbit : (((M 4 j) >>> (x &&& 31)) &&& 1 = 1) ↔ nb (S.1 5 j) s = true := by rw [e4, hx, ed]; exact bit_eq d hd s hs
      have hr := isR_M5 hw hM (t := j) (by omega)
      have hs1 : hu w (j + 1) S none s = hu w j S none s + if (isR w S j && decide ((none : Option Nat) ≠ some j) && nb (S.1 5 j) s) = true then 1 else 0 := rfl
      refine sR_held_4 F hR (K4 := fun M' x1 x2 x3 => M' = M ∧ x1 = x ∧ x2 = nI (hu w (j + 1) S none s) ∧ x3 = nI (j + 1)) ?_ ⟨fun q => absurd q h4, fun _ => ⟨fun q => absurd q hx0, fun _ => ⟨fun q => absurd q hx4, fun _ => ⟨j, rfl, by omega, fun h5 => ⟨rfl, rfl, ?_, nI_1 j⟩, fun h5 => ⟨fun h6 => ⟨rfl, rfl, ?_, nI_1 j⟩, fun h6 => ⟨rfl, rfl, ?_, nI_1 j⟩⟩⟩⟩⟩⟩
      · rintro M' x1 x2 x3 ⟨rfl, h1, rfl, rfl⟩
        rw [h1]
        exact ih (j + 1) (by omega)
      · rw [hs1, if_neg, Nat.add_zero]
        simp only [Bool.and_eq_true]
        exact fun q => h5 (hr.mpr q.1.1)
      · rw [hs1, if_neg, Nat.add_zero]
        simp only [Bool.and_eq_true]
        exact fun q => h6 (hbit.mpr q.2)
      · rw [hs1, if_pos, nI_1]
        simp only [Bool.and_eq_true]
        exact ⟨⟨hr.mp h5, by simp⟩, hbit.mp h6⟩
  refine sR_held_0 F hR (K4 := fun M' x1 x2 x3 => M' = M ∧ x1 = x ∧ x2 = nI 0 ∧ x3 = nI 0) ?_ ⟨rfl, rfl, rfl, rfl⟩
  rintro M' x1 x2 x3 ⟨rfl, h1, rfl, rfl⟩
  rw [h1]
  by_cases hT : isT 4 x = true
  · obtain ⟨s, hs, hx⟩ := isT_of (by omega) hT
    exact lp s hs hx n 0 (by omega)
  · have hno : x < 0 ∨ 4 ≤ x := by
      rcases Int32.lt_or_le x 0 with q | q
      · exact Or.inl q
      · rcases Int32.lt_or_le x 4 with z | z
        · exact absurd (by rw [isT, decide_eq_true_iff]; exact ⟨q, z⟩) hT
        · exact Or.inr z
    refine sR_held_4 F hR (K4 := fun _ _ _ _ => False) (fun _ _ _ _ q => q.elim) ⟨fun _ => ⟨rfl, by rw [if_neg hT]; rfl⟩, fun _ => ⟨fun _ => ⟨rfl, by rw [if_neg hT]; rfl⟩, fun h1 => ⟨fun _ => ⟨rfl, by rw [if_neg hT]; rfl⟩, fun h2 => absurd hno (fun q => q.elim h1 h2)⟩⟩⟩
theorem all_succ (p : Nat → Bool) (m : Nat) : (List.range (m + 1)).all p = ((List.range m).all p && p m) := by
  rw [List.range_succ, List.all_append]
  simp
theorem kR_unitsFor (hJ : IJ (sM D cI cZ a)) {S : SS} (M : MM) {c : Nat} (hM : RM w n S M none c) (hw : w ≤ 4) (hG : GR n S.1) (hH : HU w n S none) (hC : CP S) {t : Nat} (ht : t < n) : Ci l (sM D cI cZ a) yR_unitsFor wR_unitsFor rmR_unitsFor [.ref (a 0), .int (nI t)] M (fun r M' => M' = M ∧ r = if s_free S (S.1 5 t) = true then 1 else 0) := by
  have hn := hG.le
  obtain ⟨d, hd, ed⟩ := hG.need t ht
  have e4 : M 4 t = nI d := by rw [hM.g.2.2.2.2.1]; exact ed
  refine oR_unitsFor hJ (fun G hl hR F => ?_)
  subst hl
  have lp : ∀ m s, s + m = 4 → wx G (sM D cI cZ a) 5 (Qxi G (sM D cI cZ a) (fun r M' => M' = M ∧ r = if s_free S (S.1 5 t) = true then 1 else 0)) M 4 [(0, .ref (a 0)), (1, .int (nI t)), (2, .int (if ((List.range s).all fun s => !(nb (S.1 5 t) s) || decide (S.1 36 s < S.1 35 s)) = true then 1 else 0)), (3, .int (nI s))] [] := by
    intro m
    induction m with
    | zero =>
      intro s hs
      have hs : s = 4 := by omega
      subst hs
      have h4 : (4 : Int32) ≤ nI 4 := by decide
      refine sR_unitsFor_4 F hR (K4 := fun _ _ _ _ => False) (fun _ _ _ _ q => q.elim) ⟨fun _ => ⟨nar1 ?_, rfl, rfl⟩, fun q => absurd h4 q⟩
      by_cases h : ((List.range 4).all fun s => !(nb (S.1 5 t) s) || decide (S.1 36 s < S.1 35 s)) = true
      · rw [if_pos h]; exact Or.inl rfl
      · rw [if_neg h]; exact Or.inr rfl
    | succ m ih =>
      intro s hs
      have h4 : ¬ (4 : Int32) ≤ nI s := fun q => by
        have := (nle (a := 4) (by omega) (by omega)).mp q
        omega
      have hbit : (((M 4 t) >>> (nI s &&& 31)) &&& 1 = 1) ↔ nb (S.1 5 t) s = true := by rw [e4, ed]; exact bit_eq d hd s (by omega)
      have hall := all_succ (fun s => !(nb (S.1 5 t) s) || decide (S.1 36 s < S.1 35 s)) s
      refine sR_unitsFor_4 F hR (K4 := fun M' x1 x2 x3 => M' = M ∧ x1 = nI t ∧ x2 = (if ((List.range (s + 1)).all fun s => !(nb (S.1 5 t) s) || decide (S.1 36 s < S.1 35 s)) = true then 1 else 0) ∧ x3 = nI (s + 1)) ?_ ⟨fun q => absurd q h4, fun _ => ⟨t, rfl, by omega, fun h5 => ⟨fun h6 => ⟨rfl, rfl, ?_, nI_1 s⟩, fun h6 => ⟨rfl, rfl, ?_, nI_1 s⟩⟩, fun h5 => ⟨fun h6 => ⟨rfl, rfl, ?_, nI_1 s⟩, fun h6 => ⟨_, kR_held hJ M hM hw hG hH (nI s), ?_⟩⟩⟩⟩
      · rintro M' x1 x2 x3 ⟨rfl, rfl, rfl, rfl⟩
        exact ih (s + 1) (by omega)
      · cases h : (List.range s).all fun s => !(nb (S.1 5 t) s) || decide (S.1 36 s < S.1 35 s) with
        | true => rw [h] at h6; exact absurd h6 (by decide)
        | false => rw [hall, h]; rfl
      · cases h : (List.range s).all fun s => !(nb (S.1 5 t) s) || decide (S.1 36 s < S.1 35 s) with
        | true =>
          have : nb (S.1 5 t) s = false := by rw [← Bool.not_eq_true]; exact fun q => h5 (hbit.mpr q)
          rw [hall, h, this]; rfl
        | false => rw [h] at h6; exact absurd rfl h6
      · cases h : (List.range s).all fun s => !(nb (S.1 5 t) s) || decide (S.1 36 s < S.1 35 s) with
        | true => rw [h] at h6; exact absurd h6 (by decide)
        | false => rw [hall, h]; rfl
      · rintro r M13 ⟨rfl, rfl⟩
        obtain ⟨u, u1, u2, u3⟩ := hC s (by omega)
        have hh := hH s (by omega)
        have hle : hu w n S none s ≤ n := cN_le n
        have e14 : M13 14 s = nI (u - 1) := by rw [hM.a.2.2.2.2.1 s (by omega), u3]; exact pk_sub (b := 1) (by omega)
        have ht1 : nb (S.1 5 t) s = true := hbit.mp h5
        have hcmp : M13 14 s < S.1 36 s ↔ ¬ S.1 36 s < S.1 35 s := by
          rw [e14, hh, u3, nlt (by omega) (by omega), nlt (by omega) (by omega)]
          omega
        rw [if_pos (isT_nI (by omega) (by omega)), tnI (by omega)]
        cases h : (List.range s).all fun s => !(nb (S.1 5 t) s) || decide (S.1 36 s < S.1 35 s) with
        | false => rw [h] at h6; exact absurd rfl h6
        | true =>
          refine ⟨s, rfl, by omega, fun h7 => ⟨rfl, rfl, ?_, nI_1 s⟩, fun h7 => ⟨rfl, rfl, ?_, nI_1 s⟩⟩
          · have : decide (S.1 36 s < S.1 35 s) = false := by rw [decide_eq_false_iff_not]; exact hcmp.mp h7
            rw [hall, h, ht1, this]; rfl
          · have : decide (S.1 36 s < S.1 35 s) = true := by rw [decide_eq_true_iff]; exact Classical.byContradiction fun q => h7 (hcmp.mpr q)
            rw [hall, h, ht1, this]; rfl
  refine sR_unitsFor_0 F hR (K4 := fun M' x1 x2 x3 => M' = M ∧ x1 = nI t ∧ x2 = 1 ∧ x3 = nI 0) ?_ ⟨rfl, rfl, rfl, rfl⟩
  rintro M' x1 x2 x3 ⟨rfl, rfl, rfl, rfl⟩
  exact lp 4 0 rfl
end DR6
