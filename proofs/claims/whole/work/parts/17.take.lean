/-! Taking, running, parking; a body comes back -/
def s_vic (w wk d : Nat) : Nat := if wk + d < w then wk + d else wk + d - w
def s_steal (w wk : Nat) (S : SS) : Nat → Nat → Option Nat × SS
  | 0, _ => (none, S)
  | f + 1, d => match S.2 (s_vic w wk d + 1) with
    | [] => s_steal w wk S f (d + 1)
    | t :: L => (some t, sq (sp S 0 16 (S.1 0 16 + 1)) (s_vic w wk d + 1) L)
def s_take (w wk : Nat) (S : SS) : Option Nat × SS :=
  match (S.2 (wk + 1)).getLast? with
  | some t => (some t, sq S (wk + 1) (S.2 (wk + 1)).dropLast)
  | none => match S.2 (w + 1) with
    | t :: L => (some t, sq S (w + 1) L)
    | [] => s_steal w wk S (w - 1) 1
def s_run (S : SS) (t wk : Nat) : SS := sp (sp (sp (s_hold S (S.1 5 t) 4) 38 t (nI (3 + wk))) 37 wk (nI t)) 40 t (S.1 40 t + 1)
def s_park (S : SS) (t : Nat) : SS := sq (sp S 38 t 1) 0 (S.2 0 ++ [t])
def oN (o : Option Nat) : Int32 := match o with
  | some t => nI t
  | none => -1
/-- t has been taken out of a line; nothing else has changed but the count of steals -/
def tk (w : Nat) (S : SS) (t : Nat) (S1 : SS) : Prop := ∃ l L, 1 ≤ l ∧ l < w + 2 ∧ t ∈ S.2 l ∧ ((S.2 l).Nodup → L.Nodup ∧ ∀ x, x ∈ L ↔ x ∈ S.2 l ∧ x ≠ t) ∧ S1.2 = va_up S.2 l L ∧ ∀ k i, ¬ (k = 0 ∧ i = 16) → S1.1 k i = S.1 k i
theorem tk_head {w : Nat} {S S1 : SS} {l t : Nat} {L : List Nat} (h1 : 1 ≤ l) (h2 : l < w + 2) (h : S.2 l = t :: L) (h3 : S1.2 = va_up S.2 l L) (h4 : ∀ k i, ¬ (k = 0 ∧ i = 16) → S1.1 k i = S.1 k i) : tk w S t S1 := by
  refine ⟨l, L, h1, h2, by rw [h]; exact List.mem_cons_self .., fun hd => ?_, h3, h4⟩
  rw [h] at hd ⊢
  have hd := List.nodup_cons.mp hd
  refine ⟨hd.2, fun x => ⟨fun q => ⟨List.mem_cons_of_mem _ q, fun e => hd.1 (e ▸ q)⟩, fun q => ?_⟩⟩
  rcases List.mem_cons.mp q.1 with e | e
  · exact absurd e q.2
  · exact e
theorem tk_last {w : Nat} {S S1 : SS} {l t : Nat} (h1 : 1 ≤ l) (h2 : l < w + 2) (h : (S.2 l).getLast? = some t) (h3 : S1.2 = va_up S.2 l (S.2 l).dropLast) (h4 : ∀ k i, ¬ (k = 0 ∧ i = 16) → S1.1 k i = S.1 k i) : tk w S t S1 := by
  obtain ⟨ys, hy⟩ := List.getLast?_eq_some_iff.mp h
  refine ⟨l, (S.2 l).dropLast, h1, h2, by rw [hy]; simp, fun hd => ?_, h3, h4⟩
  rw [hy] at hd ⊢
  rw [List.dropLast_concat]
  have hd := List.nodup_append.mp hd
  refine ⟨hd.1, fun x => ⟨fun q => ⟨List.mem_append_left _ q, fun e => hd.2.2 x q t (by simp) e⟩, fun q => ?_⟩⟩
  rcases List.mem_append.mp q.1 with e | e
  · exact e
  · exact absurd (List.mem_singleton.mp e) q.2
theorem s_vic_lt {w wk d : Nat} (hk : wk < w) (hd : d < w) : s_vic w wk d < w := by
  unfold s_vic
  by_cases h : wk + d < w
  · rw [if_pos h]; exact h
  · rw [if_neg h]; omega
theorem steal_tk {w wk : Nat} (hk : wk < w) (S : SS) : ∀ f d, d + f = w → (s_steal w wk S f d = (none, S)) ∨ ∃ t S1, s_steal w wk S f d = (some t, S1) ∧ tk w S t S1 := by
  intro f
  induction f with
  | zero => intro d _; exact Or.inl rfl
  | succ f ih =>
    intro d hd
    unfold s_steal
    have hv := s_vic_lt hk (d := d) (by omega)
    cases h : S.2 (s_vic w wk d + 1) with
    | nil => exact ih (d + 1) (by omega)
    | cons t L => exact Or.inr ⟨t, _, rfl, tk_head (l := s_vic w wk d + 1) (by omega) (by omega) h rfl (fun k i q => by rw [sq_r, sp_r, if_neg q])⟩
theorem take_tk {w wk : Nat} (hk : wk < w) (S : SS) : (s_take w wk S = (none, S)) ∨ ∃ t S1, s_take w wk S = (some t, S1) ∧ tk w S t S1 := by
  unfold s_take
  cases h : (S.2 (wk + 1)).getLast? with
  | some t => exact Or.inr ⟨t, _, rfl, tk_last (l := wk + 1) (by omega) (by omega) h rfl (fun _ _ _ => rfl)⟩
  | none =>
    cases h2 : S.2 (w + 1) with
    | cons t L => exact Or.inr ⟨t, _, rfl, tk_head (l := w + 1) (by omega) (by omega) h2 rfl (fun _ _ _ => rfl)⟩
    | nil => exact steal_tk hk S (w - 1) 1 (by omega)
theorem LN_tk {w n : Nat} (hw : w ≤ 4) {S S1 S2 : SS} {t : Nat} (h : LN w n S) (ht : tk w S t S1) (h2 : S2.2 = S1.2) (h3 : ∀ i, i ≠ t → S2.1 38 i = S1.1 38 i) (h4 : ∀ l, l < w + 2 → S2.1 38 t ≠ cd w l) : LN w n S2 := by
  obtain ⟨l0, L, h5, h6, h7, h8, h9, h10⟩ := ht
  have h8 := h8 (h l0 h6).1
  have hp : S.1 38 t = cd w l0 := (((h l0 h6).2 t).mp h7).2
  intro l hl
  rw [h2, h9]
  have hL := h l hl
  unfold va_up
  by_cases e : l = l0
  · subst e
    rw [if_pos rfl]
    refine ⟨h8.1, fun x => ?_⟩
    rw [h8.2, hL.2]
    by_cases ex : x = t
    · subst ex
      exact ⟨fun q => absurd rfl q.2, fun q => absurd q.2 (h4 l hl)⟩
    · rw [h3 x ex, h10 38 x (by omega)]
      exact ⟨fun q => q.1, fun q => ⟨q, ex⟩⟩
  · rw [if_neg e]
    refine ⟨hL.1, fun x => ?_⟩
    rw [hL.2]
    by_cases ex : x = t
    · subst ex
      exact ⟨fun q => absurd (cd_inj hw hl h6 (q.2.symm.trans hp)) e, fun q => absurd q.2 (h4 l hl)⟩
    · rw [h3 x ex, h10 38 x (by omega)]
theorem LN_park {w n : Nat} (hw : w ≤ 4) {S S1 : SS} {t : Nat} (h : LN w n S) (ht : tk w S t S1) : LN w n (s_park S1 t) := by
  have ht' := ht
  obtain ⟨l0, L, h5, h6, h7, h8, h9, h10⟩ := ht'
  have h11 := (((h l0 h6).2 t).mp h7).1
  have h12 : LN w n (sp S1 38 t 0) := LN_tk hw h ht rfl (fun i hi => by rw [sp_r, if_neg (fun q => hi q.2)]) (fun l hl => by rw [sp_r, if_pos ⟨rfl, rfl⟩]; exact (cd_0 hw hl).symm)
  intro l hl
  have hL := h12 l hl
  show (va_up S1.2 0 (S1.2 0 ++ [t]) l).Nodup ∧ ∀ t', t' ∈ va_up S1.2 0 (S1.2 0 ++ [t]) l ↔ t' < n ∧ mp S1.1 38 t 1 38 t' = cd w l
  unfold va_up
  have hn : t ∉ S1.2 l := fun q => by
    have := ((hL.2 t).mp q).2
    rw [sp_r, if_pos ⟨rfl, rfl⟩] at this
    exact cd_0 hw hl this.symm
  by_cases e : l = 0
  · subst e
    rw [if_pos rfl]
    refine ⟨List.nodup_append.mpr ⟨hL.1, List.pairwise_singleton _ t, fun x hx y hy => ?_⟩, fun t' => ?_⟩
    · rw [List.mem_singleton.mp hy]
      exact fun q => hn (q ▸ hx)
    · rw [List.mem_append, List.mem_singleton, mp_at]
      have hL2 := hL.2 t'
      rw [sp_r] at hL2
      rw [show t' ∈ S1.2 0 ↔ _ from hL2]
      by_cases e : t' = t
      · subst e
        rw [if_pos ⟨rfl, rfl⟩, if_pos ⟨rfl, rfl⟩]
        exact ⟨fun _ => ⟨h11, rfl⟩, fun _ => Or.inr rfl⟩
      · rw [if_neg (fun q => e q.2), if_neg (fun q => e q.2)]
        exact ⟨fun q => q.elim id (fun z => absurd z e), Or.inl⟩
  · rw [if_neg e]
    refine ⟨hL.1, fun t' => ?_⟩
    have hL2 := hL.2 t'
    rw [sp_r] at hL2
    rw [show t' ∈ S1.2 l ↔ _ from hL2, mp_at]
    by_cases e2 : t' = t
    · subst e2
      rw [if_pos ⟨rfl, rfl⟩, if_pos ⟨rfl, rfl⟩]
      exact ⟨fun q => absurd q.2.symm (cd_0 hw hl), fun q => absurd (cd_inj hw hl (by omega) (l' := 0) q.2.symm) e⟩
    · rw [if_neg (fun q => e2 q.2), if_neg (fun q => e2 q.2)]
theorem tk_fr {w : Nat} {S S1 : SS} {t : Nat} (h : tk w S t S1) : fr S S1 := by
  obtain ⟨l0, L, h5, h6, h7, h8, h9, h10⟩ := h
  intro k h1 _
  funext i
  exact h10 k i (by omega)
theorem tk_0 {w : Nat} {S S1 : SS} {t : Nat} (h : tk w S t S1) : S1.1 0 0 = S.1 0 0 := by
  obtain ⟨l0, L, h5, h6, h7, h8, h9, h10⟩ := h
  exact h10 0 0 (by omega)
theorem hold_fr (S : SS) (nd : Int32) (m : Nat) : fr S (s_hold S nd m) := by
  intro k _ h
  funext i
  rw [s_hold_at, if_neg (by omega)]
theorem give_fr (S : SS) (nd : Int32) (m : Nat) : fr S (s_give S nd m) := by
  intro k _ h
  funext i
  rw [s_give_at, if_neg (by omega)]
theorem kp1_park {w n : Nat} (hw : w ≤ 4) {S S1 : SS} {t : Nat} (h : tk w S t S1) : kp1 w n S (s_park S1 t) := by
  refine ⟨(tk_fr h).tr (fr.sp S1 (by decide) t 1), ?_, fun q => LN_park hw q h⟩
  show mp S1.1 38 t 1 0 0 = _
  rw [mp_at, if_neg (by omega)]
  exact tk_0 h
theorem kp1_run {w n : Nat} (hw : w ≤ 4) {S S1 : SS} {t wk : Nat} (hk : wk < w) (h : tk w S t S1) : kp1 w n S (s_run S1 t wk) := by
  refine ⟨(tk_fr h).tr (((hold_fr S1 _ 4).tr (fr.sp _ (by decide) _ _)).tr ((fr.sp _ (by decide) _ _).tr (fr.sp _ (by decide) _ _))), ?_, fun q => LN_tk hw q h (by unfold s_run; rw [sp_l, sp_l, sp_l, s_hold_l]) (fun i hi => ?_) (fun l hl => ?_)⟩
  · unfold s_run
    rw [sp_r, if_neg (by omega), sp_r, if_neg (by omega), sp_r, if_neg (by omega), s_hold_at, if_neg (by omega)]
    exact tk_0 h
  · unfold s_run
    rw [sp_r, if_neg (by omega), sp_r, if_neg (by omega), sp_r, if_neg (fun z => hi z.2), s_hold_at, if_neg (by omega)]
  · unfold s_run
    rw [sp_r, if_neg (by omega), sp_r, if_neg (by omega), sp_r, if_pos ⟨rfl, rfl⟩, cd_n]
    intro q
    have a1 := cdn_lt hw hl
    have q := (neq (by omega) (by omega)).mp q
    unfold cdn at q
    (repeat' split at q) <;> omega
def s_rdy1 (w : Nat) (nd : Int32) (S : SS) (t : Nat) : SS := if S.1 5 t &&& nd = 0 then S else s_ready w S t w
def s_rdy (w : Nat) (nd : Int32) (S : SS) (L : List Nat) : SS := L.foldl (s_rdy1 w nd) S
def s_wakeP (w : Nat) (nd : Int32) (S : SS) : SS := sq (s_rdy w nd S (S.2 0)) 0 ((S.2 0).filter fun t => decide (S.1 5 t &&& nd = 0))
def s_leave (w : Nat) (S : SS) (t wk : Nat) : SS := s_wakeP w (S.1 5 t) (s_give (sp S 37 wk (-1)) (S.1 5 t) 4)
theorem rdy_at (w : Nat) (nd : Int32) (S : SS) : ∀ (L : List Nat), (∀ k i, (s_rdy w nd S L).1 k i = if k = 38 ∧ i ∈ L ∧ ¬ S.1 5 i &&& nd = 0 then 20 else S.1 k i) ∧ ∀ l, (s_rdy w nd S L).2 l = if l = w + 1 then S.2 l ++ L.filter (fun t => decide (¬ S.1 5 t &&& nd = 0)) else S.2 l := by
  intro L
  induction L generalizing S with
  | nil =>
    refine ⟨fun k i => by rw [if_neg (fun q => by cases q.2.1)]; rfl, fun l => ?_⟩
    by_cases e : l = w + 1
    · rw [if_pos e]; simp [s_rdy]
    · rw [if_neg e]; rfl
  | cons t L ih =>
    have e : s_rdy w nd S (t :: L) = s_rdy w nd (s_rdy1 w nd S t) L := rfl
    rw [e]
    obtain ⟨i1, i2⟩ := ih (s_rdy1 w nd S t)
    by_cases h : S.1 5 t &&& nd = 0
    · have e1 : s_rdy1 w nd S t = S := if_pos h
      rw [e1] at i1 i2 ⊢
      refine ⟨fun k i => ?_, fun l => ?_⟩
      · rw [i1]
        by_cases q : k = 38 ∧ i ∈ L ∧ ¬ S.1 5 i &&& nd = 0
        · rw [if_pos q, if_pos ⟨q.1, List.mem_cons_of_mem _ q.2.1, q.2.2⟩]
        · rw [if_neg q, if_neg]
          rintro ⟨q1, q2, q3⟩
          rcases List.mem_cons.mp q2 with r | r
          · subst r; exact q3 h
          · exact q ⟨q1, r, q3⟩
      · rw [i2, List.filter_cons_of_neg (by rw [decide_eq_true_iff]; exact fun q => q h)]
    · have e1 : s_rdy1 w nd S t = s_ready w S t w := if_neg h
      rw [e1] at i1 i2 ⊢
      have e5 : (s_ready w S t w).1 5 = S.1 5 := fr_ready w S t w 5 (by decide) (by decide)
      have e20 : cd w (w + 1) = 20 := by unfold cd; rw [if_neg (by omega), if_pos rfl]
      refine ⟨fun k i => ?_, fun l => ?_⟩
      · rw [i1, e5]
        by_cases q : k = 38 ∧ i ∈ L ∧ ¬ S.1 5 i &&& nd = 0
        · rw [if_pos q, if_pos ⟨q.1, List.mem_cons_of_mem _ q.2.1, q.2.2⟩]
        · rw [if_neg q]
          show mp S.1 38 t (cd w (w + 1)) k i = _
          rw [mp_at, e20]
          by_cases r : k = 38 ∧ i = t
          · obtain ⟨rfl, rfl⟩ := r
            rw [if_pos ⟨rfl, rfl⟩, if_pos ⟨rfl, List.mem_cons_self .., h⟩]
          · rw [if_neg r, if_neg]
            rintro ⟨q1, q2, q3⟩
            rcases List.mem_cons.mp q2 with z | z
            · exact r ⟨q1, z⟩
            · exact q ⟨q1, z, q3⟩
      · rw [i2, e5, List.filter_cons_of_pos (by rw [decide_eq_true_iff]; exact h)]
        by_cases e : l = w + 1
        · subst e
          rw [if_pos rfl, if_pos rfl]
          show va_up S.2 (w + 1) (S.2 (w + 1) ++ [t]) (w + 1) ++ _ = _
          unfold va_up
          rw [if_pos rfl, List.append_assoc]
          rfl
        · rw [if_neg e, if_neg e]
          show va_up S.2 (w + 1) (S.2 (w + 1) ++ [t]) l = _
          unfold va_up
          rw [if_neg e]
theorem LN_wakeP {w n : Nat} (hw : w ≤ 4) (nd : Int32) {S : SS} (h : LN w n S) : LN w n (s_wakeP w nd S) := by
  obtain ⟨r1, r2⟩ := rdy_at w nd S (S.2 0)
  have h0 := h 0 (by omega)
  have e20 : cd w (w + 1) = 20 := by unfold cd; rw [if_neg (by omega), if_pos rfl]
  have e1 : cd w 0 = 1 := by unfold cd; rw [if_pos rfl]
  intro l hl
  have hL := h l hl
  show (va_up (s_rdy w nd S (S.2 0)).2 0 _ l).Nodup ∧ ∀ t, t ∈ va_up (s_rdy w nd S (S.2 0)).2 0 _ l ↔ t < n ∧ (s_rdy w nd S (S.2 0)).1 38 t = cd w l
  unfold va_up
  by_cases e : l = 0
  · subst e
    rw [if_pos rfl]
    refine ⟨h0.1.filter _, fun t => ?_⟩
    rw [List.mem_filter, decide_eq_true_iff, r1]
    by_cases q : S.1 5 t &&& nd = 0
    · rw [if_neg (fun z => z.2.2 q)]
      exact ⟨fun z => (h0.2 t).mp z.1, fun z => ⟨(h0.2 t).mpr z, q⟩⟩
    · by_cases z : t ∈ S.2 0
      · rw [if_pos ⟨rfl, z, q⟩, e1]
        exact ⟨fun y => absurd y.2 q, fun y => absurd y.2 (by decide)⟩
      · rw [if_neg (fun y => z y.2.1)]
        exact ⟨fun y => absurd y.1 z, fun y => absurd ((h0.2 t).mpr y) z⟩
  · rw [if_neg e, r2]
    by_cases e2 : l = w + 1
    · subst e2
      rw [if_pos rfl]
      refine ⟨List.nodup_append.mpr ⟨hL.1, h0.1.filter _, fun x hx y hy q => ?_⟩, fun t => ?_⟩
      · subst q
        have a1 := ((hL.2 x).mp hx).2
        have a2 := ((h0.2 x).mp (List.mem_filter.mp hy).1).2
        exact e (cd_inj hw hl (by omega) (a1.symm.trans a2))
      · rw [List.mem_append, List.mem_filter, decide_eq_true_iff, r1]
        by_cases z : t ∈ S.2 0 ∧ ¬ S.1 5 t &&& nd = 0
        · rw [if_pos ⟨rfl, z⟩, e20]
          exact ⟨fun _ => ⟨((h0.2 t).mp z.1).1, rfl⟩, fun _ => Or.inr z⟩
        · rw [if_neg (fun y => z y.2), hL.2]
          exact ⟨fun y => y.elim id (fun x => absurd x z), Or.inl⟩
    · rw [if_neg e2]
      refine ⟨hL.1, fun t => ?_⟩
      rw [r1, hL.2]
      by_cases z : t ∈ S.2 0 ∧ ¬ S.1 5 t &&& nd = 0
      · rw [if_pos ⟨rfl, z⟩]
        have a2 := ((h0.2 t).mp z.1).2
        exact ⟨fun y => absurd (cd_inj hw hl (by omega) (y.2.symm.trans a2)) e, fun y => absurd (cd_inj hw hl (by omega) (y.2.symm.trans e20.symm)) e2⟩
      · rw [if_neg (fun y => z y.2)]
theorem kp1_wakeP {w n : Nat} (hw : w ≤ 4) (nd : Int32) (S : SS) : kp1 w n S (s_wakeP w nd S) := by
  refine ⟨fun k h1 h2 => ?_, ?_, fun q => LN_wakeP hw nd q⟩
  · funext i
    show (s_rdy w nd S (S.2 0)).1 k i = _
    rw [(rdy_at w nd S (S.2 0)).1, if_neg (by omega)]
  · show (s_rdy w nd S (S.2 0)).1 0 0 = _
    rw [(rdy_at w nd S (S.2 0)).1, if_neg (by omega)]
theorem kp1_give {w n : Nat} (S : SS) (nd : Int32) (m : Nat) : kp1 w n S (s_give S nd m) := by
  refine ⟨give_fr S nd m, by rw [s_give_at, if_neg (by omega)], fun h => LN_eq h (s_give_l S nd m) ?_⟩
  funext i
  rw [s_give_at, if_neg (by omega)]
theorem kp1_leave {w n : Nat} (hw : w ≤ 4) (S : SS) (t wk : Nat) : kp1 w n S (s_leave w S t wk) :=
  ((kp1_sp S (by decide) (by decide) wk (-1)).tr (kp1_give _ _ 4)).tr (kp1_wakeP hw _ _)
