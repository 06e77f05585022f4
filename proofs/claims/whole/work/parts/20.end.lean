/-! Tasks end upwards: what it keeps, and what the class does -/
/-- a child of a joined task is active only while that waits -/
def JW (n : Nat) (S : SS) : Prop := ∀ t, t < n → S.1 38 t ≠ 0 → ∀ p, p < n → S.1 3 t = nI p → S.1 2 p = 2 → S.1 38 p = 2
/-- t may end: it is active, stands in no line, and has no active child if it is a joined one -/
def PE (w n : Nat) (S : SS) (t : Nat) : Prop := t < n ∧ S.1 38 t ≠ 0 ∧ (∀ l, l < w + 2 → S.1 38 t ≠ cd w l) ∧ (S.1 2 t = 2 → ∀ t', t' < n → S.1 3 t' = nI t → S.1 38 t' = 0)
/-- a joined parent of t waits -/
def PW (n : Nat) (S : SS) (t : Nat) : Prop := ∀ p, p < n → S.1 3 t = nI p → S.1 2 p = 2 → S.1 38 p = 2
theorem tok_38 (w : Nat) (S : SS) (t l : Nat) (i : Nat) : (s_token w S t l).1 38 i = if i = t ∧ S.1 38 t = 0 then cd w (l + 1) else S.1 38 i := by
  unfold s_token
  by_cases h : S.1 38 t = 0
  · rw [if_pos h]
    show mp S.1 38 t (cd w (l + 1)) 38 i = _
    rw [mp_at]
    by_cases e : i = t
    · rw [if_pos ⟨rfl, e⟩, if_pos ⟨e, h⟩]
    · rw [if_neg (fun q => e q.2), if_neg (fun q => e q.1)]
  · rw [if_neg h, if_neg (fun q => h q.2), sp_r, if_neg (by omega)]
/-- places that change only from 0 -/
def up38 (S S' : SS) : Prop := ∀ i, S.1 38 i ≠ 0 → S'.1 38 i = S.1 38 i
theorem up38_tok (w : Nat) (S : SS) (t l : Nat) : up38 S (s_token w S t l) := fun i hi => by
  rw [tok_38, if_neg]
  rintro ⟨rfl, q⟩
  exact hi q
theorem PW_up {n : Nat} {S S' : SS} {t : Nat} (h : PW n S t) (hf : fr S S') (hu : up38 S S') : PW n S' t := by
  intro p hp h3 h2
  rw [hf 3 (by decide) (by decide)] at h3
  rw [hf 2 (by decide) (by decide)] at h2
  have := h p hp h3 h2
  rw [hu p (by rw [this]; decide)]
  exact this
theorem JW_tok {w n : Nat} {S : SS} (h : JW n S) {t l : Nat} (hp : PW n S t) : JW n (s_token w S t l) := by
  intro t' ht' ha p hpn h3 h2
  have hf := fr_token w S t l
  rw [hf 3 (by decide) (by decide)] at h3
  rw [hf 2 (by decide) (by decide)] at h2
  have key : S.1 38 p = 2 := by
    by_cases e : t' = t
    · subst e; exact hp p hpn h3 h2
    · rw [tok_38, if_neg (fun q => e q.1)] at ha
      exact h t' ht' ha p hpn h3 h2
  rw [up38_tok w S t l p (by rw [key]; decide)]
  exact key
theorem JW_eq {n : Nat} {S S' : SS} (h : JW n S) (hf : fr S S') (e : S'.1 38 = S.1 38) : JW n S' := by
  intro t ht ha p hp h3 h2
  rw [hf 3 (by decide) (by decide)] at h3
  rw [hf 2 (by decide) (by decide)] at h2
  rw [e] at ha ⊢
  exact h t ht ha p hp h3 h2
/-- steps that wake siblings of t: what they keep -/
def stW (w n : Nat) (t : Nat) (S S' : SS) : Prop := kp1 w n S S' ∧ up38 S S' ∧ (GR n S.1 → PW n S t → JW n S → JW n S')
theorem stW.rf (w n t : Nat) (S : SS) : stW w n t S S := ⟨kp1.rf w n S, fun _ _ => rfl, fun _ _ h => h⟩
theorem stW.tr {w n t : Nat} {S S' S2 : SS} (h : stW w n t S S') (h2 : stW w n t S' S2) : stW w n t S S2 :=
  ⟨h.1.tr h2.1, fun i hi => by rw [h2.2.1 i (by rw [h.2.1 i hi]; exact hi), h.2.1 i hi], fun hG hp hj => h2.2.2 (GR_fr h.1.1 hG) (PW_up hp h.1.1 h.2.1) (h.2.2 hG hp hj)⟩
theorem stW_sp {w n t : Nat} (S : SS) {k : Nat} (hk : 36 ≤ k) (h38 : k ≠ 38) (i : Nat) (x : Int32) : stW w n t S (sp S k i x) := by
  have e : (sp S k i x).1 38 = S.1 38 := mp_ne _ _ _ _ (Ne.symm h38)
  exact ⟨kp1_sp S hk h38 i x, fun j _ => by rw [e], fun _ _ h => JW_eq h (fr.sp S hk i x) e⟩
theorem stW_sp0 {w n t : Nat} (S : SS) {i : Nat} (hi : i ≠ 0) (x : Int32) : stW w n t S (sp S 0 i x) := by
  have e : (sp S 0 i x).1 38 = S.1 38 := (show mp S.1 0 i x 38 = S.1 38 from mp_ne _ _ _ _ (by decide))
  exact ⟨kp1_sp0 S hi x, fun j _ => by rw [e], fun _ _ h => JW_eq h (fr.sp0 S i x) e⟩
theorem stW_tok {w n t : Nat} (hw : w ≤ 4) (S : SS) {b l : Nat} (hb : b < n) (hl : l ≤ w) (hs : S.1 3 b = S.1 3 t) : stW w n t S (s_token w S b l) :=
  ⟨kp1_token hw S hb hl, up38_tok w S b l, fun _ hp hj => JW_tok hj (fun p hpn h3 h2 => hp p hpn (hs.symm.trans h3) h2)⟩
theorem stW_arrive {w n t : Nat} (hw : w ≤ 4) (S : SS) {b l : Nat} (hb : b < n) (hl : l ≤ w) (hs : S.1 3 b = S.1 3 t) : stW w n t S (s_arrive w S b l) := by
  unfold s_arrive
  by_cases h : S.1 39 b + 1 = S.1 8 b
  · rw [if_pos h]
    exact (stW_sp S (by decide) (by decide) b 0).tr (stW_tok hw _ hb hl hs)
  · rw [if_neg h]; exact stW_sp S (by decide) (by decide) b _
theorem stW_edges {w n : Nat} (hw : w ≤ 4) (S : SS) (hG : GR n S.1) {t l : Nat} (ht : t < n) (hl : l ≤ w) : ∀ m, m ≤ tn (S.1 6 t) → stW w n t S (s_edges w t l S m) := by
  intro m
  induction m with
  | zero => intro _; exact stW.rf w n t S
  | succ m ih =>
    intro hm
    have h1 := ih (by omega)
    refine h1.tr (stW_arrive hw _ (hG.e1 ht (by omega)).1 hl ?_)
    rw [h1.1.1 3 (by decide) (by decide)]
    exact hG.e3 ht (by omega)
theorem stW_pass {w n : Nat} (hw : w ≤ 4) (S : SS) (hG : GR n S.1) {t l : Nat} (ht : t < n) (c : Int32) (hl : l ≤ w) : stW w n t S (s_pass w S t c l) := by
  unfold s_pass
  by_cases h : S.1 2 t = 1
  · rw [if_pos h]
    by_cases h2 : isT (tn (S.1 6 t)) c = true
    · rw [if_pos h2]
      have := (hG.ecn ht).1
      obtain ⟨j, hj, rfl⟩ := isT_of (by omega) h2
      rw [tnI (show j < 1000 by omega)]
      exact stW_tok hw S (hG.e1 ht hj).1 hl (hG.e3 ht hj)
    · rw [if_neg h2]; exact stW.rf w n t S
  · rw [if_neg h]; exact stW_edges hw S hG ht hl _ (Nat.le_refl _)
theorem par_ne {n : Nat} {R : MM} (hG : GR n R) {t p : Nat} (ht : t < n) (hp : p < n) (h : R 3 t = nI p) : p < t := by
  have := hG.le
  rcases hG.par t ht with e | ⟨q, hq, e⟩
  · rw [e] at h
    exact absurd h.symm (nm1 (by omega))
  · rw [e] at h
    have := (neq (by omega) (by omega)).mp h
    omega
theorem idle_inv {w n : Nat} {S : SS} (hF : WF w n S) (hJ : JW n S) {t : Nat} (hP : PE w n S t) : kp1 w n S (sp S 38 t 0) ∧ JW n (sp S 38 t 0) ∧ PW n (sp S 38 t 0) t := by
  have hf := fr.sp S (k := 38) (by decide) t 0
  have hw := hF.w4
  refine ⟨⟨hf, by rw [sp_r, if_neg (by omega)], fun h l hl => ⟨(h l hl).1, fun x => ?_⟩⟩, fun t' ht' ha p hp h3 h2 => ?_, fun p hp h3 h2 => ?_⟩
  · rw [show (sp S 38 t 0).2 l = S.2 l from rfl, (h l hl).2, sp_r]
    by_cases e : x = t
    · subst e
      rw [if_pos ⟨rfl, rfl⟩]
      exact ⟨fun q => absurd q.2 (hP.2.2.1 l hl), fun q => absurd q.2.symm (cd_0 hw hl)⟩
    · rw [if_neg (fun q => e q.2)]
  · rw [hf 3 (by decide) (by decide)] at h3
    rw [hf 2 (by decide) (by decide)] at h2
    rw [sp_r] at ha
    by_cases e : t' = t
    · subst e; rw [if_pos ⟨rfl, rfl⟩] at ha; exact absurd rfl ha
    · rw [if_neg (fun q => e q.2)] at ha
      have h1 := hJ t' ht' ha p hp h3 h2
      rw [sp_r, if_neg]
      · exact h1
      · rintro ⟨-, rfl⟩
        exact ha (hP.2.2.2 h2 t' ht' h3)
  · rw [hf 3 (by decide) (by decide)] at h3
    rw [hf 2 (by decide) (by decide)] at h2
    have h1 := hJ t hP.1 hP.2.1 p hp h3 h2
    have h4 := par_ne hF.g hP.1 hp h3
    rw [sp_r, if_neg (by omega)]
    exact h1
theorem out_inv {w n : Nat} {S : SS} (hF : WF w n S) (hJ : JW n S) {t : Nat} (hP : PE w n S t) (c : Int32) {l : Nat} (hl : l ≤ w) (fl : Bool) : kp1 w n S (s_out w c l S t fl) ∧ JW n (s_out w c l S t fl) ∧ PW n (s_out w c l S t fl) t := by
  obtain ⟨h1, h2, h3⟩ := idle_inv hF hJ hP
  unfold s_out
  by_cases h : fl = false ∧ S.1 0 11 = 0
  · rw [if_pos h]
    have hG := GR_fr h1.1 hF.g
    have h4 := stW_pass hF.w4 (sp S 38 t 0) hG hP.1 c hl
    exact ⟨h1.tr h4.1, h4.2.2 hG h3 h2, PW_up h3 h4.1.1 h4.2.1⟩
  · rw [if_neg h]; exact ⟨h1, h2, h3⟩
theorem stW_hurt {w n t' : Nat} (S : SS) (t : Nat) (fl : Bool) : stW w n t' S (s_hurt S t fl) := by
  unfold s_hurt
  by_cases h : fl = true
  · rw [if_pos h]; exact stW_sp S (by decide) (by decide) _ _
  · rw [if_neg h]; exact stW.rf w n t' S
theorem hurt_38 (S : SS) (t : Nat) (fl : Bool) : (s_hurt S t fl).1 38 = S.1 38 := by
  unfold s_hurt
  by_cases h : fl = true
  · rw [if_pos h]; exact (show mp S.1 41 (tn (S.1 3 t)) 1 38 = S.1 38 from mp_ne _ _ _ _ (by decide))
  · rw [if_neg h]
theorem up_inv {w n : Nat} {S : SS} (hF : WF w n S) (hJ : JW n S) {t : Nat} (ht : t < n) (hp : PW n S t) (fl : Bool) : kp1 w n S (s_up n S t fl).2 ∧ JW n (s_up n S t fl).2 ∧ ∀ p, (s_up n S t fl).1 = some p → PE w n (s_up n S t fl).2 p ∧ S.1 3 t = nI p := by
  have hw := hF.w4
  have hn := hF.le
  unfold s_up
  by_cases h : S.1 3 t = -1 ∨ S.1 2 (tn (S.1 3 t)) ≠ 2
  · rw [if_pos h]; exact ⟨kp1.rf w n S, hJ, fun p q => by cases q⟩
  · rw [if_neg h]
    have hh := stW_hurt (w := w) (n := n) (t' := t) S t fl
    have hJ2 := hh.2.2 hF.g hp hJ
    by_cases h2 : s_act n (s_hurt S t fl) (S.1 3 t) = true
    · rw [if_pos h2]; exact ⟨hh.1, hJ2, fun p q => by cases q⟩
    · rw [if_neg h2]
      refine ⟨hh.1, hJ2, fun p q => ?_⟩
      obtain ⟨p', hp', e⟩ : ∃ p', p' < t ∧ S.1 3 t = nI p' := by
        rcases hF.g.par t ht with e | e
        · exact absurd (Or.inl e) h
        · exact e
      have q : tn (S.1 3 t) = p := Option.some.inj q
      rw [e, tnI (by omega)] at q
      subst q
      have hk2 : S.1 2 p' = 2 := by
        have := fun q => h (Or.inr q)
        rw [e, tnI (by omega)] at this
        exact Classical.byContradiction this
      have h38 := hp p' (by omega) e hk2
      refine ⟨⟨by omega, by rw [hurt_38, h38]; decide, fun l hl => ?_, fun _ t' ht' h3 => ?_⟩, e⟩
      · rw [hurt_38, h38, cd_n]
        intro z
        have a1 := cdn_lt hw hl
        have z := (neq (a := 2) (by omega) (by omega)).mp z
        unfold cdn at z
        (repeat' split at z) <;> omega
      · rw [s_act_iff] at h2
        refine Classical.byContradiction fun z => h2 ⟨t', ht', ?_, z⟩
        rw [e]
        exact h3
theorem end_inv {w n : Nat} (c : Int32) {l : Nat} (hl : l ≤ w) : ∀ (f : Nat) (S : SS) (t : Nat) (fl : Bool), WF w n S → JW n S → PE w n S t → kp1 w n S (s_end w n c l f S t fl).2 ∧ JW n (s_end w n c l f S t fl).2 := by
  intro f
  induction f with
  | zero => intro S t fl hF hJ _; exact ⟨kp1.rf w n S, hJ⟩
  | succ f ih =>
    intro S t fl hF hJ hP
    obtain ⟨o1, o2, o3⟩ := out_inv hF hJ hP c hl fl
    obtain ⟨u1, u2, u3⟩ := up_inv (hF.k o1) o2 hP.1 o3 fl
    unfold s_end
    cases hu : s_up n (s_out w c l S t fl) t fl with
    | mk o S1 =>
      rw [hu] at u1 u2 u3
      cases o with
      | none => exact ⟨o1.tr u1, u2⟩
      | some p =>
        obtain ⟨i1, i2⟩ := ih S1 p (decide (S1.1 41 p ≠ 0)) ((hF.k o1).k u1) u2 (u3 p rfl).1
        exact ⟨(o1.tr u1).tr i1, i2⟩
section CE6
variable {l : Launch} {D : va_G} {cI cZ cL cE : ClassId} {a : Nat → Nat} {w n : Nat}
theorem kE_parentThatEnds (hJ : IJ (sX D cI cZ cL cE a w)) {S : SS} (M : MM) (hX : RX w S M) (hF : WF w n S) {t : Nat} (ht : t < n) (fl : Bool) (x : Int32) (hx : x = if fl = true then 1 else 0) : Ci l (sX D cI cZ cL cE a w) yE_parentThatEnds wE_parentThatEnds rmE_parentThatEnds [.ref (a 0), .int (nI t), .int x] M (fun r M' => r = oN (s_up n S t fl).1 ∧ RX w (s_up n S t fl).2 M') := by
  have hn := hF.le
  have hw := hF.w4
  have e3 : M 3 t = S.1 3 t := hX.at (by decide) t
  refine oE_parentThatEnds hJ hw ⟨t, rfl, by omega, fun h => ?_, fun h => ?_⟩
  · unfold s_up
    rw [if_pos (Or.inl (e3.symm.trans h))]
    exact ⟨rfl, hX⟩
  · obtain ⟨p, hp, e⟩ : ∃ p, p < t ∧ S.1 3 t = nI p := by
      rcases hF.g.par t ht with e | e
      · exact absurd (e3.trans e) h
      · exact e
    have e2 : M 2 p = S.1 2 p := hX.at (by decide) p
    have et : tn (S.1 3 t) = p := by rw [e]; exact tnI (by omega)
    refine ⟨p, e3.trans e, by omega, fun h1 => ⟨fun h4 => ?_, fun h4 => ?_⟩, fun h1 => ?_⟩
    · have hfl : fl = false := by
        cases fl
        · rfl
        · rw [hx] at h4; exact absurd h4 (by decide)
      subst hfl
      refine ⟨_, kE_hasActiveChild hJ hw hn M hX hF.cnt (M 3 t), ?_⟩
      rintro r M' ⟨rfl, rfl⟩
      have hs : s_up n S t false = if s_act n S (S.1 3 t) = true then (none, S) else (some p, S) := by
        unfold s_up
        rw [if_neg (fun q => q.elim (fun z => h (e3.trans z)) (fun z => z (by rw [et, ← e2]; exact h1))), et]
        rfl
      rw [hs, e3]
      cases hA : s_act n S (S.1 3 t) with
      | true => exact ⟨fun q => absurd q (by decide), fun _ => ⟨rfl, hX⟩⟩
      | false => exact ⟨fun _ => ⟨e, hX⟩, fun q => absurd rfl q⟩
    · have hfl : fl = true := by
        cases fl
        · rw [hx] at h4; exact absurd rfl h4
        · rfl
      subst hfl
      rintro M19 rfl
      have hh : s_hurt S t true = sp S 41 p 1 := by unfold s_hurt; rw [if_pos rfl, et]
      have hX2 : RX w (s_hurt S t true) (mp M 41 p 1) := by rw [hh]; exact hX.sp (by decide) _ _
      have hk1 := stW_hurt (w := w) (n := n) (t' := t) S t true
      refine ⟨_, kE_hasActiveChild hJ hw hn _ hX2 (hF.k hk1.1).cnt (M 3 t), ?_⟩
      rintro r M' ⟨rfl, rfl⟩
      have hs : s_up n S t true = if s_act n (s_hurt S t true) (S.1 3 t) = true then (none, s_hurt S t true) else (some p, s_hurt S t true) := by
        unfold s_up
        rw [if_neg (fun q => q.elim (fun z => h (e3.trans z)) (fun z => z (by rw [et, ← e2]; exact h1))), et]
      rw [hs, e3]
      cases hA : s_act n (s_hurt S t true) (S.1 3 t) with
      | true => exact ⟨fun q => absurd q (by decide), fun _ => ⟨rfl, hX2⟩⟩
      | false => exact ⟨fun _ => ⟨e, hX2⟩, fun q => absurd rfl q⟩
    · unfold s_up
      rw [if_pos (Or.inr (by rw [et, ← e2]; exact h1))]
      exact ⟨rfl, hX⟩
theorem kE_endUpwards (hJ : IJ (sX D cI cZ cL cE a w)) {S : SS} (M : MM) (hX : RX w S M) (hF : WF w n S) (hW : JW n S) {t k : Nat} (hP : PE w n S t) (hk : k ≤ w) (c : Int32) (fl : Bool) (x : Int32) (hx : x = if fl = true then 1 else 0) : Ci l (sX D cI cZ cL cE a w) yE_endUpwards wE_endUpwards rmE_endUpwards [.ref (a 0), .int (nI t), .int x, .int c, .int (nI k)] M (fun r M' => r = nI (s_end w n c k 4 S t fl).1 ∧ RX w (s_end w n c k 4 S t fl).2 M') := by
  have hn := hF.le
  have hw := hF.w4
  refine oE_endUpwards hJ (fun G hl hR F => ?_)
  subst hl
  have lp : ∀ f v, v + f = 4 → ∀ (y1 y2 : Int32) (e : Nat) (o : Option Nat) (fl' : Bool) (S1 : SS) (M1 : MM), WF w n S1 → JW n S1 → RX w S1 M1 → (∀ p, o = some p → PE w n S1 p) → e ≤ v →
      (match o with | none => s_end w n c k 4 S t fl = (e, S1) | some p => s_end w n c k 4 S t fl = (e + (s_end w n c k f S1 p fl').1, (s_end w n c k f S1 p fl').2)) →
      wx G (sX D cI cZ cL cE a w) 9 (Qxi G (sX D cI cZ cL cE a w) (fun r M' => r = nI (s_end w n c k 4 S t fl).1 ∧ RX w (s_end w n c k 4 S t fl).2 M')) M1 12 [(0, .ref (a 0)), (1, .int y1), (2, .int y2), (3, .int c), (4, .int (nI k)), (5, .int (nI e)), (6, .int (oN o)), (7, .int (if fl' = true then 1 else 0)), (8, .int (nI v))] [] := by
    intro f
    induction f with
    | zero =>
      intro v hv y1 y2 e o fl' S1 M1 hF1 hW1 hX1 hP1 he hs
      have h4 : (3 : Int32) < nI v := (nlt (a := 3) (by omega) (by omega)).mpr (by omega)
      refine sE_endUpwards_12 F hw hR (K56 := fun _ _ _ _ _ _ _ _ _ => False) (fun _ _ _ _ _ _ _ _ _ q => q.elim) ⟨fun _ => ?_, fun q => absurd h4 q⟩
      cases o with
      | none => rw [hs]; exact ⟨rfl, hX1⟩
      | some p => rw [hs]; exact ⟨rfl, hX1⟩
    | succ f ih =>
      intro v hv y1 y2 e o fl' S1 M1 hF1 hW1 hX1 hP1 he hs
      have h4 : ¬ (3 : Int32) < nI v := fun q => by
        have := (nlt (a := 3) (by omega) (by omega)).mp q
        omega
      cases o with
      | none =>
        refine sE_endUpwards_12 F hw hR (K56 := fun _ _ _ _ _ _ _ _ _ => False) (fun _ _ _ _ _ _ _ _ _ q => q.elim) ⟨fun q => absurd q h4, fun _ => ⟨fun _ => ?_, fun q => absurd rfl q⟩⟩
        rw [hs]
        exact ⟨rfl, hX1⟩
      | some p =>
        have hP2 := hP1 p rfl
        have hpn := hP2.1
        obtain ⟨o1, o2, o3⟩ := out_inv hF1 hW1 hP2 c hk fl'
        have hF2 := hF1.k o1
        obtain ⟨u1, u2, u3⟩ := up_inv hF2 o2 hpn o3 fl'
        refine sE_endUpwards_12 F hw hR (K56 := fun M2 x1 x2 x3 x4 x5 x6 x7 x8 => x3 = c ∧ x4 = nI k ∧ x5 = nI (e + 1) ∧ x6 = nI p ∧ x7 = (if fl' = true then 1 else 0) ∧ x8 = nI v ∧ RX w (s_out w c k S1 p fl') M2) ?_ ⟨fun q => absurd q h4, fun _ => ⟨fun q => absurd q (nm1 (by omega)), fun _ => ⟨p, rfl, by omega, ?_⟩⟩⟩
        · rintro M2 x1 x2 x3 x4 x5 x6 x7 x8 ⟨rfl, rfl, rfl, rfl, rfl, rfl, hX2⟩
          refine sE_endUpwards_56 F hw hR (K12 := fun M3 y1 y2 y3 y4 y5 y6 y7 y8 => y3 = x3 ∧ y4 = nI k ∧ y5 = nI (e + 1) ∧ y8 = nI (v + 1) ∧ ∃ (o : Option Nat) (fl2 : Bool) (S2 : SS), y6 = oN o ∧ y7 = (if fl2 = true then 1 else 0) ∧ WF w n S2 ∧ JW n S2 ∧ RX w S2 M3 ∧ (∀ p, o = some p → PE w n S2 p) ∧
              (match o with | none => s_end w n x3 k 4 S t fl = (e + 1, S2) | some p => s_end w n x3 k 4 S t fl = (e + 1 + (s_end w n x3 k f S2 p fl2).1, (s_end w n x3 k f S2 p fl2).2))) ?_ ⟨_, kE_parentThatEnds hJ M2 hX2 hF2 hpn fl' _ rfl, ?_⟩
          · rintro M3 y1 y2 y3 y4 y5 y6 y7 y8 ⟨h1, rfl, rfl, rfl, o, fl2, S2, rfl, rfl, g1, g2, g3, g4, g5⟩
            rw [h1]
            exact ih (v + 1) (by omega) y1 y2 (e + 1) o fl2 S2 M3 g1 g2 g3 g4 (by omega) g5
          · rintro r M3 ⟨rfl, hX3⟩
            have hs2 := hs
            simp only [] at hs2
            unfold s_end at hs2
            cases hu : s_up n (s_out w x3 k S1 p fl') p fl' with
            | mk o S2 =>
              rw [hu] at u1 u2 u3 hX3
              have hF3 := hF2.k u1
              cases o with
              | none =>
                refine ⟨fun _ => ⟨rfl, rfl, rfl, nI_1 v, none, false, S2, rfl, rfl, hF3, u2, hX3, (fun p q => by cases q), ?_⟩, fun q => absurd rfl q⟩
                show s_end w n x3 k 4 S t fl = (e + 1, S2)
                rw [hs, s_end, hu]
              | some p2 =>
                have hp2 := (u3 p2 rfl).1.1
                have e41 : M3 41 p2 = S2.1 41 p2 := hX3.at (by decide) p2
                refine ⟨fun q => absurd q (nm1 (by omega)), fun _ => ⟨p2, rfl, by omega, fun h7 => ⟨rfl, rfl, rfl, nI_1 v, some p2, false, S2, rfl, rfl, hF3, u2, hX3, (fun p q => by cases q; exact (u3 p2 rfl).1), ?_⟩, fun h7 => ⟨rfl, rfl, rfl, nI_1 v, some p2, true, S2, rfl, rfl, hF3, u2, hX3, (fun p q => by cases q; exact (u3 p2 rfl).1), ?_⟩⟩⟩
                · show s_end w n x3 k 4 S t fl = (e + 1 + (s_end w n x3 k f S2 p2 false).1, (s_end w n x3 k f S2 p2 false).2)
                  rw [hs, s_end, hu]
                  have : decide (S2.1 41 p2 ≠ 0) = false := by rw [decide_eq_false_iff_not, ← e41]; exact fun q => q h7
                  simp only [this]
                  rw [show e + ((s_end w n x3 k f S2 p2 false).1 + 1) = e + 1 + (s_end w n x3 k f S2 p2 false).1 by omega]
                · show s_end w n x3 k 4 S t fl = (e + 1 + (s_end w n x3 k f S2 p2 true).1, (s_end w n x3 k f S2 p2 true).2)
                  rw [hs, s_end, hu]
                  have : decide (S2.1 41 p2 ≠ 0) = true := by rw [decide_eq_true_iff, ← e41]; exact h7
                  simp only [this]
                  rw [show e + ((s_end w n x3 k f S2 p2 true).1 + 1) = e + 1 + (s_end w n x3 k f S2 p2 true).1 by omega]
        · rintro M3 rfl
          have hX2 := hX1.sp (k := 38) (by decide) p 0
          have e11 : mp M1 38 p 0 0 11 = S1.1 0 11 := by rw [mp_at, if_neg (by omega)]; exact hX1.at (by decide) 11
          cases hfl : fl' with
          | true =>
            refine ⟨fun _ => ⟨rfl, rfl, nI_1 e, rfl, rfl, rfl, ?_⟩, fun q => absurd q (by decide)⟩
            unfold s_out
            rw [if_neg (fun q => by cases q.1)]
            exact hX2
          | false =>
            refine ⟨fun q => absurd rfl q, fun _ => ⟨fun h5 => ⟨rfl, rfl, nI_1 e, rfl, rfl, rfl, ?_⟩, fun h5 => ?_⟩⟩
            · unfold s_out
              rw [if_neg (fun q => h5 (e11.trans q.2))]
              exact hX2
            · have hi := (idle_inv hF1 hW1 hP2).1
              refine ⟨_, kE_passOn hJ _ hX2 (hF1.k hi) hpn c hk, fun M4 hX4 => ⟨rfl, rfl, nI_1 e, rfl, rfl, rfl, ?_⟩⟩
              unfold s_out
              rw [if_pos ⟨rfl, e11.symm.trans h5⟩]
              exact hX4
  refine sE_endUpwards_0 F hw hR (K12 := fun M' x1 x2 x3 x4 x5 x6 x7 x8 => M' = M ∧ x3 = c ∧ x4 = nI k ∧ x5 = nI 0 ∧ x6 = oN (some t) ∧ x7 = (if fl = true then 1 else 0) ∧ x8 = nI 0) ?_ ⟨rfl, rfl, rfl, rfl, rfl, hx, rfl⟩
  rintro M' x1 x2 x3 x4 x5 x6 x7 x8 ⟨rfl, h3, rfl, rfl, rfl, rfl, rfl⟩
  rw [h3]
  exact lp 4 0 rfl x1 x2 0 (some t) fl S M' hF hW hX (fun p q => by cases q; exact hP) (Nat.le_refl _) (by show s_end w n c k 4 S t fl = (0 + _, _); rw [Nat.zero_add])
end CE6
