/-! The reference: ends of lines, who runs, units, taking -/
theorem PR_4 {w : Nat} (hw : w ≤ 4) {st sp pl : Int32} (h : PR w st sp pl) {l : Nat} (hl : l ≤ w) : (st = 4 ∧ sp = nI l) ↔ pl = cd w (l + 1) := by
  rcases h with ⟨rfl, rfl⟩ | ⟨rfl, rfl⟩ | ⟨rfl, rfl⟩ | ⟨k, hk, rfl, rfl, rfl⟩ | ⟨k, hk, rfl, rfl, rfl⟩
  · exact ⟨fun q => absurd q.1 (by decide), fun q => absurd q.symm (cd_0 hw (by omega))⟩
  · refine ⟨fun q => absurd q.1 (by decide), fun q => ?_⟩
    have e1 : cd w 0 = 1 := by unfold cd; rw [if_pos rfl]
    exact absurd (cd_inj hw (by omega) (by omega) (e1.trans q)) (by omega)
  · exact ⟨fun q => absurd q.1 (by decide), fun q => absurd q.symm (cd_2 hw (by omega))⟩
  · exact ⟨fun q => absurd q.1 (by decide), fun q => absurd q (n3_cd hw hk (by omega))⟩
  · refine ⟨fun q => ?_, fun q => ⟨rfl, ?_⟩⟩
    · rw [(neq (by omega) (by omega)).mp q.2]
    · have := cd_inj hw (by omega) (by omega) q
      rw [show k = l by omega]
theorem RP.line {w : Nat} (hw : w ≤ 4) {S : SS} {M : MM} {ex : Option Nat} (h : RP w S M ex) {t : Nat} (ht : t < 24) {l : Nat} (hl : l ≤ w) : (M 5 t = 4 ∧ M 6 t = nI l) ↔ S.1 38 t = cd w (l + 1) := by
  by_cases e : ex = some t
  · obtain ⟨h1, k, hk, h2⟩ := (h t ht).2 e
    rw [h1, h2]
    exact ⟨fun q => absurd q.1 (by decide), fun q => absurd q (n3_cd hw hk (by omega))⟩
  · exact PR_4 hw ((h t ht).1 e) hl
theorem RP.run {w : Nat} (hw : w ≤ 4) {S : SS} {M : MM} {ex : Option Nat} (h : RP w S M ex) {t : Nat} (ht : t < 24) (hx : ex ≠ some t) {k : Nat} (hk : k < w) : (M 5 t = 3 ∧ M 6 t = nI k) ↔ S.1 38 t = nI (3 + k) := by
  rcases (h t ht).1 hx with ⟨h1, h2⟩ | ⟨h1, h2⟩ | ⟨h1, h2⟩ | ⟨k', hk', h1, h2, h3⟩ | ⟨k', hk', h1, h2, h3⟩
  · rw [h1, h2]; exact ⟨fun q => absurd q.1 (by decide), fun q => absurd q.symm (n3_0 (by omega))⟩
  · rw [h1, h2]
    refine ⟨fun q => absurd q.1 (by decide), fun q => ?_⟩
    have := (neq (a := 1) (by omega) (by omega)).mp q
    omega
  · rw [h1, h2]; exact ⟨fun q => absurd q.1 (by decide), fun q => absurd q.symm (n3_2 (by omega))⟩
  · rw [h1, h2, h3]
    refine ⟨fun q => by rw [(neq (by omega) (by omega)).mp q.2], fun q => ⟨rfl, ?_⟩⟩
    have := (neq (by omega) (by omega)).mp q
    rw [show k' = k by omega]
  · rw [h1, h3]; exact ⟨fun q => absurd q.1 (by decide), fun q => absurd q.symm (n3_cd hw hk (by omega))⟩
theorem RP.run3 {w : Nat} {S : SS} {M : MM} {ex : Option Nat} (h : RP w S M ex) {t : Nat} (ht : t < 24) (h3 : M 5 t = 3) : ex ≠ some t ∧ ∃ k, k < w ∧ M 6 t = nI k ∧ S.1 38 t = nI (3 + k) := by
  have hx : ex ≠ some t := fun q => by
    obtain ⟨h1, -⟩ := (h t ht).2 q
    rw [h3] at h1
    exact absurd h1 (by decide)
  refine ⟨hx, ?_⟩
  rcases (h t ht).1 hx with ⟨h1, h2⟩ | ⟨h1, h2⟩ | ⟨h1, h2⟩ | ⟨k', hk', h1, h2, h4⟩ | ⟨k', hk', h1, h2, h4⟩
  · rw [h3] at h1; exact absurd h1 (by decide)
  · rw [h3] at h1; exact absurd h1 (by decide)
  · rw [h3] at h1; exact absurd h1 (by decide)
  · exact ⟨k', hk', h2, h4⟩
  · rw [h3] at h1; exact absurd h1 (by decide)
/-- since, as a number -/
def sv (M : MM) (t : Nat) : Nat := tn (M 7 t)
theorem RL.le {w : Nat} {S : SS} {M : MM} {c : Nat} (h : RL w S M c) (hc : c < 2 ^ 31) {t b : Nat} (ht : t < 24) (hb : b < 24) : M 7 t ≤ M 7 b ↔ sv M t ≤ sv M b := by
  obtain ⟨v, v1, v2⟩ := h.2.1 t ht
  obtain ⟨u, u1, u2⟩ := h.2.1 b hb
  unfold sv tn
  rw [v2, u2, nI_leI (by omega) (by omega), nI_clamp (by omega), nI_clamp (by omega)]
theorem pw_ne {f : Nat → Nat} {L : List Nat} (h : L.Pairwise (fun x y => f x < f y)) : ∀ x ∈ L, ∀ y ∈ L, x ≠ y → f x ≠ f y := by
  induction L with
  | nil => intro x hx; cases hx
  | cons z L ih =>
    have h := List.pairwise_cons.mp h
    intro x hx y hy hne
    rcases List.mem_cons.mp hx with ex | hx' <;> rcases List.mem_cons.mp hy with ey | hy'
    · exact absurd (ex.trans ey.symm) hne
    · have := h.1 y hy'; rw [ex]; omega
    · have := h.1 x hx'; rw [ey]; omega
    · exact ih h.2 x hx' y hy' hne
theorem pw_last {f : Nat → Nat} {L : List Nat} (h : L.Pairwise (fun x y => f x < f y)) {b : Nat} (hb : b ∈ L) (hm : ∀ t ∈ L, t ≠ b → f t < f b) : L.getLast? = some b := by
  cases hg : L.getLast? with
  | none => rw [List.getLast?_eq_none_iff] at hg; rw [hg] at hb; cases hb
  | some z =>
    obtain ⟨ys, rfl⟩ := List.getLast?_eq_some_iff.mp hg
    by_cases e : z = b
    · rw [e]
    · have h1 := hm z (by simp) e
      have h2 : b ∈ ys := by
        rcases List.mem_append.mp hb with q | q
        · exact q
        · exact absurd (List.mem_singleton.mp q).symm e
      have := (List.pairwise_append.mp h).2.2 b h2 z (by simp)
      omega
theorem pw_head {f : Nat → Nat} {L : List Nat} (h : L.Pairwise (fun x y => f x < f y)) {b : Nat} (hb : b ∈ L) (hm : ∀ t ∈ L, t ≠ b → f b < f t) : L.head? = some b := by
  cases L with
  | nil => cases hb
  | cons z L =>
    by_cases e : z = b
    · rw [e]; rfl
    · have h1 := hm z (List.mem_cons_self ..) e
      have h2 : b ∈ L := by
        rcases List.mem_cons.mp hb with q | q
        · exact absurd q.symm e
        · exact q
      have := (List.pairwise_cons.mp h).1 b h2
      omega
/-- the best so far -/
def BO (M : MM) (L : List Nat) (last : Bool) (k : Nat) (o : Option Nat) : Prop := match o with
  | none => ∀ t, t < k → t ∉ L
  | some b => b < k ∧ b ∈ L ∧ ∀ t, t < k → t ∈ L → t ≠ b → if last = true then sv M t < sv M b else sv M b < sv M t
def endL (L : List Nat) (last : Bool) : Option Nat := if last = true then L.getLast? else L.head?
theorem BO_end {M : MM} {L : List Nat} {last : Bool} {n : Nat} {o : Option Nat} (h : BO M L last n o) (hL : ∀ t ∈ L, t < n) (hp : L.Pairwise (fun x y => sv M x < sv M y)) : o = endL L last := by
  unfold endL
  cases o with
  | none =>
    have : L = [] := by
      cases L with
      | nil => rfl
      | cons z L => exact absurd (List.mem_cons_self ..) (h z (hL z (List.mem_cons_self ..)))
    rw [this]
    cases last <;> rfl
  | some b =>
    obtain ⟨h1, h2, h3⟩ := h
    cases last with
    | true => rw [if_pos rfl, pw_last hp h2 (fun t ht hne => h3 t (hL t ht) ht hne)]
    | false => rw [if_neg Bool.false_ne_true, pw_head hp h2 (fun t ht hne => h3 t (hL t ht) ht hne)]
theorem oN_neg {o : Option Nat} (h : ∀ t, o = some t → t < 1000) : oN o < 0 ↔ o = none := by
  cases o with
  | none => exact ⟨fun _ => rfl, fun _ => by decide⟩
  | some t => exact ⟨fun q => absurd q (nneg (h t rfl)), fun q => by cases q⟩
theorem oN_pos {o : Option Nat} (h : ∀ t, o = some t → t < 1000) : 0 ≤ oN o ↔ o ≠ none := by
  rw [← Int32.not_lt, oN_neg h]
section DR5
variable {l : Launch} {D : va_G} {cI cZ : ClassId} {a : Nat → Nat} {w n : Nat}
theorem kR_endOf (hJ : IJ (sM D cI cZ a)) {S : SS} (M : MM) {ex : Option Nat} {c : Nat} (hM : RM w n S M ex c) (hF : WF w n S) (hc : c < 2 ^ 31) {k : Nat} (hk : k ≤ w) (last : Bool) (y : Int32) (hy : y = if last = true then 1 else 0) : Ci l (sM D cI cZ a) yR_endOf wR_endOf rmR_endOf [.ref (a 0), .int (nI k), .int y] M (fun r M' => M' = M ∧ r = oN (endL (S.2 (k + 1)) last)) := by
  have hn := hF.le
  have hw := hF.w4
  have hL := hF.ln (k + 1) (by omega)
  have hpw : (S.2 (k + 1)).Pairwise (fun x y => sv M x < sv M y) := (hM.l.2.2 (k + 1) (by omega)).2
  have hmem : ∀ t, t < n → ((M 5 t = 4 ∧ M 6 t = nI k) ↔ t ∈ S.2 (k + 1)) := fun t ht => by
    rw [hM.p.line hw (by omega) hk, hL.2]
    exact ⟨fun q => ⟨ht, q⟩, fun q => q.2⟩
  have hlt : ∀ t ∈ S.2 (k + 1), t < n := fun t ht => ((hL.2 t).mp ht).1
  refine oR_endOf hJ (fun G hl hR F => ?_)
  subst hl
  have lp : ∀ m j o, j + m = n → BO M (S.2 (k + 1)) last j o → wx G (sM D cI cZ a) 6 (Qxi G (sM D cI cZ a) (fun r M' => M' = M ∧ r = oN (endL (S.2 (k + 1)) last))) M 5 [(0, .ref (a 0)), (1, .int (nI k)), (2, .int y), (3, .int (oN o)), (4, .int (nI j))] [] := by
    intro m
    induction m with
    | zero =>
      intro j o hj hb
      have hj : j = n := by omega
      subst hj
      have h4 : M 0 1 ≤ nI j := by rw [hM.g.1]; exact (nle (by omega) (by omega)).mpr (by omega)
      refine sR_endOf_5 F hR (K5 := fun _ _ _ _ _ => False) (fun _ _ _ _ _ q => q.elim) ⟨fun _ => ⟨rfl, ?_⟩, fun q => absurd h4 q⟩
      rw [BO_end hb hlt hpw]
    | succ m ih =>
      intro j o hj hb
      have h4 : ¬ M 0 1 ≤ nI j := by rw [hM.g.1]; intro q; have := (nle (by omega) (by omega)).mp q; omega
      have skip : j ∉ S.2 (k + 1) → BO M (S.2 (k + 1)) last (j + 1) o := fun hne => by
        cases o with
        | none =>
          intro t ht q
          by_cases e : t = j
          · exact hne (e ▸ q)
          · exact hb t (by omega) q
        | some b =>
          obtain ⟨b1, b2, b3⟩ := hb
          refine ⟨by omega, b2, fun t ht q hq => ?_⟩
          by_cases e : t = j
          · exact absurd (e ▸ q) hne
          · exact b3 t (by omega) q hq
      have hbl : ∀ t, o = some t → t < 1000 := fun t e => by
        subst e
        have := hb.1
        omega
      refine sR_endOf_5 F hR (K5 := fun M' x1 x2 x3 x4 => M' = M ∧ x1 = nI k ∧ x2 = y ∧ x4 = nI (j + 1) ∧ ∃ o', x3 = oN o' ∧ BO M (S.2 (k + 1)) last (j + 1) o') ?_ ⟨fun q => absurd q h4, fun _ => ⟨j, rfl, by omega, fun h5 => ⟨rfl, rfl, rfl, nI_1 j, o, rfl, skip (fun q => h5 ((hmem j (by omega)).mpr q).1)⟩, fun h5 => ⟨fun h6 => ⟨rfl, rfl, rfl, nI_1 j, o, rfl, skip (fun q => h6 ((hmem j (by omega)).mpr q).2)⟩, fun h6 => ?_⟩⟩⟩
      · rintro M' x1 x2 x3 x4 ⟨rfl, rfl, h2, rfl, o', rfl, g⟩
        rw [h2]
        exact ih (j + 1) o' (by omega) g
      · have hin : j ∈ S.2 (k + 1) := (hmem j (by omega)).mp ⟨h5, h6⟩
        refine ⟨fun h7 => ⟨rfl, rfl, rfl, nI_1 j, some j, rfl, ?_⟩, fun h7 => ?_⟩
        · have := (oN_neg hbl).mp h7
          subst this
          refine ⟨by omega, hin, fun t ht q hq => absurd q (hb t (by omega))⟩
        · cases o with
          | none => exact absurd ((oN_neg hbl).mpr rfl) h7
          | some b =>
            obtain ⟨b1, b2, b3⟩ := hb
            have hsv := pw_ne hpw j hin b b2 (by omega)
            have keepB : (if last = true then sv M j < sv M b else sv M b < sv M j) → BO M (S.2 (k + 1)) last (j + 1) (some b) := fun z => by
              refine ⟨by omega, b2, fun t ht q hq => ?_⟩
              by_cases e : t = j
              · rw [e]; exact z
              · exact b3 t (by omega) q hq
            have takeJ : (if last = true then sv M b < sv M j else sv M j < sv M b) → BO M (S.2 (k + 1)) last (j + 1) (some j) := fun z => by
              refine ⟨by omega, hin, fun t ht q hq => ?_⟩
              by_cases e : t = b
              · rw [e]; exact z
              · have h8 := b3 t (by omega) q e
                cases last with
                | true => simp only [if_true] at h8 z ⊢; omega
                | false => simp only [Bool.false_eq_true, if_false] at h8 z ⊢; omega
            refine ⟨b, rfl, by omega, fun h8 => ⟨fun h9 => ⟨rfl, rfl, rfl, nI_1 j, some b, rfl, keepB ?_⟩, fun h9 => ⟨rfl, rfl, rfl, nI_1 j, some j, rfl, takeJ ?_⟩⟩, fun h8 => ⟨fun h9 => ⟨rfl, rfl, rfl, nI_1 j, some b, rfl, keepB ?_⟩, fun h9 => ⟨rfl, rfl, rfl, nI_1 j, some j, rfl, takeJ ?_⟩⟩⟩
            · have h10 := (hM.l.le hc (by omega) (by omega)).mp h8
              cases last with
              | true => rw [if_pos rfl]; omega
              | false => rw [hy] at h9; exact absurd rfl h9
            · have h10 := (hM.l.le hc (by omega) (by omega)).mp h8
              cases last with
              | true => rw [hy] at h9; exact absurd h9 (by decide)
              | false => rw [if_neg Bool.false_ne_true]; omega
            · have h10 := mt (hM.l.le hc (by omega) (by omega)).mpr h8
              cases last with
              | true => rw [hy] at h9; exact absurd rfl h9
              | false => rw [if_neg Bool.false_ne_true]; omega
            · have h10 := mt (hM.l.le hc (by omega) (by omega)).mpr h8
              cases last with
              | true => rw [if_pos rfl]; omega
              | false => rw [hy] at h9; exact absurd h9 (by decide)
  refine sR_endOf_0 F hR (K5 := fun M' x1 x2 x3 x4 => M' = M ∧ x1 = nI k ∧ x2 = y ∧ x3 = oN none ∧ x4 = nI 0) ?_ ⟨rfl, rfl, rfl, rfl, rfl⟩
  rintro M' x1 x2 x3 x4 ⟨rfl, rfl, h2, rfl, rfl⟩
  rw [h2]
  exact lp n 0 none (by omega) (fun t ht => absurd ht (Nat.not_lt_zero _))
/-- every running place is written down with its worker -/
def RV (w n : Nat) (S : SS) (ex : Option Nat) : Prop := ∀ t, t < n → ∀ k, k < w → S.1 38 t = nI (3 + k) → S.1 37 k = nI t ∨ ex = some t
theorem kR_running (hJ : IJ (sM D cI cZ a)) {S : SS} (M : MM) {c : Nat} (hM : RM w n S M none c) (hI : IV w n S) (hV : RV w n S none) (x : Int32) : Ci l (sM D cI cZ a) yR_running wR_running rmR_running [.ref (a 0), .int x] M (fun r M' => M' = M ∧ r = if isT w x = true then S.1 37 (tn x) else -1) := by
  have hn := hI.1.le
  have hw := hI.1.w4
  refine oR_running hJ (fun G hl hR F => ?_)
  subst hl
  have lp : ∀ m j (z : Int32), j + m = n → ((z = -1 ∧ ∀ t, t < j → ¬ (M 5 t = 3 ∧ M 6 t = x)) ∨ ∃ t, t < j ∧ (M 5 t = 3 ∧ M 6 t = x) ∧ z = nI t) → wx G (sM D cI cZ a) 4 (Qxi G (sM D cI cZ a) (fun r M' => M' = M ∧ r = if isT w x = true then S.1 37 (tn x) else -1)) M 4 [(0, .ref (a 0)), (1, .int x), (2, .int z), (3, .int (nI j))] [] := by
    intro m
    induction m with
    | zero =>
      intro j z hj hz
      have hj : j = n := by omega
      subst hj
      have h4 : M 0 1 ≤ nI j := by rw [hM.g.1]; exact (nle (by omega) (by omega)).mpr (by omega)
      refine sR_running_4 F hR (K4 := fun _ _ _ _ => False) (fun _ _ _ _ q => q.elim) ⟨fun _ => ⟨rfl, ?_⟩, fun q => absurd h4 q⟩
      rcases hz with ⟨rfl, hno⟩ | ⟨t, ht, ⟨h1, h2⟩, rfl⟩
      · by_cases hT : isT w x = true
        · rw [if_pos hT]
          obtain ⟨k, hk, rfl⟩ := isT_of (by omega) hT
          rw [tnI (by omega)]
          rcases hI.2.2.1 k hk with e | ⟨t, t1, t2, t3⟩
          · exact e.symm
          · exact absurd ((hM.p.run hw (by omega) (by simp) hk).mpr t3) (hno t t1)
        · rw [if_neg hT]
      · obtain ⟨-, k, hk, h3, h4⟩ := hM.p.run3 (t := t) (by omega) h1
        rw [h2] at h3
        subst h3
        rw [if_pos (isT_nI (by omega) hk), tnI (by omega)]
        exact ((hV t ht k hk h4).resolve_right (by simp)).symm
    | succ m ih =>
      intro j z hj hz
      have h4 : ¬ M 0 1 ≤ nI j := by rw [hM.g.1]; intro q; have := (nle (by omega) (by omega)).mp q; omega
      have skip : ¬ (M 5 j = 3 ∧ M 6 j = x) → ((z = -1 ∧ ∀ t, t < j + 1 → ¬ (M 5 t = 3 ∧ M 6 t = x)) ∨ ∃ t, t < j + 1 ∧ (M 5 t = 3 ∧ M 6 t = x) ∧ z = nI t) := fun hne => by
        rcases hz with ⟨h1, h2⟩ | ⟨t, h1, h2, h3⟩
        · refine Or.inl ⟨h1, fun t ht => ?_⟩
          by_cases e : t = j
          · rw [e]; exact hne
          · exact h2 t (by omega)
        · exact Or.inr ⟨t, by omega, h2, h3⟩
      refine sR_running_4 F hR (K4 := fun M' x1 x2 x3 => M' = M ∧ x1 = x ∧ x3 = nI (j + 1) ∧ ((x2 = -1 ∧ ∀ t, t < j + 1 → ¬ (M 5 t = 3 ∧ M 6 t = x)) ∨ ∃ t, t < j + 1 ∧ (M 5 t = 3 ∧ M 6 t = x) ∧ x2 = nI t)) ?_ ⟨fun q => absurd q h4, fun _ => ⟨j, rfl, by omega, fun h5 => ⟨rfl, rfl, nI_1 j, skip (fun q => h5 q.1)⟩, fun h5 => ⟨fun h6 => ⟨rfl, rfl, nI_1 j, skip (fun q => h6 q.2)⟩, fun h6 => ⟨rfl, rfl, nI_1 j, Or.inr ⟨j, by omega, ⟨h5, h6⟩, rfl⟩⟩⟩⟩⟩
      rintro M' x1 x2 x3 ⟨rfl, h1, rfl, g⟩
      rw [h1]
      exact ih (j + 1) x2 (by omega) g
  refine sR_running_0 F hR (K4 := fun M' x1 x2 x3 => M' = M ∧ x1 = x ∧ x2 = -1 ∧ x3 = nI 0) ?_ ⟨rfl, rfl, rfl, rfl⟩
  rintro M' x1 x2 x3 ⟨rfl, h1, rfl, rfl⟩
  rw [h1]
  exact lp n 0 (-1) (by omega) (Or.inl ⟨rfl, fun t ht => absurd ht (Nat.not_lt_zero _)⟩)
end DR5
