/-! Every call keeps what is true between calls -/
/-- places that are neither 0 nor 2 change, and do not become 0 -/
def pl2 (S S' : SS) : Prop := ∀ i, S'.1 38 i = S.1 38 i ∨ (S.1 38 i ≠ 0 ∧ S.1 38 i ≠ 2 ∧ S'.1 38 i ≠ 0)
theorem JW_pl2 {n : Nat} {S S' : SS} (h : JW n S) (hf : fr S S') (hp : pl2 S S') : JW n S' := by
  intro t ht ha p hpn h3 h2
  rw [hf 3 (by decide) (by decide)] at h3
  rw [hf 2 (by decide) (by decide)] at h2
  have ha' : S.1 38 t ≠ 0 := by
    rcases hp t with e | e
    · rw [← e]; exact ha
    · exact e.1
  have := h t ht ha' p hpn h3 h2
  rcases hp p with e | e
  · rw [e]; exact this
  · exact absurd this e.2.1
theorem cd_2 {w l : Nat} (hw : w ≤ 4) (hl : l < w + 2) : cd w l ≠ 2 := by
  rw [cd_n]
  intro q
  have a1 := cdn_lt hw hl
  have q := (neq (b := 2) (by omega) (by omega)).mp q
  unfold cdn at q
  (repeat' split at q) <;> omega
theorem IV_turn {w n wk : Nat} (hk : wk < w) : ∀ f S, IV w n S → S.1 37 wk = -1 → IV w n (s_turn w wk f S).2 := by
  intro f
  induction f with
  | zero => intro S h _; exact h
  | succ f ih =>
    intro S h h37
    obtain ⟨hF, hJ, hR, hB⟩ := h
    have hw := hF.w4
    have hn := hF.le
    rcases take_tk hk S with h5 | ⟨t, S1, h5, htk⟩
    · unfold s_turn; rw [h5]; exact ⟨hF, hJ, hR, hB⟩
    · have htk' := htk
      obtain ⟨l0, L, a5, a6, a7, a8, a9, a10⟩ := htk'
      have hpl := ((hF.ln l0 a6).2 t).mp a7
      have ht := hpl.1
      have hnr : ∀ k, k < w → ∀ t', S.1 38 t' = nI (3 + k) → t' ≠ t := fun k hk t' q e => by
        subst e
        exact n3_cd hw hk a6 (q.symm.trans hpl.2)
      unfold s_turn
      rw [h5]
      show IV w n (if s_free S1 (S1.1 5 t) = true then _ else _ : Int32 × SS).2
      by_cases hfr : s_free S1 (S1.1 5 t) = true
      · rw [if_pos hfr]
        have hk1 := kp1_run (n := n) hw hk htk
        have r38 : ∀ i, (s_run S1 t wk).1 38 i = if i = t then nI (3 + wk) else S.1 38 i := fun i => by
          unfold s_run
          rw [sp_r, if_neg (by omega), sp_r, if_neg (by omega), sp_r]
          by_cases e : i = t
          · rw [if_pos ⟨rfl, e⟩, if_pos e]
          · rw [if_neg (fun q => e q.2), if_neg e, s_hold_at, if_neg (by omega), a10 38 i (by omega)]
        have r37 : ∀ k, (s_run S1 t wk).1 37 k = if k = wk then nI t else S.1 37 k := fun k => by
          unfold s_run
          rw [sp_r, if_neg (by omega), sp_r]
          by_cases e : k = wk
          · rw [if_pos ⟨rfl, e⟩, if_pos e]
          · rw [if_neg (fun q => e q.2), if_neg e, sp_r, if_neg (by omega), s_hold_at, if_neg (by omega), a10 37 k (by omega)]
        refine ⟨hF.k hk1, JW_pl2 hJ hk1.1 (fun i => ?_), fun k hk' => ?_, fun i hi => ?_⟩
        · rw [r38]
          by_cases e : i = t
          · rw [if_pos e, e, hpl.2]
            exact Or.inr ⟨cd_0 hw a6, cd_2 hw a6, n3_0 (by omega)⟩
          · rw [if_neg e]; exact Or.inl rfl
        · rw [r37]
          by_cases e : k = wk
          · rw [if_pos e]
            exact Or.inr ⟨t, ht, rfl, by rw [r38, if_pos rfl, e]⟩
          · rw [if_neg e]
            rcases hR k hk' with z | ⟨t', z1, z2, z3⟩
            · exact Or.inl z
            · exact Or.inr ⟨t', z1, z2, by rw [r38, if_neg (hnr k hk' t' z3)]; exact z3⟩
        · obtain ⟨b1, b2, b3⟩ := hB i hi
          refine ⟨by rw [r38, if_neg (by omega)]; exact b1, ?_, ?_⟩
          · unfold s_run
            rw [sp_r, if_neg (by omega), sp_r, if_neg (by omega), sp_r, if_neg (by omega), s_hold_at, if_neg (by omega), a10 39 i (by omega)]
            exact b2
          · unfold s_run
            rw [sp_r, if_neg (by omega), sp_r, if_neg (by omega), sp_r, if_neg (by omega), s_hold_at, if_neg (by omega), a10 40 i (by omega)]
            exact b3
      · rw [if_neg hfr]
        have hk1 := kp1_park (n := n) hw htk
        have r38 : ∀ i, (s_park S1 t).1 38 i = if i = t then 1 else S.1 38 i := fun i => by
          show mp S1.1 38 t 1 38 i = _
          rw [mp_at]
          by_cases e : i = t
          · rw [if_pos ⟨rfl, e⟩, if_pos e]
          · rw [if_neg (fun q => e q.2), if_neg e, a10 38 i (by omega)]
        have r37 : ∀ k, (s_park S1 t).1 37 k = S.1 37 k := fun k => by
          show mp S1.1 38 t 1 37 k = _
          rw [mp_at, if_neg (by omega), a10 37 k (by omega)]
        refine ih (s_park S1 t) ⟨hF.k hk1, JW_pl2 hJ hk1.1 (fun i => ?_), fun k hk' => ?_, fun i hi => ?_⟩ (by rw [r37]; exact h37)
        · rw [r38]
          by_cases e : i = t
          · rw [if_pos e, e, hpl.2]
            exact Or.inr ⟨cd_0 hw a6, cd_2 hw a6, by decide⟩
          · rw [if_neg e]; exact Or.inl rfl
        · rw [r37]
          rcases hR k hk' with z | ⟨t', z1, z2, z3⟩
          · exact Or.inl z
          · exact Or.inr ⟨t', z1, z2, by rw [r38, if_neg (hnr k hk' t' z3)]; exact z3⟩
        · obtain ⟨b1, b2, b3⟩ := hB i hi
          refine ⟨by rw [r38, if_neg (by omega)]; exact b1, ?_, ?_⟩
          · show mp S1.1 38 t 1 39 i = 0
            rw [mp_at, if_neg (by omega), a10 39 i (by omega)]; exact b2
          · show mp S1.1 38 t 1 40 i = 0
            rw [mp_at, if_neg (by omega), a10 40 i (by omega)]; exact b3
theorem IV_begin {w n : Nat} {S : SS} (h : IV w n S) (x : Int32) : IV w n (s_begin w S x).2 := by
  unfold s_begin
  by_cases hc : S.1 0 10 = 0 ∨ ¬ isT w x = true ∨ S.1 37 (tn x) ≠ -1
  · rw [if_pos hc]; exact h
  · rw [if_neg hc]
    have h1 : isT w x = true := Classical.byContradiction fun q => hc (Or.inr (Or.inl q))
    have hw := h.1.w4
    obtain ⟨k, hk, rfl⟩ := isT_of (by omega) h1
    have h2 : S.1 37 (tn (nI k)) = -1 := Classical.byContradiction fun q => hc (Or.inr (Or.inr q))
    rw [tnI (by omega)] at h2 ⊢
    exact IV_turn hk 24 S h h2
theorem leave_at {w : Nat} (S : SS) (t wk : Nat) (k i : Nat) : (s_leave w S t wk).1 k i = if k = 38 ∧ i ∈ S.2 0 ∧ ¬ S.1 5 i &&& S.1 5 t = 0 then 20 else if k = 36 ∧ i < 4 ∧ nb (S.1 5 t) i = true then S.1 36 i - 1 else if k = 37 ∧ i = wk then -1 else S.1 k i := by
  unfold s_leave
  show (s_rdy w (S.1 5 t) (s_give (sp S 37 wk (-1)) (S.1 5 t) 4) ((s_give (sp S 37 wk (-1)) (S.1 5 t) 4).2 0)).1 k i = _
  rw [(rdy_at _ _ _ _).1, s_give_l, sp_l, s_give_at (sp S 37 wk (-1)) (S.1 5 t) 4 5 i, if_neg (show ¬ (5 = 36 ∧ i < 4 ∧ nb (S.1 5 t) i = true) by omega), sp_r, if_neg (show ¬ (5 = 37 ∧ i = wk) by omega), s_give_at, sp_r S 37 wk (-1) 36 i, if_neg (show ¬ (36 = 37 ∧ i = wk) by omega), sp_r]
theorem leave_l {w : Nat} (S : SS) (t wk : Nat) (l : Nat) : (s_leave w S t wk).2 l = if l = 0 then (S.2 0).filter (fun i => decide (S.1 5 i &&& S.1 5 t = 0)) else if l = w + 1 then S.2 l ++ (S.2 0).filter (fun i => decide (¬ S.1 5 i &&& S.1 5 t = 0)) else S.2 l := by
  have e5 : ∀ i, (s_give (sp S 37 wk (-1)) (S.1 5 t) 4).1 5 i = S.1 5 i := fun i => by
    rw [s_give_at, if_neg (by omega), sp_r, if_neg (by omega)]
  unfold s_leave
  show va_up (s_rdy w (S.1 5 t) (s_give (sp S 37 wk (-1)) (S.1 5 t) 4) ((s_give (sp S 37 wk (-1)) (S.1 5 t) 4).2 0)).2 0 (((s_give (sp S 37 wk (-1)) (S.1 5 t) 4).2 0).filter (fun i => decide ((s_give (sp S 37 wk (-1)) (S.1 5 t) 4).1 5 i &&& S.1 5 t = 0))) l = _
  unfold va_up
  rw [(rdy_at _ _ _ _).2, s_give_l, sp_l]
  simp only [e5]
/-- what is true of the state in which t has left its body -/
def LV (w n : Nat) (S : SS) (t wk : Nat) : Prop := WF w n S ∧ RU w n S ∧ BH n S ∧ t < n ∧ wk < w ∧ S.1 38 t = nI (3 + wk) ∧ ∀ k, k < w → S.1 37 k ≠ nI t
theorem LV_leave {w n : Nat} {S : SS} (h : IV w n S) {t wk : Nat} (hk : wk < w) (ht : t < n) (hr : S.1 37 wk = nI t) : LV w n (s_leave w S t wk) t wk ∧ JW n (s_leave w S t wk) := by
  obtain ⟨hF, hJ, hR, hB⟩ := h
  have hw := hF.w4
  have hn := hF.le
  have hpt : S.1 38 t = nI (3 + wk) := by
    rcases hR wk hk with e | ⟨t', z1, z2, z3⟩
    · rw [hr] at e; exact absurd e (nm1 (by omega))
    · rw [hr] at z2
      rw [(neq (by omega) (by omega)).mp z2]
      exact z3
  have h0 := hF.ln 0 (by omega)
  have e1 : cd w 0 = 1 := by unfold cd; rw [if_pos rfl]
  have r38 : ∀ i, (s_leave w S t wk).1 38 i = S.1 38 i ∨ (S.1 38 i = 1 ∧ (s_leave w S t wk).1 38 i = 20) := fun i => by
    rw [leave_at]
    by_cases q : 38 = 38 ∧ i ∈ S.2 0 ∧ ¬ S.1 5 i &&& S.1 5 t = 0
    · rw [if_pos q]; exact Or.inr ⟨by rw [← e1]; exact ((h0.2 i).mp q.2.1).2, rfl⟩
    · rw [if_neg q, if_neg (by omega), if_neg (by omega)]; exact Or.inl rfl
  have r3 : ∀ i k, k < w → S.1 38 i = nI (3 + k) → (s_leave w S t wk).1 38 i = nI (3 + k) := fun i k hk' q => by
    rcases r38 i with e | e
    · rw [e]; exact q
    · rw [q] at e
      have := (neq (b := 1) (by omega) (by omega)).mp e.1
      omega
  have r37 : ∀ k, (s_leave w S t wk).1 37 k = if k = wk then -1 else S.1 37 k := fun k => by
    rw [leave_at, if_neg (by omega), if_neg (by omega)]
    by_cases e : k = wk
    · rw [if_pos ⟨rfl, e⟩, if_pos e]
    · rw [if_neg (fun q => e q.2), if_neg e]
  have hk1 := kp1_leave (n := n) hw S t wk
  refine ⟨⟨hF.k hk1, fun k hk' => ?_, fun i hi => ?_, ht, hk, r3 t wk hk hpt, fun k hk' => ?_⟩, JW_pl2 hJ hk1.1 (fun i => ?_)⟩
  · rw [r37]
    by_cases e : k = wk
    · rw [if_pos e]; exact Or.inl rfl
    · rw [if_neg e]
      rcases hR k hk' with z | ⟨t', z1, z2, z3⟩
      · exact Or.inl z
      · exact Or.inr ⟨t', z1, z2, r3 t' k hk' z3⟩
  · obtain ⟨b1, b2, b3⟩ := hB i hi
    refine ⟨?_, by rw [leave_at, if_neg (by omega), if_neg (by omega), if_neg (by omega)]; exact b2, by rw [leave_at, if_neg (by omega), if_neg (by omega), if_neg (by omega)]; exact b3⟩
    rcases r38 i with e | e
    · rw [e]; exact b1
    · rw [b1] at e; exact absurd e.1 (by decide)
  · rw [r37]
    by_cases e : k = wk
    · rw [if_pos e]; exact fun q => nm1 (by omega) q.symm
    · rw [if_neg e]
      intro q
      rcases hR k hk' with z | ⟨t', z1, z2, z3⟩
      · rw [q] at z; exact nm1 (by omega) z
      · rw [q] at z2
        have := (neq (by omega) (by omega)).mp z2
        subst this
        rw [hpt] at z3
        have := (neq (by omega) (by omega)).mp z3
        omega
  · rcases r38 i with e | e
    · exact Or.inl e
    · exact Or.inr ⟨by rw [e.1]; decide, by rw [e.1]; decide, by rw [e.2]; decide⟩
theorem LV_tf {w n : Nat} {S S' : SS} {t wk : Nat} (h : LV w n S t wk) (hk : kp1 w n S S') (hf : tf n S S') : LV w n S' t wk := by
  obtain ⟨hF, hR, hB, ht, hwk, hp, hu⟩ := h
  have hw := hF.w4
  refine ⟨hF.k hk, RU_tf hw hR hf, BH_tf hB hf, ht, hwk, by rw [hf.2.2.2.1 t (by rw [hp]; exact n3_0 (by omega))]; exact hp, fun k hk' => by rw [hf.1 37 (by decide) (by decide)]; exact hu k hk'⟩
/-- as JW, but for one parent -/
def JX (n : Nat) (S : SS) (e : Nat) : Prop := ∀ t, t < n → S.1 38 t ≠ 0 → ∀ p, p < n → S.1 3 t = nI p → S.1 2 p = 2 → S.1 38 p = 2 ∨ p = e
theorem JX_tok {w n : Nat} {S : SS} {e : Nat} (h : JX n S e) {t l : Nat} (hp : ∀ p, p < n → S.1 3 t = nI p → p = e) : JX n (s_token w S t l) e := by
  intro t' ht' ha p hpn h3 h2
  have hf := fr_token w S t l
  rw [hf 3 (by decide) (by decide)] at h3
  rw [hf 2 (by decide) (by decide)] at h2
  by_cases q : t' = t
  · subst q; exact Or.inr (hp p hpn h3)
  · rw [tok_38, if_neg (fun z => q z.1)] at ha
    rcases h t' ht' ha p hpn h3 h2 with z | z
    · exact Or.inl (by rw [up38_tok w S t l p (by rw [z]; decide)]; exact z)
    · exact Or.inr z
theorem JX_srcs {w n : Nat} (hn : n ≤ 24) {l : Nat} {S : SS} {e : Nat} (he : e < n) (hj : JX n S e) : ∀ m, m ≤ n → JX n (s_srcs w (nI e) l S m) e := by
  intro m
  induction m with
  | zero => intro _; exact hj
  | succ m ih =>
    intro hm
    unfold s_srcs
    by_cases q : S.1 3 m = nI e ∧ S.1 7 m = 0
    · rw [if_pos q]
      refine JX_tok (ih (by omega)) (fun p hp h3 => ?_)
      rw [fr_srcs w (nI e) l S m 3 (by decide) (by decide), q.1] at h3
      exact ((neq (by omega) (by omega)).mp h3).symm
    · rw [if_neg q]; exact ih (by omega)
theorem JX_spawn {w n : Nat} (hn : n ≤ 24) {S : SS} {t l : Nat} (ht : t < n) (hj : JW n S) : JX n (s_spawn w n S t l) t := by
  have h1 : (sp S 41 t 0).1 38 = S.1 38 := sp_ne S 41 t 0 38 (by decide)
  have hk2 := kp1_arr0 (w := w) (n := n) (nI t) (sp S 41 t 0) n
  have h2 : ∀ m, (s_arr0 (nI t) (sp S 41 t 0) m).1 38 = S.1 38 := by
    intro m
    induction m with
    | zero => exact h1
    | succ m ih =>
      unfold s_arr0
      by_cases q : (sp S 41 t 0).1 3 m = nI t
      · rw [if_pos q, sp_ne _ 39 m 0 38 (by decide)]; exact ih
      · rw [if_neg q]; exact ih
  have h3 : JW n (s_arr0 (nI t) (sp S 41 t 0) n) := JW_eq hj ((fr.sp S (k := 41) (by decide) t 0).tr hk2.1) (h2 n)
  exact JX_srcs hn ht (fun t' a b p c d e => Or.inl (h3 t' a b p c d e)) n (Nat.le_refl _)
theorem fin1_inv {w n : Nat} {S : SS} {t wk : Nat} (h : LV w n S t wk) (hj : JW n S) : LV w n (s_fin1 w n S t wk) t wk ∧ JX n (s_fin1 w n S t wk) t := by
  have hw := h.1.w4
  unfold s_fin1
  by_cases q : S.1 0 11 = 0 ∧ (S.1 2 t = 2 ∨ S.1 2 t = 3)
  · rw [if_pos q]
    exact ⟨LV_tf h (kp1_spawn hw S t (Nat.le_of_lt h.2.2.2.2.1)) (tf_spawn w S t wk), JX_spawn h.1.le h.2.2.2.1 hj⟩
  · rw [if_neg q]
    exact ⟨h, fun t' a b p c d e => Or.inl (hj t' a b p c d e)⟩
theorem JW_of_JX {n : Nat} {S : SS} {e : Nat} (h : JX n S e) (hc : S.1 2 e = 2 → ∀ t, t < n → S.1 3 t = nI e → S.1 38 t = 0) : JW n S := by
  intro t ht ha p hp h3 h2
  rcases h t ht ha p hp h3 h2 with q | q
  · exact q
  · subst q; exact absurd (hc h2 t ht h3) ha
theorem LV_PE {w n : Nat} {S : SS} {t wk : Nat} (h : LV w n S t wk) (hc : S.1 2 t = 2 → ∀ t', t' < n → S.1 3 t' = nI t → S.1 38 t' = 0) : PE w n S t := by
  obtain ⟨hF, hR, hB, ht, hwk, hp, hu⟩ := h
  exact ⟨ht, by rw [hp]; have := hF.w4; exact n3_0 (by omega), fun l hl => by rw [hp]; exact n3_cd hF.w4 hwk hl, hc⟩
theorem IV_end {w n : Nat} {S : SS} {t wk : Nat} (h : LV w n S t wk) (hj : JW n S) (hP : PE w n S t) (c : Int32) (fl : Bool) : IV w n (s_end w n c wk 4 S t fl).2 := by
  have hl := Nat.le_of_lt h.2.2.2.2.1
  have h1 := end_inv c hl 4 S t fl h.1 hj hP
  have h2 := ef_end c hl 4 S t fl h.1 hj hP
  exact ⟨h.1.k h1.1, h1.2, RU_ef h.1.w4 h.2.1 h2 h.2.2.2.2.2.2, BH_ef h.2.2.1 h2⟩
theorem fin2_PE {w n : Nat} {S : SS} {t wk : Nat} (h : LV w n S t wk) (hj : JX n S t) (hq : ¬ (S.1 2 t = 2 ∧ s_act n S (nI t) = true)) : PE w n S t ∧ JW n S := by
  have hc : S.1 2 t = 2 → ∀ t', t' < n → S.1 3 t' = nI t → S.1 38 t' = 0 := fun h2 t' ht' h3 => Classical.byContradiction fun z => hq ⟨h2, by rw [s_act_iff]; exact ⟨t', ht', h3, z⟩⟩
  exact ⟨LV_PE h hc, JW_of_JX hj hc⟩
theorem IV_fin2 {w n : Nat} {S : SS} {t wk : Nat} (h : LV w n S t wk) (hj : JX n S t) (c : Int32) : IV w n (s_fin2 w n S t wk c).2 := by
  unfold s_fin2
  by_cases q : S.1 2 t = 2 ∧ s_act n S (nI t) = true
  · rw [if_pos q]
    obtain ⟨hF, hR, hB, ht, hwk, hp, hu⟩ := h
    have hw := hF.w4
    have hf := fr.sp S (k := 38) (by decide) t 2
    refine ⟨hF.k ⟨hf, by rw [sp_r, if_neg (by omega)], fun hL l hl => ⟨(hL l hl).1, fun x => ?_⟩⟩, fun t' ht' ha p hpn h3 h2 => ?_, fun k hk => ?_, fun i hi => ?_⟩
    · rw [show (sp S 38 t 2).2 l = S.2 l from rfl, (hL l hl).2, sp_r]
      by_cases e : x = t
      · subst e
        rw [if_pos ⟨rfl, rfl⟩, hp]
        exact ⟨fun z => absurd z.2 (n3_cd hw hwk hl), fun z => absurd z.2.symm (cd_2 hw hl)⟩
      · rw [if_neg (fun z => e z.2)]
    · rw [hf 3 (by decide) (by decide)] at h3
      rw [hf 2 (by decide) (by decide)] at h2
      rw [sp_r] at ha ⊢
      by_cases e : p = t
      · rw [if_pos ⟨rfl, e⟩]
      · rw [if_neg (fun z => e z.2)]
        have ha' : S.1 38 t' ≠ 0 := by
          by_cases e2 : t' = t
          · rw [e2, hp]; exact n3_0 (by omega)
          · rw [if_neg (fun z => e2 z.2)] at ha; exact ha
        exact (hj t' ht' ha' p hpn h3 h2).resolve_right e
    · rw [sp_ne S 38 t 2 37 (by decide)]
      rcases hR k hk with z | ⟨t', z1, z2, z3⟩
      · exact Or.inl z
      · exact Or.inr ⟨t', z1, z2, by rw [sp_r, if_neg (fun y => hu k hk (by rw [z2, y.2]))]; exact z3⟩
    · obtain ⟨b1, b2, b3⟩ := hB i hi
      exact ⟨by rw [sp_r, if_neg (by omega)]; exact b1, by rw [sp_r, if_neg (by omega)]; exact b2, by rw [sp_r, if_neg (by omega)]; exact b3⟩
  · rw [if_neg q]
    obtain ⟨h1, h2⟩ := fin2_PE h hj q
    exact IV_close (IV_end h h2 h1 c false)
theorem run_of {w n : Nat} {S : SS} (h : RU w n S) (hn : n ≤ 24) {k : Nat} (hk : k < w) (hr : ¬ S.1 37 k = -1) : tn (S.1 37 k) < n ∧ S.1 37 k = nI (tn (S.1 37 k)) := by
  rcases h k hk with e | ⟨t, h1, h2, -⟩
  · exact absurd e hr
  · rw [h2, tnI (by omega)]; exact ⟨h1, rfl⟩
theorem IV_finish {w n : Nat} {S : SS} (h : IV w n S) (x c : Int32) : IV w n (s_finish w n S x c).2 := by
  unfold s_finish
  by_cases hc : ¬ isT w x = true ∨ S.1 37 (tn x) = -1
  · rw [if_pos hc]; exact h
  · rw [if_neg hc]
    have h1 : isT w x = true := Classical.byContradiction fun q => hc (Or.inl q)
    have hw := h.1.w4
    obtain ⟨k, hk, rfl⟩ := isT_of (by omega) h1
    have h2 : ¬ S.1 37 (tn (nI k)) = -1 := fun q => hc (Or.inr q)
    rw [tnI (by omega)] at h2 ⊢
    obtain ⟨g1, g2⟩ := run_of h.2.2.1 h.1.le hk h2
    obtain ⟨i1, i2⟩ := LV_leave h hk g1 g2
    obtain ⟨j1, j2⟩ := fin1_inv i1 i2
    exact IV_fin2 j1 j2 c
theorem fai1_inv {w n : Nat} {S : SS} {t wk : Nat} (h : LV w n S t wk) (hj : JW n S) : LV w n (s_fai1 S t) t wk ∧ JW n (s_fai1 S t) ∧ PE w n (s_fai1 S t) t := by
  have key : LV w n (s_fai1 S t) t wk ∧ JW n (s_fai1 S t) := by
    unfold s_fai1
    by_cases q : S.1 0 12 = -1
    · rw [if_pos q]
      obtain ⟨hF, hR, hB, ht, hwk, hp, hu⟩ := h
      obtain ⟨i1, i2, i3, i4⟩ := IV_sp0 ⟨hF, hj, hR, hB⟩ (i := 12) (by decide) (nI t)
      exact ⟨⟨i1, i3, i4, ht, hwk, by rw [sp_r, if_neg (by omega)]; exact hp, fun k hk => by rw [sp_r, if_neg (by omega)]; exact hu k hk⟩, i2⟩
    · rw [if_neg q]; exact ⟨h, hj⟩
  refine ⟨key.1, key.2, LV_PE key.1 (fun h2 t' ht' h3 => Classical.byContradiction fun z => ?_)⟩
  have hw := h.1.w4
  have hwk := h.2.2.2.2.1
  have := key.2 t' ht' z t h.2.2.2.1 h3 h2
  rw [key.1.2.2.2.2.2.1] at this
  exact n3_2 (by omega) this
theorem IV_fail {w n : Nat} {S : SS} (h : IV w n S) (x : Int32) : IV w n (s_fail w n S x).2 := by
  unfold s_fail
  by_cases hc : ¬ isT w x = true ∨ S.1 37 (tn x) = -1
  · rw [if_pos hc]; exact h
  · rw [if_neg hc]
    have h1 : isT w x = true := Classical.byContradiction fun q => hc (Or.inl q)
    have hw := h.1.w4
    obtain ⟨k, hk, rfl⟩ := isT_of (by omega) h1
    have h2 : ¬ S.1 37 (tn (nI k)) = -1 := fun q => hc (Or.inr q)
    rw [tnI (by omega)] at h2 ⊢
    obtain ⟨g1, g2⟩ := run_of h.2.2.1 h.1.le hk h2
    obtain ⟨i1, i2⟩ := LV_leave h hk g1 g2
    obtain ⟨j1, j2, j3⟩ := fai1_inv i1 i2
    exact IV_close (IV_end j1 j2 j3 (-1) true)
