/-! What is true between two calls, all of it -/
def BG (S : SS) : Prop := (S.1 0 14 = 0 ↔ S.1 0 13 = 0) ∧ (S.1 0 10 ≠ 0 → S.1 0 14 ≠ 0)
def NB (n : Nat) (S : SS) : Prop := NU n S ∧ BG S
theorem BG_q {S S' : SS} (h : BG S) (e0 : S'.1 0 10 = S.1 0 10) (e3 : S'.1 0 13 = S.1 0 13) (e4 : S'.1 0 14 = S.1 0 14) : BG S' := by
  unfold BG
  rw [e0, e3, e4]
  exact h
theorem NB_on {n : Nat} {S : SS} (h : BG S) (h10 : S.1 0 10 ≠ 0) : NB n S := ⟨fun q => absurd q h10, h⟩
theorem any_0 {n : Nat} {S : SS} (h : ¬ s_any n S = true) : ∀ t, t < n → S.1 38 t = 0 := fun t ht => Classical.byContradiction fun q => h (by
  unfold s_any
  exact List.any_eq_true.mpr ⟨t, List.mem_range.mpr ht, decide_eq_true q⟩)
theorem round_0 {w n : Nat} (S : SS) (i : Nat) (hi : i ≠ 15) : (s_round w n S).1 0 i = (sp S 0 14 (S.1 0 14 + 1)).1 0 i := by
  unfold s_round
  rw [(tf_srcs w (-1) w (s_round0 S) n (Nat.le_refl n)).2.2.1 i hi]
  unfold s_round0
  rw [s_fill_at, if_neg (by omega)]
theorem NB_close {w n : Nat} {S : SS} (hO : RO S) (hB : BG S) (h10 : S.1 0 10 ≠ 0) : NB n (s_close w n S) := by
  unfold s_close
  by_cases h1 : s_any n S = true
  · rw [if_pos h1]; exact NB_on hB h10
  · rw [if_neg h1]
    by_cases h2 : S.1 0 11 ≠ 0 ∨ S.1 0 12 ≠ -1 ∨ ¬ S.1 0 14 < S.1 0 13
    · rw [if_pos h2]
      refine ⟨fun _ t ht => ?_, ?_, fun q => absurd ?_ q⟩
      · rw [sp_r, if_neg (by omega)]; exact any_0 h1 t ht
      · rw [sp_r, if_neg (by omega), sp_r, if_neg (by omega)]; exact hB.1
      · rw [sp_r, if_pos ⟨rfl, rfl⟩]
    · rw [if_neg h2]
      obtain ⟨r, q, hrq, hq9, er, eq'⟩ := hO
      have hlt : S.1 0 14 < S.1 0 13 := Classical.byContradiction fun z => h2 (Or.inr (Or.inr z))
      rw [er, eq'] at hlt
      have hl := (nlt (by omega) (by omega)).mp hlt
      have e14 : (s_round w n S).1 0 14 = nI (r + 1) := by rw [round_0 S 14 (by decide), sp_r, if_pos ⟨rfl, rfl⟩, er, nI_1]
      have e13 : (s_round w n S).1 0 13 = nI q := by rw [round_0 S 13 (by decide), sp_r, if_neg (by omega), eq']
      have e10 : (s_round w n S).1 0 10 = S.1 0 10 := by rw [round_0 S 10 (by decide), sp_r, if_neg (by omega)]
      have n14 : ¬ nI (r + 1) = 0 := nI_ne0 (by omega) (by omega)
      have n13 : ¬ nI q = 0 := nI_ne0 (by omega) (by omega)
      refine NB_on ⟨?_, fun _ => ?_⟩ (by rw [e10]; exact h10)
      · rw [e14, e13]; exact ⟨fun z => absurd z n14, fun z => absurd z n13⟩
      · rw [e14]; exact n14
theorem on_run {w n : Nat} {S : SS} (hI : IV w n S) (h : NB n S) {k : Nat} (hk : k < w) (h2 : ¬ S.1 37 k = -1) : S.1 0 10 ≠ 0 := fun q => by
  have hw := hI.1.w4
  rcases hI.2.2.1 k hk with e | ⟨t', z1, z2, z3⟩
  · exact h2 e
  · have := h.1 q t' z1
    rw [z3] at this
    exact n3_0 (by omega) this
theorem NB_fin2 {w n : Nat} {S : SS} {t wk : Nat} (hL : LV w n S t wk) (hj : JX n S t) (hQ : IQ w n S t) (hB : BG S) (h10 : S.1 0 10 ≠ 0) (c : Int32) : NB n (s_fin2 w n S t wk c).2 := by
  unfold s_fin2
  by_cases q : S.1 2 t = 2 ∧ s_act n S (nI t) = true
  · rw [if_pos q]
    exact NB_on (BG_q hB (by rw [sp_r, if_neg (by omega)]) (by rw [sp_r, if_neg (by omega)]) (by rw [sp_r, if_neg (by omega)])) (by rw [sp_r, if_neg (by omega)]; exact h10)
  · rw [if_neg q]
    obtain ⟨h1, h2⟩ := fin2_PE hL hj q
    have f := ef_end c (Nat.le_of_lt hL.2.2.2.2.1) 4 S t false hL.1 h2 h1
    exact NB_close (RO_0q hQ.2.2.2.2 (f.2.2.1 13 (by decide)) (f.2.2.1 14 (by decide))) (BG_q hB (f.2.2.1 10 (by decide)) (f.2.2.1 13 (by decide)) (f.2.2.1 14 (by decide))) (by rw [f.2.2.1 10 (by decide)]; exact h10)
theorem NB_finish {w n : Nat} {S : SS} (hI : IV w n S) (hR : IR w n S) (h : NB n S) (x c : Int32) : NB n (s_finish w n S x c).2 := by
  unfold s_finish
  by_cases hc : ¬ isT w x = true ∨ S.1 37 (tn x) = -1
  · rw [if_pos hc]; exact h
  · rw [if_neg hc]
    have h1 : isT w x = true := Classical.byContradiction fun q => hc (Or.inl q)
    have hw := hI.1.w4
    obtain ⟨k, hk, rfl⟩ := isT_of (by omega) h1
    have h2 : ¬ S.1 37 (tn (nI k)) = -1 := fun q => hc (Or.inr q)
    rw [tnI (by omega)] at h2 ⊢
    have h10 := on_run hI h hk h2
    obtain ⟨g1, g2⟩ := run_of hI.2.2.1 hI.1.le hk h2
    obtain ⟨i1, i2⟩ := LV_leave hI hk g1 g2
    obtain ⟨j1, j2⟩ := fin1_inv i1 i2
    have hQ := IQ_fin1 i1 (IQ_leave hI hR hk g1 g2 (by
      rcases hI.2.2.1 k hk with e | ⟨t', z1, z2, z3⟩
      · exact absurd e h2
      · rw [z2, tnI (by have := hI.1.le; omega)]; exact z3))
    have e1 : ∀ i, (s_leave w S (tn (S.1 37 k)) k).1 0 i = S.1 0 i := fun i => by rw [leave_at, if_neg (by omega), if_neg (by omega), if_neg (by omega)]
    have e2 : ∀ i, i ≠ 15 → (s_fin1 w n (s_leave w S (tn (S.1 37 k)) k) (tn (S.1 37 k)) k).1 0 i = S.1 0 i := fun i hi => by
      unfold s_fin1
      by_cases z : (s_leave w S (tn (S.1 37 k)) k).1 0 11 = 0 ∧ ((s_leave w S (tn (S.1 37 k)) k).1 2 (tn (S.1 37 k)) = 2 ∨ (s_leave w S (tn (S.1 37 k)) k).1 2 (tn (S.1 37 k)) = 3)
      · rw [if_pos z, (tf_spawn (n := n) w (s_leave w S (tn (S.1 37 k)) k) (tn (S.1 37 k)) k).2.2.1 i hi, e1]
      · rw [if_neg z, e1]
    exact NB_fin2 j1 j2 hQ (BG_q h.2 (e2 10 (by decide)) (e2 13 (by decide)) (e2 14 (by decide))) (by rw [e2 10 (by decide)]; exact h10) c
theorem NB_fail {w n : Nat} {S : SS} (hI : IV w n S) (hR : IR w n S) (h : NB n S) (x : Int32) : NB n (s_fail w n S x).2 := by
  unfold s_fail
  by_cases hc : ¬ isT w x = true ∨ S.1 37 (tn x) = -1
  · rw [if_pos hc]; exact h
  · rw [if_neg hc]
    have h1 : isT w x = true := Classical.byContradiction fun q => hc (Or.inl q)
    have hw := hI.1.w4
    obtain ⟨k, hk, rfl⟩ := isT_of (by omega) h1
    have h2 : ¬ S.1 37 (tn (nI k)) = -1 := fun q => hc (Or.inr q)
    rw [tnI (by omega)] at h2 ⊢
    have h10 := on_run hI h hk h2
    obtain ⟨g1, g2⟩ := run_of hI.2.2.1 hI.1.le hk h2
    obtain ⟨i1, i2⟩ := LV_leave hI hk g1 g2
    obtain ⟨j1, j2, j3⟩ := fai1_inv i1 i2
    have e1 : ∀ i, (s_leave w S (tn (S.1 37 k)) k).1 0 i = S.1 0 i := fun i => by rw [leave_at, if_neg (by omega), if_neg (by omega), if_neg (by omega)]
    have e2 : ∀ i, i ≠ 12 → (s_fai1 (s_leave w S (tn (S.1 37 k)) k) (tn (S.1 37 k))).1 0 i = S.1 0 i := fun i hi => by
      unfold s_fai1
      by_cases z : (s_leave w S (tn (S.1 37 k)) k).1 0 12 = -1
      · rw [if_pos z, sp_r, if_neg (by omega), e1]
      · rw [if_neg z, e1]
    have f := ef_end (-1) (Nat.le_of_lt j1.2.2.2.2.1) 4 _ _ true j1.1 j2 j3
    have e3 : ∀ i, i ≠ 12 → i ≠ 15 → (s_end w n (-1) k 4 (s_fai1 (s_leave w S (tn (S.1 37 k)) k) (tn (S.1 37 k))) (tn (S.1 37 k)) true).2.1 0 i = S.1 0 i := fun i a b => (f.2.2.1 i b).trans (e2 i a)
    exact NB_close (RO_0q hR.2.2.2.2 (e3 13 (by decide) (by decide)) (e3 14 (by decide) (by decide))) (BG_q h.2 (e3 10 (by decide) (by decide)) (e3 13 (by decide) (by decide)) (e3 14 (by decide) (by decide))) (by rw [e3 10 (by decide) (by decide)]; exact h10)
theorem NB_cancel {w n : Nat} {S : SS} (hR : IR w n S) (h : NB n S) : NB n (s_cancel w n S).2 := by
  unfold s_cancel
  by_cases q : S.1 0 10 = 0 ∨ S.1 0 11 ≠ 0
  · rw [if_pos q]; exact h
  · rw [if_neg q]
    have h10 : S.1 0 10 ≠ 0 := fun z => q (Or.inl z)
    have e : ∀ i, i ≠ 11 → (s_ecw n n (s_drop w n (sp S 0 11 1)).2).1 0 i = S.1 0 i := fun i hi => by
      rw [(ecw_row n n _).1 0 (by decide)]
      show (s_drp (sp S 0 11 1) n).2.1 0 i = _
      rw [s_drp_at, if_neg (by omega), sp_r, if_neg (by omega)]
    exact NB_close (RO_0q hR.2.2.2.2 (e 13 (by decide)) (e 14 (by decide))) (BG_q h.2 (e 10 (by decide)) (e 13 (by decide)) (e 14 (by decide))) (by rw [e 10 (by decide)]; exact h10)
theorem NB_start {w n : Nat} {S : SS} (h : NB n S) (x ck : Int32) : NB n (s_start w n S x ck).2 := by
  unfold s_start
  by_cases q : S.1 0 10 ≠ 0 ∨ x < 1 ∨ 9 < x ∨ ck ≠ 0
  · rw [if_pos q]; exact h
  · rw [if_neg q]
    have hx1 : ¬ x < 1 := fun z => q (Or.inr (Or.inl z))
    have e10 : (s_st0 S x).1 0 10 = 1 := by
      unfold s_st0
      rw [s_fill_at, if_neg (by omega), sp_r, if_neg (by omega), sp_r, if_neg (by omega), sp_r, if_neg (by omega), sp_r, if_neg (by omega), sp_r, if_neg (by omega), sp_r, if_neg (by omega), sp_r, if_pos ⟨rfl, rfl⟩]
    have e13 : (s_st0 S x).1 0 13 = x := by
      unfold s_st0
      rw [s_fill_at, if_neg (by omega), sp_r, if_neg (by omega), sp_r, if_neg (by omega), sp_r, if_neg (by omega), sp_r, if_pos ⟨rfl, rfl⟩]
    have e14 : (s_st0 S x).1 0 14 = 0 := by
      unfold s_st0
      rw [s_fill_at, if_neg (by omega), sp_r, if_neg (by omega), sp_r, if_neg (by omega), sp_r, if_pos ⟨rfl, rfl⟩]
    have f10 : (s_round w n (s_st0 S x)).1 0 10 = 1 := by rw [round_0 _ 10 (by decide), sp_r, if_neg (by omega), e10]
    have f13 : (s_round w n (s_st0 S x)).1 0 13 = x := by rw [round_0 _ 13 (by decide), sp_r, if_neg (by omega), e13]
    have f14 : (s_round w n (s_st0 S x)).1 0 14 = 1 := by rw [round_0 _ 14 (by decide), sp_r, if_pos ⟨rfl, rfl⟩, e14]; rfl
    have nx : ¬ x = 0 := fun z => hx1 (by rw [z]; decide)
    refine NB_on ⟨?_, fun _ => ?_⟩ (by rw [f10]; decide)
    · rw [f14, f13]; exact ⟨fun z => absurd z (by decide), fun z => absurd z nx⟩
    · rw [f14]; decide
theorem turn_0 {w wk : Nat} (hk : wk < w) (i : Nat) (hi : i ≠ 16) : ∀ f (S : SS), (s_turn w wk f S).2.1 0 i = S.1 0 i := by
  intro f
  induction f with
  | zero => intro S; rfl
  | succ f ih =>
    intro S
    rcases take_tk hk S with h5 | ⟨t, S1, h5, htk⟩
    · unfold s_turn; rw [h5]
    · obtain ⟨l0, L, a5, a6, a7, a8, a9, a10⟩ := htk
      unfold s_turn
      rw [h5]
      show (if s_free S1 (S1.1 5 t) = true then _ else _ : Int32 × SS).2.1 0 i = _
      by_cases hfr : s_free S1 (S1.1 5 t) = true
      · rw [if_pos hfr]
        show (s_run S1 t wk).1 0 i = _
        unfold s_run
        rw [sp_r, if_neg (by omega), sp_r, if_neg (by omega), sp_r, if_neg (by omega), s_hold_at, if_neg (by omega), a10 0 i (by omega)]
      · rw [if_neg hfr, ih]
        show mp S1.1 38 t 1 0 i = _
        rw [mp_at, if_neg (by omega), a10 0 i (by omega)]
theorem IR_turn {w n wk : Nat} (hk : wk < w) : ∀ f (S : SS), IV w n S → IR w n S → S.1 37 wk = -1 → IR w n (s_turn w wk f S).2 := by
  intro f
  induction f with
  | zero => intro S _ h _; exact h
  | succ f ih =>
    intro S hI hR h37
    have hF := hI.1
    have hw := hF.w4
    have hn := hF.le
    rcases take_tk hk S with h5 | ⟨t, S1, h5, htk⟩
    · unfold s_turn; rw [h5]; exact hR
    · have htk' := htk
      obtain ⟨l0, L, a5, a6, a7, a8, a9, a10⟩ := htk'
      have hpl := ((hF.ln l0 a6).2 t).mp a7
      have ht := hpl.1
      have hIp := IV_turn hk 1 S hI h37
      obtain ⟨h1, h2, h3, h4, h6⟩ := hR
      unfold s_turn at hIp ⊢
      rw [h5] at hIp ⊢
      have hIp : IV w n (if s_free S1 (S1.1 5 t) = true then (nI t, s_run S1 t wk) else s_turn w wk 0 (s_park S1 t) : Int32 × SS).2 := hIp
      show IR w n (if s_free S1 (S1.1 5 t) = true then _ else _ : Int32 × SS).2
      by_cases hfr : s_free S1 (S1.1 5 t) = true
      · rw [if_pos hfr]
        have hk1 := kp1_run (n := n) hw hk htk
        have r38 : ∀ i, (s_run S1 t wk).1 38 i = if i = t then nI (3 + wk) else S.1 38 i := fun i => by
          unfold s_run
          rw [sp_r, if_neg (by omega), sp_r, if_neg (by omega), sp_r]
          by_cases e : i = t
          · rw [if_pos ⟨rfl, e⟩, if_pos e]
          · rw [if_neg (fun q => e q.2), if_neg e, s_hold_at, if_neg (by omega), a10 38 i (by omega)]
        have r37 : ∀ k, (s_run S1 t wk).1 37 k = if k = wk then nI t else S.1 37 k := fun k => by
          unfold s_run
          rw [sp_r, if_neg (by omega), sp_r]
          by_cases e : k = wk
          · rw [if_pos ⟨rfl, e⟩, if_pos e]
          · rw [if_neg (fun q => e q.2), if_neg e, sp_r, if_neg (by omega), s_hold_at, if_neg (by omega), a10 37 k (by omega)]
        have r36 : ∀ s, s < 4 → (s_run S1 t wk).1 36 s = if nb (S.1 5 t) s = true then S.1 36 s + 1 else S.1 36 s := fun s hs => by
          unfold s_run
          rw [sp_r, if_neg (by omega), sp_r, if_neg (by omega), sp_r, if_neg (by omega), s_hold_at, a10 5 t (by omega), a10 36 s (by omega)]
          by_cases q : nb (S.1 5 t) s = true
          · rw [if_pos ⟨rfl, hs, q⟩, if_pos q]
          · rw [if_neg (fun z => q z.2.2), if_neg q]
        have r5 : ∀ i, (s_run S1 t wk).1 5 i = S.1 5 i := fun i => by
          unfold s_run
          rw [sp_r, if_neg (by omega), sp_r, if_neg (by omega), sp_r, if_neg (by omega), s_hold_at, if_neg (by omega), a10 5 i (by omega)]
        have r0 : ∀ i, i ≠ 16 → (s_run S1 t wk).1 0 i = S.1 0 i := fun i hi => by
          unfold s_run
          rw [sp_r, if_neg (by omega), sp_r, if_neg (by omega), sp_r, if_neg (by omega), s_hold_at, if_neg (by omega), a10 0 i (by omega)]
        have hRt : isR w S t = false := isR_cd hw a6 hpl.2
        refine ⟨fun i hi k hk' q => ?_, fun s hs => ?_, CP_fr h3 hk1.1, TH_0q h4 (r0 12 (by decide)), RO_0q h6 (r0 13 (by decide)) (r0 14 (by decide))⟩
        · left
          rw [r38] at q
          rw [r37]
          by_cases e : i = t
          · rw [if_pos e] at q
            have := (neq (by omega) (by omega)).mp q
            rw [if_pos (by omega), e]
          · rw [if_neg e] at q
            have z := (h1 i hi k hk' q).resolve_right (by simp)
            rw [if_neg (fun y => ?_)]
            · exact z
            · rw [y, h37] at z
              exact absurd z.symm (nm1 (by omega))
        · have key : hu w n (s_run S1 t wk) none s = hu w n S none s + if nb (S.1 5 t) s = true then 1 else 0 := by
            have hRt2 : isR w (s_run S1 t wk) t = true := by rw [isR_iff]; exact ⟨wk, hk, by rw [r38, if_pos rfl]⟩
            unfold hu
            rw [cN_one (t := t) (q := fun i => isR w S i && decide ((none : Option Nat) ≠ some i) && nb (S.1 5 i) s) n ht]
            · congr 1
              have : (isR w (s_run S1 t wk) t && decide ((none : Option Nat) ≠ some t) && nb ((s_run S1 t wk).1 5 t) s) = nb (S.1 5 t) s := by rw [hRt2, r5]; simp
              rw [this]
            · intro i hi
              have : isR w (s_run S1 t wk) i = isR w S i := by unfold isR; rw [r38, if_neg hi]
              rw [this, r5]
            · rw [hRt]; simp
          rw [r36 s hs, key]
          by_cases q : nb (S.1 5 t) s = true
          · rw [if_pos q, if_pos q, h2 s hs, nI_1]
          · rw [if_neg q, if_neg q, h2 s hs, Nat.add_zero]
      · rw [if_neg hfr] at hIp ⊢
        have p38 : ∀ i, (s_park S1 t).1 38 i = if i = t then 1 else S.1 38 i := fun i => by
          show mp S1.1 38 t 1 38 i = _
          rw [mp_at]
          by_cases e : i = t
          · rw [if_pos ⟨rfl, e⟩, if_pos e]
          · rw [if_neg (fun q => e q.2), if_neg e, a10 38 i (by omega)]
        have pk : ∀ k i, k ≠ 38 → ¬ (k = 0 ∧ i = 16) → (s_park S1 t).1 k i = S.1 k i := fun k i h z => by
          show mp S1.1 38 t 1 k i = _
          rw [mp_at, if_neg (fun q => h q.1), a10 k i z]
        refine ih (s_park S1 t) hIp ⟨RV_nr h1 (funext fun i => pk 37 i (by decide) (by omega)) (fun i k hk' q => ?_), HU_park hw hF.2.2.2 htk h2, ?_, TH_0q h4 (pk 0 12 (by decide) (by omega)), RO_0q h6 (pk 0 13 (by decide) (by omega)) (pk 0 14 (by decide) (by omega))⟩ ((pk 37 wk (by decide) (by omega)).trans h37)
        · rw [p38] at q
          by_cases e : i = t
          · rw [if_pos e] at q
            have := (neq (a := 1) (by omega) (by omega)).mp q
            omega
          · rw [if_neg e] at q; exact q
        · intro s hs
          rw [pk 35 s (by decide) (by omega)]
          exact h3 s hs
theorem IR_begin {w n : Nat} {S : SS} (hI : IV w n S) (hR : IR w n S) (x : Int32) : IR w n (s_begin w S x).2 := by
  unfold s_begin
  by_cases hc : S.1 0 10 = 0 ∨ ¬ isT w x = true ∨ S.1 37 (tn x) ≠ -1
  · rw [if_pos hc]; exact hR
  · rw [if_neg hc]
    have h1 : isT w x = true := Classical.byContradiction fun q => hc (Or.inr (Or.inl q))
    have hw := hI.1.w4
    obtain ⟨k, hk, rfl⟩ := isT_of (by omega) h1
    have h2 : S.1 37 (tn (nI k)) = -1 := Classical.byContradiction fun q => hc (Or.inr (Or.inr q))
    rw [tnI (by omega)] at h2 ⊢
    exact IR_turn hk 24 S hI hR h2
theorem NB_begin {w n : Nat} {S : SS} (hI : IV w n S) (h : NB n S) (x : Int32) : NB n (s_begin w S x).2 := by
  unfold s_begin
  by_cases hc : S.1 0 10 = 0 ∨ ¬ isT w x = true ∨ S.1 37 (tn x) ≠ -1
  · rw [if_pos hc]; exact h
  · rw [if_neg hc]
    have h1 : isT w x = true := Classical.byContradiction fun q => hc (Or.inr (Or.inl q))
    have hw := hI.1.w4
    obtain ⟨k, hk, rfl⟩ := isT_of (by omega) h1
    have h10 : S.1 0 10 ≠ 0 := fun q => hc (Or.inl q)
    rw [tnI (by omega)]
    exact NB_on (BG_q h.2 (turn_0 hk 10 (by decide) 24 S) (turn_0 hk 13 (by decide) 24 S) (turn_0 hk 14 (by decide) 24 S)) (by rw [turn_0 hk 10 (by decide) 24 S]; exact h10)
/-- between two calls -/
def IA (w n : Nat) (S : SS) : Prop := IV w n S ∧ IR w n S ∧ NB n S
theorem IA_begin {w n : Nat} {S : SS} (h : IA w n S) (x : Int32) : IA w n (s_begin w S x).2 := ⟨IV_begin h.1 x, IR_begin h.1 h.2.1 x, NB_begin h.1 h.2.2 x⟩
theorem IA_finish {w n : Nat} {S : SS} (h : IA w n S) (x c : Int32) : IA w n (s_finish w n S x c).2 := ⟨IV_finish h.1 x c, IR_finish h.1 h.2.1 x c, NB_finish h.1 h.2.1 h.2.2 x c⟩
theorem IA_fail {w n : Nat} {S : SS} (h : IA w n S) (x : Int32) : IA w n (s_fail w n S x).2 := ⟨IV_fail h.1 x, IR_fail h.1 h.2.1 x, NB_fail h.1 h.2.1 h.2.2 x⟩
theorem IA_cancel {w n : Nat} {S : SS} (h : IA w n S) : IA w n (s_cancel w n S).2 := ⟨IV_cancel h.1, IR_cancel h.1.1.w4 h.2.1, NB_cancel h.2.1 h.2.2⟩
theorem IA_start {w n : Nat} {S : SS} (h : IA w n S) (x ck : Int32) : IA w n (s_start w n S x ck).2 := ⟨IV_start h.1 x ck, IR_start h.1.1.w4 h.2.1 x ck, NB_start h.2.2 x ck⟩
