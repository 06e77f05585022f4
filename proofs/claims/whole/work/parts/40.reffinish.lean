/-! The reference: finish, fail -/
theorem end_fuel {w n : Nat} (c : Int32) {l : Nat} (hl : l ≤ w) : ∀ (f : Nat) (S : SS) (t : Nat) (fl : Bool) (v : Nat), WF w n S → JW n S → PE w n S t → S.1 4 t = nI v → v < f → v ≤ 3 → s_end w n c l f S t fl = s_end w n c l (f + 1) S t fl := by
  intro f
  induction f with
  | zero => intro S t fl v _ _ _ _ h; exact absurd h (Nat.not_lt_zero _)
  | succ f ih =>
    intro S t fl v hF hJ hP hv hvf hv3
    obtain ⟨o1, o2, o3⟩ := out_inv hF hJ hP c hl fl
    obtain ⟨u1, u2, u3⟩ := up_inv (hF.k o1) o2 hP.1 o3 fl
    rw [s_end, s_end]
    cases hu : s_up n (s_out w c l S t fl) t fl with
    | mk o S1 =>
      rw [hu] at u1 u2 u3
      cases o with
      | none => rfl
      | some p =>
        have hp := u3 p rfl
        have hn := hF.le
        have e3 : S.1 3 t = nI p := by rw [← o1.1 3 (by decide) (by decide)]; exact hp.2
        have hpt := par_ne hF.g hP.1 hp.1.1 e3
        obtain ⟨v', v1, v2, v3⟩ := hF.g.lev t hP.1
        obtain ⟨u, hu1, hu2⟩ := v3 p hpt e3
        rw [hv] at v2
        have hvv := (neq (by omega) (by omega)).mp v2
        have e4 : S1.1 4 p = nI u := by rw [u1.1 4 (by decide) (by decide), o1.1 4 (by decide) (by decide)]; exact hu2
        have := ih S1 p (decide (S1.1 41 p ≠ 0)) u ((hF.k o1).k u1) u2 hp.1 e4 (by omega) (by omega)
        simp only []
        rw [this]
theorem end45 {w n : Nat} (c : Int32) {l : Nat} (hl : l ≤ w) {S : SS} {t : Nat} (fl : Bool) (hF : WF w n S) (hJ : JW n S) (hP : PE w n S t) : s_end w n c l 5 S t fl = s_end w n c l 4 S t fl := by
  obtain ⟨v, v1, v2, -⟩ := hF.g.lev t hP.1
  exact (end_fuel c hl 4 S t fl v hF hJ hP v2 (by omega) v1).symm
theorem s_out_c {w : Nat} (c c' : Int32) (l : Nat) (S : SS) (t : Nat) (fl : Bool) (h : fl = true ∨ S.1 2 t ≠ 1) : s_out w c l S t fl = s_out w c' l S t fl := by
  unfold s_out
  by_cases q : fl = false ∧ S.1 0 11 = 0
  · rw [if_pos q, if_pos q]
    have h2 : (sp S 38 t 0).1 2 t ≠ 1 := by
      rw [sp_r, if_neg (by omega)]
      rcases h with h | h
      · rw [q.1] at h; exact absurd h Bool.false_ne_true
      · exact h
    unfold s_pass
    rw [if_neg h2, if_neg h2]
  · rw [if_neg q, if_neg q]
theorem s_end_c {w n : Nat} (c c' : Int32) (l : Nat) : ∀ (f : Nat) (S : SS) (t : Nat) (fl : Bool), (fl = true ∨ S.1 2 t ≠ 1) → s_end w n c l f S t fl = s_end w n c' l f S t fl := by
  intro f
  induction f with
  | zero => intro S t fl _; rfl
  | succ f ih =>
    intro S t fl h
    rw [s_end, s_end, s_out_c c c' l S t fl h]
    cases hu : s_up n (s_out w c' l S t fl) t fl with
    | mk o S1 =>
      cases o with
      | none => rfl
      | some p =>
        have hk : S1.1 2 p = 2 := by
          have hu2 := hu
          unfold s_up at hu2
          by_cases q1 : (s_out w c' l S t fl).1 3 t = -1 ∨ (s_out w c' l S t fl).1 2 (tn ((s_out w c' l S t fl).1 3 t)) ≠ 2
          · rw [if_pos q1] at hu2; cases hu2
          · rw [if_neg q1] at hu2
            have q3 := Classical.byContradiction fun z => q1 (Or.inr z)
            by_cases q2 : s_act n (s_hurt (s_out w c' l S t fl) t fl) ((s_out w c' l S t fl).1 3 t) = true
            · rw [if_pos q2] at hu2; cases hu2
            · rw [if_neg q2] at hu2
              have a1 := congrArg Prod.fst hu2
              have a2 := congrArg Prod.snd hu2
              have a1 : tn ((s_out w c' l S t fl).1 3 t) = p := Option.some.inj a1
              have a2 : s_hurt (s_out w c' l S t fl) t fl = S1 := a2
              rw [← a2, ← a1]
              have hf := (tf_hurt (n := n) (s_out w c' l S t fl) t fl).1 2 (by decide) (by decide)
              rw [hf]
              exact q3
        simp only []
        rw [ih S1 p (decide (S1.1 41 p ≠ 0)) (Or.inr (by rw [hk]; decide))]
theorem tok_41 (w : Nat) (S : SS) (t l : Nat) : (s_token w S t l).1 41 = S.1 41 := by
  unfold s_token
  by_cases e : S.1 38 t = 0
  · rw [if_pos e]; exact sp_ne S 38 t (cd w (l + 1)) 41 (by decide)
  · rw [if_neg e]; exact sp_ne S 0 15 (S.1 0 15 + 1) 41 (by decide)
theorem srcs_41 (w : Nat) (p : Int32) (l : Nat) (S : SS) : ∀ m, (s_srcs w p l S m).1 41 = S.1 41 := by
  intro m
  induction m with
  | zero => rfl
  | succ m ih =>
    unfold s_srcs
    by_cases e : S.1 3 m = p ∧ S.1 7 m = 0
    · rw [if_pos e, tok_41, ih]
    · rw [if_neg e, ih]
theorem spawn_41 (w n : Nat) (S : SS) (t l : Nat) : (s_spawn w n S t l).1 41 t = 0 := by
  unfold s_spawn
  rw [srcs_41, arr0_at, if_neg (by omega), sp_r, if_pos ⟨rfl, rfl⟩]
theorem RM_wait {w n : Nat} {S : SS} {M : MM} {c : Nat} {t : Nat} (h : RM w n S M (some t) c) (h10 : M 10 t = 0) (h41 : S.1 41 t = 0) : RM w n (sp S 38 t 2) (mp M 5 t 2) none c := by
  obtain ⟨⟨hg, a0, a8, a9, a14, b18, b19, b20, b21, b22, b23, b24⟩, hp, ⟨l1, l2, l3⟩, hh⟩ := h
  have row : ∀ k, k ≠ 5 → mp M 5 t 2 k = M k := fun k q => mp_ne _ _ _ _ q
  have s1 : ∀ k, k ≠ 38 → (sp S 38 t 2).1 k = S.1 k := fun k q => sp_ne S 38 t 2 k q
  refine ⟨⟨RG_keep hg (by rw [row 0 (by decide)]) (row 1 (by decide)) (row 2 (by decide)) (row 3 (by decide)) (row 4 (by decide)) (row 11 (by decide)) (row 12 (by decide)) (fr.sp S (by decide) t 2), ?_, ?_, ?_, ?_, ?_, ?_, ?_, ?_, ?_, ?_, ?_⟩, fun i hi => ⟨fun _ => ?_, fun q => by cases q⟩, ⟨?_, ?_, ?_⟩, fun q i hi h2 h38 => ?_⟩
  · rw [row 0 (by decide)]; exact a0
  · rw [row 8 (by decide), s1 39 (by decide)]; exact a8
  · rw [row 9 (by decide), s1 40 (by decide)]; exact a9
  · rw [row 14 (by decide), s1 35 (by decide)]; exact a14
  · rw [row 0 (by decide), s1 0 (by decide)]; exact b18
  · rw [row 0 (by decide), s1 0 (by decide)]; exact b19
  · rw [row 0 (by decide), s1 0 (by decide)]; exact b20
  · rw [row 0 (by decide), s1 0 (by decide)]; exact b21
  · rw [row 0 (by decide), s1 0 (by decide)]; exact b22
  · rw [row 0 (by decide), s1 0 (by decide)]; exact b23
  · rw [row 0 (by decide), s1 0 (by decide)]; exact b24
  · rw [mp_at, row 6 (by decide), sp_r]
    by_cases e : i = t
    · rw [if_pos ⟨rfl, e⟩, if_pos ⟨rfl, e⟩]; exact Or.inr (Or.inr (Or.inl ⟨rfl, rfl⟩))
    · rw [if_neg (fun z => e z.2), if_neg (fun z => e z.2)]
      exact (hp i hi).1 (fun q => e (Option.some.inj q).symm)
  · rw [row 0 (by decide)]; exact l1
  · rw [row 7 (by decide)]; exact l2
  · rw [row 7 (by decide)]; exact l3
  · rw [s1 0 (by decide)] at q
    rw [s1 2 (by decide)] at h2
    rw [sp_r] at h38
    rw [row 10 (by decide), s1 41 (by decide)]
    by_cases e : i = t
    · rw [e]; exact ⟨fun _ => h41, fun _ => h10⟩
    · rw [if_neg (fun z => e z.2)] at h38; exact hh q i hi h2 h38
section DR10
variable {l : Launch} {D : va_G} {cI cZ : ClassId} {a : Nat → Nat} {w n : Nat}
/-- the tail of finish and of fail: end, settle -/
theorem r_tail (hJ : IJ (sM D cI cZ a)) {S2 : SS} (M2 : MM) {c2 : Nat} {t k : Nat} (hM : RM w n S2 M2 (some t) c2) (hL : LV w n S2 t k) (hW : JW n S2) (hP : PE w n S2 t) (hQ : IQ w n S2 t) (y : Int32) (fl : Bool) (x : Int32) (hfl : S2.1 0 11 = 0 → (fl = true ↔ (¬ x = 0 ∨ (S2.1 2 t = 2 ∧ ¬ M2 10 t = 0)))) (hc : c2 + 60 < 2 ^ 31) :
    ∃ po : Int32 → MM → Prop, Ci l (sM D cI cZ a) yR_end wR_end rmR_end [.ref (a 0), .int (nI t), .int (nI k), .int y, .int x] M2 po ∧ ∀ (r : Int32) (M3 : MM), po r M3 → (∃ po2 : MM → Prop, Cv l (sM D cI cZ a) yR_settle wR_settle rmR_settle [.ref (a 0)] M3 po2 ∧ ∀ (M4 : MM), po2 M4 → (r = nI (s_end w n y k 4 S2 t fl).1 ∧ rt w n (s_close w n (s_end w n y k 4 S2 t fl).2) none c2 60 M4)) := by
  have hk := Nat.le_of_lt hL.2.2.2.2.1
  refine ⟨_, kR_end hJ M2 hM hL.1 hW hP hk (fun i q => (Option.some.inj q).symm) y fl x hfl (by omega), ?_⟩
  rintro r M3 ⟨rfl, c3, g1, g2, g3⟩
  rw [end45 y hk fl hL.1 hW hP] at g3 ⊢
  have hI := IV_end hL hW hP y fl
  have hR := IR_end hL hW hP hQ y fl
  refine ⟨_, kR_settle hJ M3 g3 hI.1 hI.2.2.2 hR.2.2.2.1 hR.2.2.2.2 (by omega), ?_⟩
  rintro M4 ⟨⟨c4, f1, f2, f3⟩, -⟩
  exact ⟨rfl, c4, by omega, by omega, f3⟩
theorem run_place {S : SS} (hI : IV w n S) {k : Nat} (hk : k < w) (h2 : ¬ S.1 37 k = -1) : S.1 38 (tn (S.1 37 k)) = nI (3 + k) := by
  rcases hI.2.2.1 k hk with e | ⟨t', z1, z2, z3⟩
  · exact absurd e h2
  · rw [z2, tnI (by have := hI.1.le; omega)]; exact z3
theorem kR_finish (hJ : IJ (sM D cI cZ a)) {S : SS} (M : MM) {c : Nat} (hM : RM w n S M none c) (hI : IV w n S) (hR : IR w n S) (hc : c + 120 < 2 ^ 31) (x y : Int32) : Ci l (sM D cI cZ a) yR_finish wR_finish rmR_finish [.ref (a 0), .int x, .int y] M (fun r M' => r = (s_finish w n S x y).1 ∧ rt w n (s_finish w n S x y).2 none c 120 M') := by
  have hF := hI.1
  have hn := hF.le
  have hw := hF.w4
  have no : (¬ isT w x = true ∨ S.1 37 (tn x) = -1) → (-1 : Int32) = (s_finish w n S x y).1 ∧ rt w n (s_finish w n S x y).2 none c 120 M := fun q => by
    unfold s_finish
    rw [if_pos q]
    exact ⟨rfl, c, by omega, by omega, hM⟩
  refine oR_finish hJ ⟨_, kR_running hJ M hM hI hR.1 x, ?_⟩
  rintro r M5 ⟨rfl, rfl⟩
  by_cases hT : isT w x = true
  · rw [if_pos hT]
    obtain ⟨k, hk, rfl⟩ := isT_of (by omega) hT
    rw [tnI (by omega)]
    by_cases h37 : S.1 37 k = -1
    · rw [h37]
      exact ⟨fun q => absurd q (by decide), fun _ => no (Or.inr (by rw [tnI (by omega)]; exact h37))⟩
    · obtain ⟨g1, g2⟩ := run_of hI.2.2.1 hn hk h37
      have hp := run_place hI hk h37
      have hs : s_finish w n S (nI k) y = s_fin2 w n (s_fin1 w n (s_leave w S (tn (S.1 37 k)) k) (tn (S.1 37 k)) k) (tn (S.1 37 k)) k y := by
        unfold s_finish
        rw [if_neg, tnI (by omega)]
        rintro (q | q)
        · exact q hT
        · rw [tnI (by omega)] at q; exact h37 q
      rw [hs]
      have hgt : ∃ t, t = tn (S.1 37 k) := ⟨_, rfl⟩
      obtain ⟨t, et⟩ := hgt
      rw [← et] at g1 g2 hp ⊢
      rw [g2]
      obtain ⟨i1, i2⟩ := LV_leave hI hk g1 g2
      have iq := IQ_leave hI hR hk g1 g2 hp
      refine ⟨fun _ => ⟨_, kR_release hJ M5 hM hF g1 hk hp (by omega), ?_⟩, fun q => absurd (nI_pos' (by omega)) q⟩
      rintro M12 ⟨⟨c1, f1, f2, f3⟩, -⟩
      have e19 : M12 0 19 = (s_leave w S t k).1 0 11 := RA.sc f3.a 11 (by decide) (by decide)
      have e1 : M12 1 t = (s_leave w S t k).1 2 t := by rw [f3.g.2.1]
      -- no spawning
      have plain : s_fin1 w n (s_leave w S t k) t k = s_leave w S t k → ¬ ((s_leave w S t k).1 2 t = 2 ∧ (s_leave w S t k).1 0 11 = 0) → ∃ po : Int32 → MM → Prop, Ci l (sM D cI cZ a) yR_end wR_end rmR_end [.ref (a 0), .int (nI t), .int (nI k), .int y, .int 0] M12 po ∧ ∀ (r : Int32) (M3 : MM), po r M3 → (∃ po2 : MM → Prop, Cv l (sM D cI cZ a) yR_settle wR_settle rmR_settle [.ref (a 0)] M3 po2 ∧ ∀ (M4 : MM), po2 M4 → (r = (s_fin2 w n (s_fin1 w n (s_leave w S t k) t k) t k y).1 ∧ rt w n (s_fin2 w n (s_fin1 w n (s_leave w S t k) t k) t k y).2 none c 120 M4)) := fun e1' e2' => by
        rw [e1']
        have hno : ¬ ((s_leave w S t k).1 2 t = 2 ∧ s_act n (s_leave w S t k) (nI t) = true) := by
          rintro ⟨z1, z2⟩
          rw [s_act_iff] at z2
          obtain ⟨t', y1, y2, y3⟩ := z2
          have := i2 t' y1 y3 t g1 y2 z1
          rw [i1.2.2.2.2.2.1] at this
          exact n3_2 (by omega) this
        obtain ⟨hP, hW⟩ := fin2_PE i1 (fun t' a b p c d e => Or.inl (i2 t' a b p c d e)) hno
        obtain ⟨po, hpo, hcont⟩ := r_tail (l := l) hJ M12 f3 i1 hW hP iq y false 0 (fun hcan => ⟨fun q => absurd q Bool.false_ne_true, fun q => q.elim (fun z => absurd rfl z) (fun z => absurd ⟨z.1, hcan⟩ e2')⟩) (by omega)
        refine ⟨po, hpo, fun r M3 h3 => ?_⟩
        obtain ⟨po2, hpo2, hcont2⟩ := hcont r M3 h3
        refine ⟨po2, hpo2, fun M4 h4 => ?_⟩
        obtain ⟨q1, c4, q2, q3, q4⟩ := hcont2 M4 h4
        unfold s_fin2
        rw [if_neg hno]
        exact ⟨q1, c4, by omega, by omega, q4⟩
      have kk := hF.g.kind t g1
      have ek : (s_leave w S t k).1 2 t = S.1 2 t := by rw [(kp1_leave (n := n) hw S t k).1 2 (by decide) (by decide)]
      refine ⟨fun h1 => plain ?_ ?_, fun h1 => ⟨t, rfl, by omega, fun h2 => plain ?_ ?_, fun h2 => ?_⟩⟩
      · unfold s_fin1
        rw [if_neg (fun q => h1 (e19.trans q.1))]
      · exact fun q => h1 (e19.trans q.2)
      · unfold s_fin1
        rw [if_neg]
        rintro ⟨-, q⟩
        rw [e1] at h2
        rcases q with q | q <;> rw [q] at h2 <;> exact absurd h2 (by decide)
      · rintro ⟨q, -⟩
        rw [e1, q] at h2
        exact absurd h2 (by decide)
      · rintro M44 rfl
        obtain ⟨kd, kd3, ekd⟩ := kk
        have hkd : (s_leave w S t k).1 2 t = 2 ∨ (s_leave w S t k).1 2 t = 3 := by
          rw [e1, ek, ekd] at h2
          have h2' := mt (nlt (b := 2) (by omega) (by omega)).mpr h2
          rw [ek, ekd]
          have : kd = 2 ∨ kd = 3 := by omega
          rcases this with rfl | rfl
          · exact Or.inl rfl
          · exact Or.inr rfl
        have hsp : s_fin1 w n (s_leave w S t k) t k = s_spawn w n (s_leave w S t k) t k := by
          unfold s_fin1
          rw [if_pos ⟨e19.symm.trans h1, hkd⟩]
        have hM44 : RM w n (sp (s_leave w S t k) 41 t 0) (mp M12 10 t 0) (some t) c1 := by
          refine RM_hu f3 (fun q hq => sp_ne _ 41 t 0 q hq) rfl (fun q hq => mp_ne _ _ _ _ hq) (fun hcan i hi q2 q38 => ?_)
          rw [sp_r, mp_at]
          by_cases e : i = t
          · rw [if_pos ⟨rfl, e⟩, if_pos ⟨rfl, e⟩]
          · rw [if_neg (fun z => e z.2), if_neg (fun z => e z.2)]
            rw [sp_ne _ 41 t 0 0 (by decide)] at hcan
            rw [sp_ne _ 41 t 0 2 (by decide)] at q2
            rw [sp_ne _ 41 t 0 38 (by decide)] at q38
            exact f3.h hcan i hi q2 q38
        obtain ⟨j1, j2⟩ := fin1_inv i1 i2
        have jq := IQ_fin1 i1 iq
        rw [hsp] at j1 j2 jq ⊢
        refine ⟨_, kR_wake hJ _ hM44 (i1.1.k (kp1_sp _ (by decide) (by decide) t 0)) (nI t) (Nat.le_of_lt hk) (by omega), ?_⟩
        rintro M50 ⟨⟨c3, z1, z2, z3⟩, z4⟩
        have z3 : RM w n (s_spawn w n (s_leave w S t k) t k) M50 (some t) c3 := z3
        have h10 : M50 10 t = 0 := by rw [z4, mp_at, if_pos ⟨rfl, rfl⟩]
        have e1' : M50 1 t = (s_spawn w n (s_leave w S t k) t k).1 2 t := by rw [z3.g.2.1]
        have tl : ¬ ((s_spawn w n (s_leave w S t k) t k).1 2 t = 2 ∧ s_act n (s_spawn w n (s_leave w S t k) t k) (nI t) = true) → ∃ po : Int32 → MM → Prop, Ci l (sM D cI cZ a) yR_end wR_end rmR_end [.ref (a 0), .int (nI t), .int (nI k), .int y, .int 0] M50 po ∧ ∀ (r : Int32) (M3 : MM), po r M3 → (∃ po2 : MM → Prop, Cv l (sM D cI cZ a) yR_settle wR_settle rmR_settle [.ref (a 0)] M3 po2 ∧ ∀ (M4 : MM), po2 M4 → (r = (s_fin2 w n (s_spawn w n (s_leave w S t k) t k) t k y).1 ∧ rt w n (s_fin2 w n (s_spawn w n (s_leave w S t k) t k) t k y).2 none c 120 M4)) := fun hno => by
          obtain ⟨hP, hW⟩ := fin2_PE j1 j2 hno
          obtain ⟨po, hpo, hcont⟩ := r_tail (l := l) hJ M50 z3 j1 hW hP jq y false 0 (fun _ => ⟨fun q => absurd q Bool.false_ne_true, fun q => q.elim (fun z => absurd rfl z) (fun z => absurd h10 z.2)⟩) (by omega)
          refine ⟨po, hpo, fun r M3 h3 => ?_⟩
          obtain ⟨po2, hpo2, hcont2⟩ := hcont r M3 h3
          refine ⟨po2, hpo2, fun M4 h4 => ?_⟩
          obtain ⟨q1, c4, q2, q3, q4⟩ := hcont2 M4 h4
          unfold s_fin2
          rw [if_neg hno]
          exact ⟨q1, c4, by omega, by omega, q4⟩
        refine ⟨fun h3 => tl (fun q => h3 (e1'.trans q.1)), fun h3 => ⟨_, kR_activeChild hJ M50 z3 hw hn (nI t), ?_⟩⟩
        rintro r M69 ⟨rfl, rfl⟩
        by_cases hA : s_act n (s_spawn w n (s_leave w S t k) t k) (nI t) = true
        · rw [if_pos hA]
          refine ⟨fun q => absurd q (by decide), fun _ => ?_⟩
          rintro M4 rfl
          unfold s_fin2
          rw [if_pos ⟨e1'.symm.trans h3, hA⟩]
          exact ⟨rfl, c3, by omega, by omega, RM_wait z3 h10 (spawn_41 w n _ t k)⟩
        · rw [if_neg hA]
          exact ⟨fun _ => tl (fun q => hA q.2), fun q => absurd rfl q⟩
  · rw [if_neg hT]
    exact ⟨fun q => absurd q (by decide), fun _ => no (Or.inl hT)⟩
theorem leave_sc (S : SS) (x : Int32) (t wk : Nat) : s_leave w (sp S 0 12 x) t wk = sp (s_leave w S t wk) 0 12 x := by
  have e5 : ∀ i, (sp S 0 12 x).1 5 i = S.1 5 i := fun i => by rw [sp_r, if_neg (by omega)]
  refine Prod.ext ?_ ?_
  · funext k i
    rw [leave_at, sp_r (s_leave w S t wk), leave_at, e5, e5, sp_r S 0 12 x 36 i, if_neg (show ¬ (36 = 0 ∧ i = 12) by omega), sp_r S 0 12 x k i, sp_l]
    by_cases q : k = 0 ∧ i = 12
    · rw [if_pos q, if_pos q, if_neg (by omega), if_neg (by omega), if_neg (by omega)]
    · rw [if_neg q, if_neg q]
  · funext l
    rw [leave_l, sp_l, sp_l, leave_l]
    simp only [e5]
theorem kR_fail (hJ : IJ (sM D cI cZ a)) {S : SS} (M : MM) {c : Nat} (hM : RM w n S M none c) (hI : IV w n S) (hR : IR w n S) (hc : c + 120 < 2 ^ 31) (x : Int32) : Ci l (sM D cI cZ a) yR_fail wR_fail rmR_fail [.ref (a 0), .int x] M (fun r M' => r = (s_fail w n S x).1 ∧ rt w n (s_fail w n S x).2 none c 120 M') := by
  have hF := hI.1
  have hn := hF.le
  have hw := hF.w4
  have no : (¬ isT w x = true ∨ S.1 37 (tn x) = -1) → (-1 : Int32) = (s_fail w n S x).1 ∧ rt w n (s_fail w n S x).2 none c 120 M := fun q => by
    unfold s_fail
    rw [if_pos q]
    exact ⟨rfl, c, by omega, by omega, hM⟩
  have e12 : M 0 20 = S.1 0 12 := RA.sc hM.a 12 (by decide) (by decide)
  refine oR_fail hJ ⟨_, kR_running hJ M hM hI hR.1 x, ?_⟩
  rintro r M5 ⟨rfl, rfl⟩
  by_cases hT : isT w x = true
  · rw [if_pos hT]
    obtain ⟨k, hk, rfl⟩ := isT_of (by omega) hT
    rw [tnI (by omega)]
    by_cases h37 : S.1 37 k = -1
    · rw [h37]
      exact ⟨fun q => absurd q (by decide), fun _ => no (Or.inr (by rw [tnI (by omega)]; exact h37))⟩
    · obtain ⟨g1, g2⟩ := run_of hI.2.2.1 hn hk h37
      have hp := run_place hI hk h37
      have hs : s_fail w n S (nI k) = s_fai2 w n (s_fai1 (s_leave w S (tn (S.1 37 k)) k) (tn (S.1 37 k))) (tn (S.1 37 k)) k := by
        unfold s_fail
        rw [if_neg, tnI (by omega)]
        rintro (q | q)
        · exact q hT
        · rw [tnI (by omega)] at q; exact h37 q
      rw [hs]
      have hgt : ∃ t, t = tn (S.1 37 k) := ⟨_, rfl⟩
      obtain ⟨t, et⟩ := hgt
      rw [← et] at g1 g2 hp ⊢
      rw [g2]
      obtain ⟨i1, i2⟩ := LV_leave hI hk g1 g2
      obtain ⟨j1, j2, j3⟩ := fai1_inv i1 i2
      have jq := IQ_fai1 hn g1 (IQ_leave hI hR hk g1 g2 hp)
      have tl : ∀ M15 c1, c ≤ c1 → c1 ≤ c + 24 → RM w n (s_fai1 (s_leave w S t k) t) M15 (some t) c1 → ∃ po : Int32 → MM → Prop, Ci l (sM D cI cZ a) yR_end wR_end rmR_end [.ref (a 0), .int (nI t), .int (nI k), .int 0, .int 1] M15 po ∧ ∀ (r : Int32) (M3 : MM), po r M3 → (∃ po2 : MM → Prop, Cv l (sM D cI cZ a) yR_settle wR_settle rmR_settle [.ref (a 0)] M3 po2 ∧ ∀ (M4 : MM), po2 M4 → (r = (s_fai2 w n (s_fai1 (s_leave w S t k) t) t k).1 ∧ rt w n (s_fai2 w n (s_fai1 (s_leave w S t k) t) t k).2 none c 120 M4)) := fun M15 c1 q0 q1 hM15 => by
        obtain ⟨po, hpo, hcont⟩ := r_tail (l := l) hJ M15 hM15 j1 j2 j3 jq 0 true 1 (fun _ => ⟨fun _ => Or.inl (by decide), fun _ => rfl⟩) (by omega)
        refine ⟨po, hpo, fun r M3 h3 => ?_⟩
        obtain ⟨po2, hpo2, hcont2⟩ := hcont r M3 h3
        refine ⟨po2, hpo2, fun M4 h4 => ?_⟩
        obtain ⟨z1, c4, z2, z3, z4⟩ := hcont2 M4 h4
        unfold s_fai2
        rw [s_end_c (-1) 0 k 4 _ t true (Or.inl rfl)]
        exact ⟨z1, c4, by omega, by omega, z4⟩
      have l12 : (s_leave w S t k).1 0 12 = S.1 0 12 := by rw [leave_at, if_neg (by omega), if_neg (by omega), if_neg (by omega)]
      refine ⟨fun _ => ⟨fun h1 => ?_, fun h1 => ?_⟩, fun q => absurd (nI_pos' (by omega)) q⟩
      · rintro M9 rfl
        have e : mp M5 0 20 (M5 0 20) = M5 := by
          funext k' i
          rw [mp_at]
          by_cases q : k' = 0 ∧ i = 20
          · rw [if_pos q, q.1, q.2]
          · rw [if_neg q]
        rw [e]
        refine ⟨_, kR_release hJ M5 hM hF g1 hk hp (by omega), ?_⟩
        rintro M15 ⟨⟨c1, f1, f2, f3⟩, -⟩
        refine tl M15 c1 f1 f2 ?_
        have : s_fai1 (s_leave w S t k) t = s_leave w S t k := by
          unfold s_fai1
          rw [if_neg]
          rw [l12]
          exact (TH_0 hR.2.2.2.1).mp (by rw [← e12]; exact h1)
        rw [this]
        exact f3
      · rintro M29 rfl
        have hM2 := RM_sc hM (i := 12) (by decide) (by decide) rfl (nI t) (fun q => absurd q (by decide))
        have hI2 := IV_sp0 hI (i := 12) (by decide) (nI t)
        refine ⟨_, kR_release hJ _ hM2 hI2.1 g1 hk (by rw [sp_r, if_neg (by omega)]; exact hp) (by omega), ?_⟩
        rintro M35 ⟨⟨c1, f1, f2, f3⟩, -⟩
        refine tl M35 c1 f1 f2 ?_
        have : s_fai1 (s_leave w S t k) t = sp (s_leave w S t k) 0 12 (nI t) := by
          unfold s_fai1
          rw [if_pos]
          rw [l12]
          exact Classical.byContradiction fun q => h1 (by rw [e12]; exact (TH_0 hR.2.2.2.1).mpr q)
        rw [this, ← leave_sc]
        exact f3
  · rw [if_neg hT]
    exact ⟨fun q => absurd q (by decide), fun _ => no (Or.inl hT)⟩
end DR10
