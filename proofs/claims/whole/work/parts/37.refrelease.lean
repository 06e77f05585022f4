/-! The reference: release -/
def w_sh (S : SS) (t : Nat) : List Nat := (S.2 0).filter fun i => decide (¬ S.1 5 i &&& S.1 5 t = 0)
/-- t has left its body; T are awake again -/
def s_awk (w : Nat) (S : SS) (t wk : Nat) (T : List Nat) : SS := (fun k i => if k = 38 ∧ i ∈ T then 20 else (s_give (sp S 37 wk (-1)) (S.1 5 t) 4).1 k i, fun l => if l = 0 then (S.2 0).filter (fun i => decide (i ∉ T)) else if l = w + 1 then S.2 l ++ T else S.2 l)
theorem awk_at {w : Nat} (S : SS) (t wk : Nat) (T : List Nat) (k i : Nat) (h36 : k ≠ 36) (h37 : k ≠ 37) (h38 : k ≠ 38) : (s_awk w S t wk T).1 k i = S.1 k i := by
  show (if k = 38 ∧ i ∈ T then 20 else (s_give (sp S 37 wk (-1)) (S.1 5 t) 4).1 k i) = _
  rw [if_neg (fun q => h38 q.1), s_give_at, if_neg (fun q => h36 q.1), sp_r, if_neg (fun q => h37 q.1)]
theorem awk_38 {w : Nat} (S : SS) (t wk : Nat) (T : List Nat) (i : Nat) : (s_awk w S t wk T).1 38 i = if i ∈ T then 20 else S.1 38 i := by
  show (if 38 = 38 ∧ i ∈ T then 20 else (s_give (sp S 37 wk (-1)) (S.1 5 t) 4).1 38 i) = _
  by_cases e : i ∈ T
  · rw [if_pos ⟨rfl, e⟩, if_pos e]
  · rw [if_neg (fun q => e q.2), if_neg e, s_give_at, if_neg (by omega), sp_r, if_neg (by omega)]
theorem awk_end {w : Nat} (S : SS) (t wk : Nat) : s_awk w S t wk (w_sh S t) = s_leave w S t wk := by
  refine Prod.ext ?_ ?_
  · funext k i
    rw [leave_at]
    show (if k = 38 ∧ i ∈ w_sh S t then 20 else (s_give (sp S 37 wk (-1)) (S.1 5 t) 4).1 k i) = _
    rw [s_give_at, sp_r, sp_r, if_neg (show ¬ (36 = 37 ∧ i = wk) by omega)]
    have : i ∈ w_sh S t ↔ i ∈ S.2 0 ∧ ¬ S.1 5 i &&& S.1 5 t = 0 := by unfold w_sh; rw [List.mem_filter, decide_eq_true_iff]
    by_cases e : k = 38 ∧ i ∈ w_sh S t
    · rw [if_pos e, if_pos ⟨e.1, this.mp e.2⟩]
    · rw [if_neg e, if_neg (fun q : k = 38 ∧ i ∈ S.2 0 ∧ ¬ S.1 5 i &&& S.1 5 t = 0 => e ⟨q.1, this.mpr q.2⟩)]
  · funext l
    rw [leave_l]
    show (if l = 0 then (S.2 0).filter (fun i => decide (i ∉ w_sh S t)) else if l = w + 1 then S.2 l ++ w_sh S t else S.2 l) = _
    by_cases e : l = 0
    · rw [if_pos e, if_pos e]
      refine List.filter_congr (fun i hi => ?_)
      unfold w_sh
      rw [decide_eq_decide, List.mem_filter, decide_eq_true_iff]
      constructor
      · exact fun q => Classical.byContradiction fun z => q ⟨hi, z⟩
      · exact fun q z => z.2 q
    · rw [if_neg e, if_neg e]
      rfl
theorem awk_fr {w : Nat} (S : SS) (t wk : Nat) (T : List Nat) : fr S (s_awk w S t wk T) := fun k _ h => by
  funext i
  exact awk_at S t wk T k i (by omega) (by omega) (by omega)
theorem RM_left {w n : Nat} {S : SS} {M : MM} {c : Nat} (h : RM w n S M none c) {t wk : Nat} (hk : wk < w) (hp : S.1 38 t = nI (3 + wk)) : RM w n (s_awk w S t wk []) (mp M 5 t 5) (some t) c := by
  obtain ⟨⟨hg, a0, a8, a9, a14, b18, b19, b20, b21, b22, b23, b24⟩, hq, ⟨l1, l2, l3⟩, hh⟩ := h
  have row : ∀ k, k ≠ 5 → mp M 5 t 5 k = M k := fun k q => mp_ne _ _ _ _ q
  have s1 := awk_at (w := w) S t wk []
  have s38 : ∀ i, (s_awk w S t wk []).1 38 i = S.1 38 i := fun i => by rw [awk_38, if_neg (fun q => by cases q)]
  have sl : ∀ l, ((s_awk w S t wk []).2 l) = S.2 l := fun l => by
    show (if l = 0 then (S.2 0).filter (fun i => decide (i ∉ ([] : List Nat))) else if l = w + 1 then S.2 l ++ [] else S.2 l) = _
    by_cases e : l = 0
    · rw [if_pos e, e]; simp
    · rw [if_neg e]; simp
  refine ⟨⟨RG_keep hg (by rw [row 0 (by decide)]) (row 1 (by decide)) (row 2 (by decide)) (row 3 (by decide)) (row 4 (by decide)) (row 11 (by decide)) (row 12 (by decide)) (awk_fr S t wk []), ?_, fun i hi => ?_, fun i hi => ?_, fun i hi => ?_, ?_, ?_, ?_, ?_, ?_, ?_, ?_⟩, fun i hi => ?_, ⟨?_, ?_, fun l hl => ?_⟩, fun q i hi h2 h38 => ?_⟩
  · rw [row 0 (by decide)]; exact a0
  · rw [row 8 (by decide), s1 39 i (by decide) (by decide) (by decide)]; exact a8 i hi
  · rw [row 9 (by decide), s1 40 i (by decide) (by decide) (by decide)]; exact a9 i hi
  · rw [row 14 (by decide), s1 35 i (by decide) (by decide) (by decide)]; exact a14 i hi
  · rw [row 0 (by decide), s1 0 10 (by decide) (by decide) (by decide)]; exact b18
  · rw [row 0 (by decide), s1 0 11 (by decide) (by decide) (by decide)]; exact b19
  · rw [row 0 (by decide), s1 0 12 (by decide) (by decide) (by decide)]; exact b20
  · rw [row 0 (by decide), s1 0 13 (by decide) (by decide) (by decide)]; exact b21
  · rw [row 0 (by decide), s1 0 14 (by decide) (by decide) (by decide)]; exact b22
  · rw [row 0 (by decide), s1 0 15 (by decide) (by decide) (by decide)]; exact b23
  · rw [row 0 (by decide), s1 0 16 (by decide) (by decide) (by decide), s1 0 13 (by decide) (by decide) (by decide)]; exact b24
  · rw [s38, mp_at, row 6 (by decide)]
    by_cases e : i = t
    · subst e
      rw [if_pos ⟨rfl, rfl⟩]
      exact ⟨fun q => absurd rfl q, fun _ => ⟨rfl, wk, hk, hp⟩⟩
    · rw [if_neg (fun z => e z.2)]
      exact ⟨fun _ => (hq i hi).1 (by simp), fun q => absurd (Option.some.inj q).symm e⟩
  · rw [row 0 (by decide)]; exact l1
  · rw [row 7 (by decide)]; exact l2
  · rw [row 7 (by decide), sl]; exact l3 l hl
  · rw [s1 0 11 (by decide) (by decide) (by decide)] at q
    rw [s1 2 i (by decide) (by decide) (by decide)] at h2
    rw [s38] at h38
    rw [row 10 (by decide), s1 41 i (by decide) (by decide) (by decide)]
    exact hh q i hi h2 h38
theorem RM_awk {w n : Nat} (hw : w ≤ 4) {S : SS} (hN : LN w n S) {M : MM} {c : Nat} {t wk : Nat} {T : List Nat} {b : Nat} (h : RM w n (s_awk w S t wk T) M (some t) c) (hb : b ∈ S.2 0) (hT : b ∉ T) (hn : n ≤ 24) (hbt : b ≠ t) (hc : c < 2 ^ 31) : RM w n (s_awk w S t wk (T ++ [b])) (m_rdy M b w) (some t) (c + 1) := by
  have h0 := hN 0 (by omega)
  have hb' := (h0.2 b).mp hb
  have e20 : cd w (w + 1) = 20 := by unfold cd; rw [if_neg (by omega), if_pos rfl]
  have h1 : RM w n (sq (s_awk w S t wk T) 0 ((S.2 0).filter (fun i => decide (i ∉ T ++ [b])))) M (some t) c := by
    refine RM_sub h rfl (fun l _ => sq_sub _ _ ?_ l)
    show ((S.2 0).filter (fun i => decide (i ∉ T ++ [b]))).Sublist ((S.2 0).filter (fun i => decide (i ∉ T)))
    have hff : (S.2 0).filter (fun i => decide (i ∉ T ++ [b])) = ((S.2 0).filter (fun i => decide (i ∉ T))).filter (fun i => decide (i ∉ T ++ [b])) := by
      rw [List.filter_filter]
      refine List.filter_congr (fun i _ => ?_)
      by_cases q : i ∈ T ++ [b]
      · rw [decide_eq_false (fun z => z q)]; rfl
      · have q2 : i ∉ T := fun z => q (List.mem_append_left _ z)
        rw [decide_eq_true q, decide_eq_true q2]; rfl
    rw [hff]
    exact List.filter_sublist
  have h2 := RM_ready hw h1 (t := b) (l := w) (by omega) (Nat.le_refl _) (fun q => hbt (Option.some.inj q).symm) (fun l hl q => ?_) hc
  · have e : s_ready w (sq (s_awk w S t wk T) 0 ((S.2 0).filter (fun i => decide (i ∉ T ++ [b])))) b w = s_awk w S t wk (T ++ [b]) := by
      refine Prod.ext ?_ ?_
      · funext k i
        show mp (s_awk w S t wk T).1 38 b (cd w (w + 1)) k i = (if k = 38 ∧ i ∈ T ++ [b] then 20 else (s_give (sp S 37 wk (-1)) (S.1 5 t) 4).1 k i)
        rw [mp_at, e20]
        by_cases q : k = 38 ∧ i = b
        · rw [if_pos q, if_pos ⟨q.1, by rw [q.2]; simp⟩]
        · rw [if_neg q]
          show (if k = 38 ∧ i ∈ T then 20 else (s_give (sp S 37 wk (-1)) (S.1 5 t) 4).1 k i) = _
          by_cases z : k = 38 ∧ i ∈ T
          · rw [if_pos z, if_pos ⟨z.1, List.mem_append_left _ z.2⟩]
          · rw [if_neg z, if_neg]
            rintro ⟨y1, y2⟩
            rcases List.mem_append.mp y2 with y | y
            · exact z ⟨y1, y⟩
            · exact q ⟨y1, List.mem_singleton.mp y⟩
      · funext l
        show va_up (va_up (s_awk w S t wk T).2 0 ((S.2 0).filter (fun i => decide (i ∉ T ++ [b])))) (w + 1) (va_up (s_awk w S t wk T).2 0 ((S.2 0).filter (fun i => decide (i ∉ T ++ [b]))) (w + 1) ++ [b]) l = (if l = 0 then (S.2 0).filter (fun i => decide (i ∉ T ++ [b])) else if l = w + 1 then S.2 l ++ (T ++ [b]) else S.2 l)
        have ew : (s_awk w S t wk T).2 (w + 1) = S.2 (w + 1) ++ T := by
          show (if w + 1 = 0 then (S.2 0).filter (fun i => decide (i ∉ T)) else if w + 1 = w + 1 then S.2 (w + 1) ++ T else S.2 (w + 1)) = _
          rw [if_neg (by omega), if_pos rfl]
        unfold va_up
        by_cases q : l = w + 1
        · subst q
          rw [if_pos rfl, if_neg (by omega), if_neg (by omega), if_pos rfl, ew, List.append_assoc]
        · rw [if_neg q]
          by_cases z : l = 0
          · rw [if_pos z, if_pos z]
          · rw [if_neg z, if_neg z, if_neg q]
            show (if l = 0 then (S.2 0).filter (fun i => decide (i ∉ T)) else if l = w + 1 then S.2 l ++ T else S.2 l) = _
            rw [if_neg z, if_neg q]
    rw [e] at h2
    exact h2
  · rw [sq_l] at q
    by_cases z : l = 0
    · rw [if_pos z, List.mem_filter, decide_eq_true_iff] at q
      exact q.2 (by simp)
    · rw [if_neg z] at q
      have q : b ∈ (if l = 0 then (S.2 0).filter (fun i => decide (i ∉ T)) else if l = w + 1 then S.2 l ++ T else S.2 l) := q
      rw [if_neg z] at q
      by_cases y : l = w + 1
      · rw [if_pos y] at q
        rcases List.mem_append.mp q with x | x
        · exact absurd (cd_inj hw (by omega) (by omega) (hb'.2.symm.trans (((hN l hl).2 b).mp x).2)) (fun x => z x.symm)
        · exact hT x
      · rw [if_neg y] at q
        exact absurd (cd_inj hw (by omega) (by omega) (hb'.2.symm.trans (((hN l hl).2 b).mp q).2)) (fun x => z x.symm)
theorem RP.parked {w : Nat} (hw : w ≤ 4) {S : SS} {M : MM} {ex : Option Nat} (h : RP w S M ex) {t : Nat} (ht : t < 24) : M 5 t = 1 ↔ S.1 38 t = 1 := by
  have e1 : cd w 0 = 1 := by unfold cd; rw [if_pos rfl]
  by_cases e : ex = some t
  · obtain ⟨h1, k, hk, h2⟩ := (h t ht).2 e
    rw [h1, h2]
    refine ⟨fun q => absurd q (by decide), fun q => ?_⟩
    have := (neq (b := 1) (by omega) (by omega)).mp q
    omega
  · rcases (h t ht).1 e with ⟨h1, h2⟩ | ⟨h1, h2⟩ | ⟨h1, h2⟩ | ⟨k', hk', h1, h2, h3⟩ | ⟨k', hk', h1, h2, h3⟩
    · rw [h1, h2]
    · rw [h1, h2]
    · rw [h1, h2]
    · rw [h1, h3]
      refine ⟨fun q => absurd q (by decide), fun q => ?_⟩
      have := (neq (b := 1) (by omega) (by omega)).mp q
      omega
    · rw [h1, h3]
      exact ⟨fun q => absurd q (by decide), fun q => absurd (cd_inj hw (by omega) (by omega) (q.trans e1.symm)) (by omega)⟩
section DR8
variable {l : Launch} {D : va_G} {cI cZ : ClassId} {a : Nat → Nat} {w n : Nat}
theorem kR_release (hJ : IJ (sM D cI cZ a)) {S : SS} (M : MM) {c : Nat} (hM : RM w n S M none c) (hF : WF w n S) {t wk : Nat} (ht : t < n) (hk : wk < w) (hp : S.1 38 t = nI (3 + wk)) (hc : c + 24 < 2 ^ 31) : Cv l (sM D cI cZ a) yR_release wR_release rmR_release [.ref (a 0), .int (nI t)] M (fun M' => rs w n (s_leave w S t wk) (some t) c 24 M M') := by
  have hn := hF.le
  have hw := hF.w4
  have h0 := hF.ln 0 (by omega)
  have e1 : cd w 0 = 1 := by unfold cd; rw [if_pos rfl]
  have hsub : (w_sh S t).Sublist (S.2 0) := List.filter_sublist
  have hWnd : (w_sh S t).Nodup := h0.1.sublist hsub
  have hWm : ∀ i, i ∈ w_sh S t ↔ i ∈ S.2 0 ∧ ¬ S.1 5 i &&& S.1 5 t = 0 := fun i => by unfold w_sh; rw [List.mem_filter, decide_eq_true_iff]
  have hWlt : ∀ i ∈ w_sh S t, i < n := fun i hi => ((h0.2 i).mp ((hWm i).mp hi).1).1
  have hWlen : (w_sh S t).length ≤ n := nodup_len n _ hWnd hWlt
  have htW : t ∉ S.2 0 := fun q => n3_cd hw hk (l := 0) (by omega) (hp.symm.trans ((h0.2 t).mp q).2)
  refine oR_release hJ (fun G hl hR F => ?_)
  subst hl
  have lp : ∀ f i M1 c1, i + f = 24 → c ≤ c1 → c1 ≤ c + i → RM w n (s_awk w S t wk ((w_sh S t).take i)) M1 (some t) c1 → M1 10 = M 10 → wx G (sM D cI cZ a) 6 (Qxv G (sM D cI cZ a) (fun M' => rs w n (s_leave w S t wk) (some t) c 24 M M')) M1 9 [(0, .ref (a 0)), (1, .int (nI t)), (2, .int (nI i))] [] := by
    intro f
    induction f with
    | zero =>
      intro i M1 c1 hi hc0 hc1 hM1 h10
      have h4 : (24 : Int32) ≤ nI i := (nle (a := 24) (by omega) (by omega)).mpr (by omega)
      refine sR_release_9 F hR (K20 := fun _ _ _ _ _ => False) (fun _ _ _ _ _ q => q.elim) ⟨fun _ => ⟨⟨c1, hc0, by omega, ?_⟩, h10⟩, fun q => absurd h4 q⟩
      rw [List.take_of_length_le (by omega), awk_end] at hM1
      exact hM1
    | succ f ih =>
      intro i M1 c1 hi hc0 hc1 hM1 h10
      have h4 : ¬ (24 : Int32) ≤ nI i := fun q => by
        have := (nle (a := 24) (by omega) (by omega)).mp q
        omega
      have hg4 : ∀ p, M1 4 p = S.1 5 p := fun p => by
        rw [hM1.g.2.2.2.2.1]
        exact awk_at S t wk _ 5 p (by decide) (by decide) (by decide)
      have hdm : ∀ p, p ∈ (w_sh S t).drop i ↔ p ∈ w_sh S t ∧ p ∉ (w_sh S t).take i := fun p => by
        have hd : ((w_sh S t).take i ++ (w_sh S t).drop i).Nodup := by rw [List.take_append_drop]; exact hWnd
        have hd := List.nodup_append.mp hd
        constructor
        · exact fun q => ⟨List.mem_of_mem_drop q, fun z => hd.2.2 p z p q rfl⟩
        · rintro ⟨q1, q2⟩
          rw [← List.take_append_drop i (w_sh S t)] at q1
          exact (List.mem_append.mp q1).resolve_left q2
      have hmem : ∀ p, p < n → ((M1 5 p = 1 ∧ ¬ (M1 4 p &&& M1 4 t) = 0) ↔ p ∈ (w_sh S t).drop i) := fun p hpn => by
        rw [hM1.p.parked hw (by omega), awk_38, hg4, hg4, hdm, hWm]
        by_cases z : p ∈ (w_sh S t).take i
        · rw [if_pos z]
          exact ⟨fun q => absurd q.1 (by decide), fun q => absurd z q.2⟩
        · rw [if_neg z]
          refine ⟨fun q => ⟨⟨(h0.2 p).mpr ⟨hpn, by rw [e1]; exact q.1⟩, q.2⟩, z⟩, fun q => ⟨?_, q.1.2⟩⟩
          rw [← e1]
          exact ((h0.2 p).mp q.1.1).2
      have hpw : ((w_sh S t).drop i).Pairwise (fun x y => sv M1 x < sv M1 y) := by
        have h1 : (s_awk w S t wk ((w_sh S t).take i)).2 0 = (S.2 0).filter (fun p => decide (p ∉ (w_sh S t).take i)) := rfl
        have h2 := (hM1.l.2.2 0 (by omega)).2
        rw [h1] at h2
        refine h2.sublist ?_
        have h3 : ((w_sh S t).drop i) = ((w_sh S t).drop i).filter (fun p => decide (p ∉ (w_sh S t).take i)) := by
          rw [List.filter_eq_self.mpr]
          intro p hp
          rw [decide_eq_true_iff]
          exact ((hdm p).mp hp).2
        rw [h3]
        exact ((List.drop_sublist i _).trans hsub).filter _
      have hlt : ∀ p ∈ (w_sh S t).drop i, p < n := fun p hp => hWlt p ((hdm p).mp hp).1
      have inner : ∀ m j o, j + m = n → BO M1 ((w_sh S t).drop i) false j o → wx G (sM D cI cZ a) 6 (Qxv G (sM D cI cZ a) (fun M' => rs w n (s_leave w S t wk) (some t) c 24 M M')) M1 20 [(0, .ref (a 0)), (1, .int (nI t)), (2, .int (nI i)), (3, .int (oN o)), (4, .int (nI j))] [] := by
        intro m
        induction m with
        | zero =>
          intro j o hj hb
          have hj : j = n := by omega
          subst hj
          have h5 : M1 0 1 ≤ nI j := by rw [hM1.g.1]; exact (nle (by omega) (by omega)).mpr (by omega)
          have he := BO_end hb hlt hpw
          have he : o = ((w_sh S t).drop i).head? := he
          have hbl : ∀ p, o = some p → p < 1000 := fun p e => by
            subst e
            have := hb.1
            omega
          rw [List.head?_drop] at he
          refine sR_release_20 F hR (K9 := fun M2 x1 x2 => x1 = nI t ∧ x2 = nI (i + 1) ∧ ∃ c2, c ≤ c2 ∧ c2 ≤ c + (i + 1) ∧ RM w j (s_awk w S t wk ((w_sh S t).take (i + 1))) M2 (some t) c2 ∧ M2 10 = M 10) (K20 := fun _ _ _ _ _ => False) ?_ (fun _ _ _ _ _ q => q.elim) ⟨fun _ => ⟨fun h6 => ⟨rfl, nI_1 i, c1, hc0, by omega, ?_, h10⟩, fun h6 => ?_⟩, fun q => absurd h5 q⟩
          · rintro M2 x1 x2 ⟨rfl, rfl, c2, g1, g2, g3, g4⟩
            exact ih (i + 1) M2 c2 (by omega) g1 g2 g3 g4
          · have h7 := (oN_neg hbl).mp h6
            rw [h7] at he
            rw [List.take_add_one, ← he]
            simp only [Option.toList_none, List.append_nil]
            exact hM1
          · cases o with
            | none => exact absurd ((oN_neg hbl).mpr rfl) h6
            | some b =>
              have hb2 := hb.2.1
              have hbW := (hdm b).mp hb2
              rw [hM1.a.2.1]
              refine ⟨_, kR_ready hJ M1 (t := b) (k := w) (by have := hlt b hb2; omega), ?_⟩
              rintro M7 rfl
              refine ⟨rfl, nI_1 i, c1 + 1, by omega, by omega, ?_, ?_⟩
              · rw [List.take_add_one, ← he]
                refine RM_awk hw hF.ln hM1 ((hWm b).mp hbW.1).1 hbW.2 hn (fun q => htW (q ▸ ((hWm b).mp hbW.1).1)) (by omega)
              · rw [← h10]
                funext q
                rw [m_rdy_at, if_neg (by omega), if_neg (by omega), if_neg (by omega), if_neg (by omega)]
        | succ m ih2 =>
          intro j o hj hb
          have h5 : ¬ M1 0 1 ≤ nI j := by rw [hM1.g.1]; intro q; have := (nle (by omega) (by omega)).mp q; omega
          have skip : j ∉ (w_sh S t).drop i → BO M1 ((w_sh S t).drop i) false (j + 1) o := fun hne => by
            cases o with
            | none =>
              intro p hp q
              by_cases e : p = j
              · exact hne (e ▸ q)
              · exact hb p (by omega) q
            | some b =>
              obtain ⟨b1, b2, b3⟩ := hb
              refine ⟨by omega, b2, fun p hp q hq => ?_⟩
              by_cases e : p = j
              · exact absurd (e ▸ q) hne
              · exact b3 p (by omega) q hq
          have hbl : ∀ p, o = some p → p < 1000 := fun p e => by
            subst e
            have := hb.1
            omega
          refine sR_release_20 F hR (K9 := fun _ _ _ => False) (K20 := fun M' x1 x2 x3 x4 => M' = M1 ∧ x1 = nI t ∧ x2 = nI i ∧ x4 = nI (j + 1) ∧ ∃ o', x3 = oN o' ∧ BO M1 ((w_sh S t).drop i) false (j + 1) o') (fun _ _ _ q => q.elim) ?_ ⟨fun q => absurd q h5, fun _ => ⟨j, rfl, by omega, fun h6 => ⟨rfl, rfl, rfl, nI_1 j, o, rfl, skip (fun q => h6 ((hmem j (by omega)).mpr q).1)⟩, fun h6 => ⟨t, rfl, by omega, fun h7 => ⟨rfl, rfl, rfl, nI_1 j, o, rfl, skip (fun q => ((hmem j (by omega)).mpr q).2 h7)⟩, fun h7 => ?_⟩⟩⟩
          · rintro M' x1 x2 x3 x4 ⟨rfl, rfl, rfl, rfl, o', rfl, g⟩
            exact ih2 (j + 1) o' (by omega) g
          · have hin : j ∈ (w_sh S t).drop i := (hmem j (by omega)).mp ⟨h6, h7⟩
            refine ⟨fun h8 => ⟨rfl, rfl, rfl, nI_1 j, some j, rfl, ?_⟩, fun h8 => ?_⟩
            · have := (oN_neg hbl).mp h8
              subst this
              refine ⟨by omega, hin, fun p hp q hq => absurd q (hb p (by omega))⟩
            · cases o with
              | none => exact absurd ((oN_neg hbl).mpr rfl) h8
              | some b =>
                obtain ⟨b1, b2, b3⟩ := hb
                have hsv := pw_ne hpw j hin b b2 (by omega)
                refine ⟨b, rfl, by omega, fun h9 => ⟨rfl, rfl, rfl, nI_1 j, some b, rfl, by omega, b2, fun p hp q hq => ?_⟩, fun h9 => ⟨rfl, rfl, rfl, nI_1 j, some j, rfl, by omega, hin, fun p hp q hq => ?_⟩⟩
                · by_cases e : p = j
                  · rw [e, if_neg Bool.false_ne_true]
                    have := (hM1.l.le (by omega) (by omega) (by omega)).mp h9
                    omega
                  · exact b3 p (by omega) q hq
                · have h10' := mt (hM1.l.le (t := b) (b := j) (by omega) (by omega) (by omega)).mpr h9
                  rw [if_neg Bool.false_ne_true]
                  by_cases e : p = b
                  · rw [e]; omega
                  · have h11 := b3 p (by omega) q e
                    rw [if_neg Bool.false_ne_true] at h11
                    omega
      refine sR_release_9 F hR (K20 := fun M2 x1 x2 x3 x4 => M2 = M1 ∧ x1 = nI t ∧ x2 = nI i ∧ x3 = oN none ∧ x4 = nI 0) ?_ ⟨fun q => absurd q h4, fun _ => ⟨rfl, rfl, rfl, rfl, rfl⟩⟩
      rintro M2 x1 x2 x3 x4 ⟨rfl, rfl, rfl, rfl, rfl⟩
      exact inner n 0 none (by omega) (fun p hp => absurd hp (Nat.not_lt_zero _))
  refine sR_release_0 F hR (K9 := fun M1 x1 x2 => M1 = mp M 5 t 5 ∧ x1 = nI t ∧ x2 = nI 0) ?_ ⟨t, rfl, by omega, ?_⟩
  · rintro M1 x1 x2 ⟨rfl, rfl, rfl⟩
    exact lp 24 0 _ c rfl (by omega) (by omega) (RM_left hM hk hp) (mp_ne _ _ _ _ (by decide))
  · rintro M1 rfl
    exact ⟨rfl, rfl, rfl⟩
end DR8
