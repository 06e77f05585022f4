/-! The reference's state against the class's: tokens -/
def RA (w n : Nat) (S : SS) (M : MM) : Prop := RG n S M ∧ M 0 0 = nI w ∧ (∀ t, t < 24 → M 8 t = S.1 39 t) ∧ (∀ t, t < 24 → M 9 t = S.1 40 t) ∧ (∀ s, s < 4 → M 14 s = S.1 35 s - 1) ∧ M 0 18 = S.1 0 10 ∧ M 0 19 = S.1 0 11 ∧ M 0 20 = S.1 0 12 ∧ M 0 21 = S.1 0 13 ∧ M 0 22 = S.1 0 14 ∧ M 0 23 = S.1 0 15 ∧ M 0 24 = S.1 0 16 ∧ (M 0 17 = 0 ↔ S.1 0 13 = 0)
/-- a task's state and spot, and its place -/
def PR (w : Nat) (st sp pl : Int32) : Prop := (st = 0 ∧ pl = 0) ∨ (st = 1 ∧ pl = 1) ∨ (st = 2 ∧ pl = 2) ∨ (∃ k, k < w ∧ st = 3 ∧ sp = nI k ∧ pl = nI (3 + k)) ∨ (∃ k, k ≤ w ∧ st = 4 ∧ sp = nI k ∧ pl = cd w (k + 1))
/-- ex: the task whose body has just come back -/
def RP (w : Nat) (S : SS) (M : MM) (ex : Option Nat) : Prop := ∀ t, t < 24 → (ex ≠ some t → PR w (M 5 t) (M 6 t) (S.1 38 t)) ∧ (ex = some t → M 5 t = 5 ∧ ∃ k, k < w ∧ S.1 38 t = nI (3 + k))
def RL (w : Nat) (S : SS) (M : MM) (c : Nat) : Prop := M 0 16 = nI c ∧ (∀ t, t < 24 → ∃ v, v ≤ c ∧ M 7 t = nI v) ∧ ∀ l, l < w + 2 → (∀ t ∈ S.2 l, tn (M 7 t) < c) ∧ (S.2 l).Pairwise (fun x y => tn (M 7 x) < tn (M 7 y))
def RH (n : Nat) (S : SS) (M : MM) : Prop := S.1 0 11 = 0 → ∀ t, t < n → S.1 2 t = 2 → S.1 38 t = 2 → (M 10 t = 0 ↔ S.1 41 t = 0)
def RM (w n : Nat) (S : SS) (M : MM) (ex : Option Nat) (c : Nat) : Prop := RA w n S M ∧ RP w S M ex ∧ RL w S M c ∧ RH n S M
theorem RM.a {w n : Nat} {S : SS} {M : MM} {ex : Option Nat} {c : Nat} (h : RM w n S M ex c) : RA w n S M := h.1
theorem RM.g {w n : Nat} {S : SS} {M : MM} {ex : Option Nat} {c : Nat} (h : RM w n S M ex c) : RG n S M := h.1.1
theorem RM.p {w n : Nat} {S : SS} {M : MM} {ex : Option Nat} {c : Nat} (h : RM w n S M ex c) : RP w S M ex := h.2.1
theorem RM.l {w n : Nat} {S : SS} {M : MM} {ex : Option Nat} {c : Nat} (h : RM w n S M ex c) : RL w S M c := h.2.2.1
theorem RM.h {w n : Nat} {S : SS} {M : MM} {ex : Option Nat} {c : Nat} (h : RM w n S M ex c) : RH n S M := h.2.2.2
theorem PR_0 {w : Nat} (hw : w ≤ 4) {st sp pl : Int32} (h : PR w st sp pl) : st = 0 ↔ pl = 0 := by
  rcases h with ⟨rfl, rfl⟩ | ⟨rfl, rfl⟩ | ⟨rfl, rfl⟩ | ⟨k, hk, rfl, rfl, rfl⟩ | ⟨k, hk, rfl, rfl, rfl⟩
  · exact ⟨fun _ => rfl, fun _ => rfl⟩
  · decide
  · decide
  · exact ⟨fun q => absurd q (by decide), fun q => absurd q (n3_0 (by omega))⟩
  · exact ⟨fun q => absurd q (by decide), fun q => absurd q (cd_0 hw (by omega))⟩
theorem RP.act {w : Nat} (hw : w ≤ 4) {S : SS} {M : MM} {ex : Option Nat} (h : RP w S M ex) {t : Nat} (ht : t < 24) : M 5 t = 0 ↔ S.1 38 t = 0 := by
  by_cases e : ex = some t
  · obtain ⟨h1, k, hk, h2⟩ := (h t ht).2 e
    rw [h1, h2]
    exact ⟨fun q => absurd q (by decide), fun q => absurd q (n3_0 (by omega))⟩
  · exact PR_0 hw ((h t ht).1 e)
/-- the reference's memory once t is ready in line l -/
def m_rdy (M : MM) (t l : Nat) : MM := mp (mp (mp (mp M 5 t 4) 6 t (nI l)) 7 t (M 0 16)) 0 16 (M 0 16 + 1)
theorem m_rdy_at (M : MM) (t l k i : Nat) : m_rdy M t l k i = if k = 0 ∧ i = 16 then M 0 16 + 1 else if k = 7 ∧ i = t then M 0 16 else if k = 6 ∧ i = t then nI l else if k = 5 ∧ i = t then 4 else M k i := by
  unfold m_rdy
  rw [mp_at, mp_at, mp_at, mp_at]
theorem RG_keep {n : Nat} {S S' : SS} {M M' : MM} (h : RG n S M) (h0 : M' 0 1 = M 0 1) (h1 : M' 1 = M 1) (h2 : M' 2 = M 2) (h3 : M' 3 = M 3) (h4 : M' 4 = M 4) (h11 : M' 11 = M 11) (h12 : M' 12 = M 12) (hf : fr S S') : RG n S' M' := by
  unfold RG
  rw [h0, h1, h2, h3, h4, h11, h12, hf 2 (by decide) (by decide), hf 3 (by decide) (by decide), hf 4 (by decide) (by decide), hf 5 (by decide) (by decide), hf 6 (by decide) (by decide)]
  refine ⟨h.1, h.2.1, h.2.2.1, h.2.2.2.1, h.2.2.2.2.1, h.2.2.2.2.2.1, fun t k ht hk => ?_⟩
  rw [hf (10 + t) (by omega) (by omega)]
  exact h.2.2.2.2.2.2 t k ht hk
theorem RM_ready {w n : Nat} {S : SS} {M : MM} {ex : Option Nat} {c : Nat} (hw : w ≤ 4) (h : RM w n S M ex c) {t l : Nat} (ht : t < 24) (hl : l ≤ w) (hx : ex ≠ some t) (hn : ∀ l', l' < w + 2 → t ∉ S.2 l') (hc : c < 2 ^ 31) : RM w n (s_ready w S t l) (m_rdy M t l) ex (c + 1) := by
  obtain ⟨⟨hg, a0, a8, a9, a14, b18, b19, b20, b21, b22, b23, b24⟩, hp, ⟨l1, l2, l3⟩, hh⟩ := h
  have at' := m_rdy_at M t l
  have row : ∀ k, k ≠ 0 → k ≠ 5 → k ≠ 6 → k ≠ 7 → m_rdy M t l k = M k := fun k q0 q5 q6 q7 => by
    funext i
    rw [at', if_neg (fun z => q0 z.1), if_neg (fun z => q7 z.1), if_neg (fun z => q6 z.1), if_neg (fun z => q5 z.1)]
  have r0 : ∀ i, i ≠ 16 → m_rdy M t l 0 i = M 0 i := fun i q => by
    rw [at', if_neg (fun z => q z.2), if_neg (by omega), if_neg (by omega), if_neg (by omega)]
  have s1 : ∀ k i, k ≠ 38 → (s_ready w S t l).1 k i = S.1 k i := fun k i q => by
    show mp S.1 38 t (cd w (l + 1)) k i = _
    rw [mp_at, if_neg (fun z => q z.1)]
  have s38 : ∀ i, (s_ready w S t l).1 38 i = if i = t then cd w (l + 1) else S.1 38 i := fun i => by
    show mp S.1 38 t (cd w (l + 1)) 38 i = _
    rw [mp_at]
    by_cases e : i = t
    · rw [if_pos ⟨rfl, e⟩, if_pos e]
    · rw [if_neg (fun z => e z.2), if_neg e]
  have r7 : ∀ i, m_rdy M t l 7 i = if i = t then nI c else M 7 i := fun i => by
    rw [at', if_neg (by omega)]
    by_cases e : i = t
    · rw [if_pos ⟨rfl, e⟩, if_pos e]; exact l1
    · rw [if_neg (fun z => e z.2), if_neg (by omega), if_neg (by omega), if_neg e]
  refine ⟨⟨RG_keep hg (r0 1 (by decide)) (row 1 (by decide) (by decide) (by decide) (by decide)) (row 2 (by decide) (by decide) (by decide) (by decide)) (row 3 (by decide) (by decide) (by decide) (by decide)) (row 4 (by decide) (by decide) (by decide) (by decide)) (row 11 (by decide) (by decide) (by decide) (by decide)) (row 12 (by decide) (by decide) (by decide) (by decide)) (fr_ready w S t l), (r0 0 (by decide)).trans a0, fun i hi => ?_, fun i hi => ?_, fun i hi => ?_, ?_, ?_, ?_, ?_, ?_, ?_, ?_⟩, fun i hi => ?_, ⟨?_, fun i hi => ?_, fun l' hl' => ?_⟩, fun q i hi h2 h38 => ?_⟩
  · rw [row 8 (by decide) (by decide) (by decide) (by decide), s1 39 i (by decide)]; exact a8 i hi
  · rw [row 9 (by decide) (by decide) (by decide) (by decide), s1 40 i (by decide)]; exact a9 i hi
  · rw [row 14 (by decide) (by decide) (by decide) (by decide), s1 35 i (by decide)]; exact a14 i hi
  · rw [r0 18 (by decide), s1 0 10 (by decide)]; exact b18
  · rw [r0 19 (by decide), s1 0 11 (by decide)]; exact b19
  · rw [r0 20 (by decide), s1 0 12 (by decide)]; exact b20
  · rw [r0 21 (by decide), s1 0 13 (by decide)]; exact b21
  · rw [r0 22 (by decide), s1 0 14 (by decide)]; exact b22
  · rw [r0 23 (by decide), s1 0 15 (by decide)]; exact b23
  · rw [r0 24 (by decide), s1 0 16 (by decide), r0 17 (by decide), s1 0 13 (by decide)]; exact b24
  · rw [s38]
    by_cases e : i = t
    · subst e
      refine ⟨fun _ => ?_, fun q => absurd q hx⟩
      rw [if_pos rfl, at', if_neg (by omega), if_neg (by omega), if_neg (by omega), if_pos ⟨rfl, rfl⟩, at', if_neg (by omega), if_neg (by omega), if_pos ⟨rfl, rfl⟩]
      exact Or.inr (Or.inr (Or.inr (Or.inr ⟨l, hl, rfl, rfl, rfl⟩)))
    · rw [if_neg e, at', if_neg (by omega), if_neg (by omega), if_neg (by omega), if_neg (fun z => e z.2), at', if_neg (by omega), if_neg (by omega), if_neg (fun z => e z.2), if_neg (by omega)]
      exact hp i hi
  · rw [at', if_pos ⟨rfl, rfl⟩, l1, nI_1]
  · rw [r7]
    by_cases e : i = t
    · rw [if_pos e]; exact ⟨c, by omega, rfl⟩
    · rw [if_neg e]
      obtain ⟨v, v1, v2⟩ := l2 i hi
      exact ⟨v, by omega, v2⟩
  · obtain ⟨m1, m2⟩ := l3 l' hl'
    have hne : ∀ x ∈ S.2 l', x ≠ t := fun x hx q => hn l' hl' (q ▸ hx)
    have m1' : ∀ x ∈ S.2 l', tn (m_rdy M t l 7 x) < c := fun x hx => by rw [r7, if_neg (hne x hx)]; exact m1 x hx
    have m2' : (S.2 l').Pairwise (fun x y => tn (m_rdy M t l 7 x) < tn (m_rdy M t l 7 y)) := by
      refine List.Pairwise.imp_of_mem (fun {x y} hx hy q => ?_) m2
      rw [r7, if_neg (hne x hx), r7, if_neg (hne y hy)]
      exact q
    have et : tn (m_rdy M t l 7 t) = c := by rw [r7, if_pos rfl]; exact nI_clamp hc
    show (∀ x ∈ va_up S.2 (l + 1) (S.2 (l + 1) ++ [t]) l', _) ∧ (va_up S.2 (l + 1) (S.2 (l + 1) ++ [t]) l').Pairwise _
    unfold va_up
    by_cases e : l' = l + 1
    · subst e
      rw [if_pos rfl]
      refine ⟨fun x hx => ?_, List.pairwise_append.mpr ⟨m2', List.pairwise_singleton _ t, fun x hx y hy => ?_⟩⟩
      · rcases List.mem_append.mp hx with q | q
        · have := m1' x q; omega
        · rw [List.mem_singleton.mp q, et]; omega
      · rw [List.mem_singleton.mp hy, et]; exact m1' x hx
    · rw [if_neg e]
      exact ⟨fun x hx => by have := m1' x hx; omega, m2'⟩
  · rw [s1 0 11 (by decide)] at q
    rw [s1 2 i (by decide)] at h2
    rw [row 10 (by decide) (by decide) (by decide) (by decide), s1 41 i (by decide)]
    rw [s38] at h38
    by_cases e : i = t
    · rw [if_pos e] at h38
      exact absurd h38 (cd_2 hw (by omega))
    · rw [if_neg e] at h38
      exact hh q i hi h2 h38
/-- one more token lost -/
theorem RM_lost {w n : Nat} {S : SS} {M : MM} {ex : Option Nat} {c : Nat} (h : RM w n S M ex c) : RM w n (sp S 0 15 (S.1 0 15 + 1)) (mp M 0 23 (M 0 23 + 1)) ex c := by
  obtain ⟨⟨hg, a0, a8, a9, a14, b18, b19, b20, b21, b22, b23, b24⟩, hp, ⟨l1, l2, l3⟩, hh⟩ := h
  have row : ∀ k, k ≠ 0 → mp M 0 23 (M 0 23 + 1) k = M k := fun k q => mp_ne _ _ _ _ q
  have r0 : ∀ i, i ≠ 23 → mp M 0 23 (M 0 23 + 1) 0 i = M 0 i := fun i q => by rw [mp_at, if_neg (fun z => q z.2)]
  have s0 : ∀ i, i ≠ 15 → (sp S 0 15 (S.1 0 15 + 1)).1 0 i = S.1 0 i := fun i q => by rw [sp_r, if_neg (fun z => q z.2)]
  have s1 : ∀ k, k ≠ 0 → (sp S 0 15 (S.1 0 15 + 1)).1 k = S.1 k := fun k q => sp_ne S 0 15 _ k q
  refine ⟨⟨RG_keep hg (r0 1 (by decide)) (row 1 (by decide)) (row 2 (by decide)) (row 3 (by decide)) (row 4 (by decide)) (row 11 (by decide)) (row 12 (by decide)) (fr.sp0 S 15 _), (r0 0 (by decide)).trans a0, ?_, ?_, ?_, ?_, ?_, ?_, ?_, ?_, ?_, ?_⟩, ?_, ⟨?_, ?_, ?_⟩, ?_⟩
  · rw [row 8 (by decide), s1 39 (by decide)]; exact a8
  · rw [row 9 (by decide), s1 40 (by decide)]; exact a9
  · rw [row 14 (by decide), s1 35 (by decide)]; exact a14
  · rw [r0 18 (by decide), s0 10 (by decide)]; exact b18
  · rw [r0 19 (by decide), s0 11 (by decide)]; exact b19
  · rw [r0 20 (by decide), s0 12 (by decide)]; exact b20
  · rw [r0 21 (by decide), s0 13 (by decide)]; exact b21
  · rw [r0 22 (by decide), s0 14 (by decide)]; exact b22
  · rw [mp_at, if_pos ⟨rfl, rfl⟩, sp_r, if_pos ⟨rfl, rfl⟩, b23]
  · rw [r0 24 (by decide), s0 16 (by decide), r0 17 (by decide), s0 13 (by decide)]; exact b24
  · unfold RP; rw [row 5 (by decide), row 6 (by decide), s1 38 (by decide)]; exact hp
  · rw [r0 16 (by decide)]; exact l1
  · rw [row 7 (by decide)]; exact l2
  · rw [row 7 (by decide)]; exact l3
  · unfold RH; rw [s0 11 (by decide), row 10 (by decide), s1 2 (by decide), s1 38 (by decide), s1 41 (by decide)]; exact hh
/-- arrivals of t become x -/
theorem RM_came {w n : Nat} {S : SS} {M : MM} {ex : Option Nat} {c : Nat} (h : RM w n S M ex c) (t : Nat) (x : Int32) : RM w n (sp S 39 t x) (mp M 8 t x) ex c := by
  obtain ⟨⟨hg, a0, a8, a9, a14, b18, b19, b20, b21, b22, b23, b24⟩, hp, ⟨l1, l2, l3⟩, hh⟩ := h
  have row : ∀ k, k ≠ 8 → mp M 8 t x k = M k := fun k q => mp_ne _ _ _ _ q
  have s1 : ∀ k, k ≠ 39 → (sp S 39 t x).1 k = S.1 k := fun k q => sp_ne S 39 t x k q
  refine ⟨⟨RG_keep hg (by rw [row 0 (by decide)]) (row 1 (by decide)) (row 2 (by decide)) (row 3 (by decide)) (row 4 (by decide)) (row 11 (by decide)) (row 12 (by decide)) (fr.sp S (by decide) t x), by rw [row 0 (by decide)]; exact a0, fun i hi => ?_, ?_, ?_, ?_, ?_, ?_, ?_, ?_, ?_, ?_⟩, ?_, ⟨?_, ?_, ?_⟩, ?_⟩
  · rw [mp_at, sp_r]
    by_cases e : i = t
    · rw [if_pos ⟨rfl, e⟩, if_pos ⟨rfl, e⟩]
    · rw [if_neg (fun z => e z.2), if_neg (fun z => e z.2)]; exact a8 i hi
  · rw [row 9 (by decide), s1 40 (by decide)]; exact a9
  · rw [row 14 (by decide), s1 35 (by decide)]; exact a14
  · rw [row 0 (by decide), s1 0 (by decide)]; exact b18
  · rw [row 0 (by decide), s1 0 (by decide)]; exact b19
  · rw [row 0 (by decide), s1 0 (by decide)]; exact b20
  · rw [row 0 (by decide), s1 0 (by decide)]; exact b21
  · rw [row 0 (by decide), s1 0 (by decide)]; exact b22
  · rw [row 0 (by decide), s1 0 (by decide)]; exact b23
  · rw [row 0 (by decide), s1 0 (by decide)]; exact b24
  · unfold RP; rw [row 5 (by decide), row 6 (by decide), s1 38 (by decide)]; exact hp
  · rw [row 0 (by decide)]; exact l1
  · rw [row 7 (by decide)]; exact l2
  · rw [row 7 (by decide)]; exact l3
  · unfold RH; rw [s1 0 (by decide), row 10 (by decide), s1 2 (by decide), s1 38 (by decide), s1 41 (by decide)]; exact hh
section DR3
variable {l : Launch} {D : va_G} {cI cZ : ClassId} {a : Nat → Nat} {w n : Nat}
theorem kR_ready (hJ : IJ (sM D cI cZ a)) (M : MM) {t k : Nat} (ht : t < 24) : Cv l (sM D cI cZ a) yR_ready wR_ready rmR_ready [.ref (a 0), .int (nI t), .int (nI k)] M (fun M' => M' = m_rdy M t k) := by
  refine oR_ready hJ ⟨t, rfl, ht, ?_⟩
  rintro M1 rfl M7 rfl M9 rfl M11 rfl
  unfold m_rdy
  have e1 : mp (mp M 5 t 4) 6 t (nI k) 0 16 = M 0 16 := by rw [mp_at, if_neg (by omega), mp_at, if_neg (by omega)]
  rw [e1]
  have e2 : mp (mp (mp M 5 t 4) 6 t (nI k)) 7 t (M 0 16) 0 16 = M 0 16 := by rw [mp_at, if_neg (by omega)]; exact e1
  rw [e2]
/-- what a step of the reference does: the state goes on, the clock goes on by at most b, hurt stays -/
def rs (w n : Nat) (S' : SS) (ex : Option Nat) (c b : Nat) (M M' : MM) : Prop := (∃ c', c ≤ c' ∧ c' ≤ c + b ∧ RM w n S' M' ex c') ∧ M' 10 = M 10
theorem kR_token (hJ : IJ (sM D cI cZ a)) {S : SS} (M : MM) {ex : Option Nat} {c : Nat} (hM : RM w n S M ex c) (hF : WF w n S) {t k : Nat} (ht : t < n) (hk : k ≤ w) (hc : c < 2 ^ 31) : Cv l (sM D cI cZ a) yR_token wR_token rmR_token [.ref (a 0), .int (nI t), .int (nI k)] M (fun M' => rs w n (s_token w S t k) ex c 1 M M') := by
  have hn := hF.le
  have hw := hF.w4
  have hact := hM.p.act hw (t := t) (by omega)
  refine oR_token hJ ⟨t, rfl, by omega, fun h => ⟨_, kR_ready hJ M (by omega), ?_⟩, fun h => ?_⟩
  · rintro M10 rfl
    have e := hact.mp h
    have hx : ex ≠ some t := fun q => by
      obtain ⟨h1, -⟩ := (hM.p t (by omega)).2 q
      rw [h] at h1
      exact absurd h1 (by decide)
    refine ⟨⟨c + 1, by omega, by omega, ?_⟩, ?_⟩
    · unfold s_token
      rw [if_pos e]
      exact RM_ready hw hM (by omega) hk hx (fun l' hl' q => cd_0 hw hl' (by rw [← (((hF.ln l' hl').2 t).mp q).2]; exact e)) hc
    · funext i
      rw [m_rdy_at, if_neg (by omega), if_neg (by omega), if_neg (by omega), if_neg (by omega)]
  · rintro M12 rfl
    refine ⟨⟨c, by omega, by omega, ?_⟩, mp_ne _ _ _ _ (by decide)⟩
    unfold s_token
    rw [if_neg (fun q => h (hact.mpr q))]
    exact RM_lost hM
theorem kR_wake (hJ : IJ (sM D cI cZ a)) {S : SS} (M : MM) {ex : Option Nat} {c : Nat} (hM : RM w n S M ex c) (hF : WF w n S) (p : Int32) {k : Nat} (hk : k ≤ w) (hc : c + 24 < 2 ^ 31) : Cv l (sM D cI cZ a) yR_wake wR_wake rmR_wake [.ref (a 0), .int p, .int (nI k)] M (fun M' => rs w n (s_srcs w p k (s_arr0 p S n) n) ex c 24 M M') := by
  have hn := hF.le
  have hw := hF.w4
  refine oR_wake hJ (fun G hl hR F => ?_)
  subst hl
  have l2 : ∀ m j c1 M1, j + m = n → c ≤ c1 → c1 ≤ c + j → RM w n (s_srcs w p k (s_arr0 p S n) j) M1 ex c1 → M1 10 = M 10 → wx G (sM D cI cZ a) 4 (Qxv G (sM D cI cZ a) (fun M' => rs w n (s_srcs w p k (s_arr0 p S n) n) ex c 24 M M')) M1 44 [(0, .ref (a 0)), (1, .int p), (2, .int (nI k)), (3, .int (nI j))] [] := by
    intro m
    induction m with
    | zero =>
      intro j c1 M1 hj hc0 hc1 hM1 h10
      have hj : j = n := by omega
      subst hj
      have h4 : M1 0 1 ≤ nI j := by rw [hM1.g.1]; exact (nle (by omega) (by omega)).mpr (by omega)
      exact sR_wake_44 F hR (K44 := fun _ _ _ _ => False) (fun _ _ _ _ q => q.elim) ⟨fun _ => ⟨⟨c1, hc0, by omega, hM1⟩, h10⟩, fun q => absurd h4 q⟩
    | succ m ih =>
      intro j c1 M1 hj hc0 hc1 hM1 h10
      have h4 : ¬ M1 0 1 ≤ nI j := by rw [hM1.g.1]; intro q; have := (nle (by omega) (by omega)).mp q; omega
      have hk1 := (kp1_arr0 (w := w) (n := n) p S n).tr (kp1_srcs hw (s_arr0 p S n) p hk (m := j) (by omega))
      have hF1 := hF.k hk1
      have hk0 := kp1_srcs (w := w) (n := n) hw (s_arr0 p S n) p hk (m := j) (by omega)
      have e2 : M1 2 j = (s_arr0 p S n).1 3 j := by rw [hM1.g.2.2.1, hk0.1 3 (by decide) (by decide)]
      have e7 : (s_srcs w p k (s_arr0 p S n) j).1 7 j = (s_arr0 p S n).1 7 j := by rw [hk0.1 7 (by decide) (by decide)]
      refine sR_wake_44 F hR (K44 := fun M2 x1 x2 x3 => x1 = p ∧ x2 = nI k ∧ x3 = nI (j + 1) ∧ ∃ c2, c ≤ c2 ∧ c2 ≤ c + (j + 1) ∧ RM w n (s_srcs w p k (s_arr0 p S n) (j + 1)) M2 ex c2 ∧ M2 10 = M 10) ?_ ⟨fun q => absurd q h4, fun _ => ⟨j, rfl, by omega, fun h5 => ⟨rfl, rfl, nI_1 j, c1, hc0, by omega, ?_, h10⟩, fun h5 => ⟨_, kR_into0 hJ M1 hM1.g hF1.g (by omega), ?_⟩⟩⟩
      · rintro M2 x1 x2 x3 ⟨h1, rfl, rfl, c2, g0, g1, g2, g3⟩
        rw [h1]
        exact ih (j + 1) c2 M2 (by omega) g0 g1 g2 g3
      · unfold s_srcs
        rw [if_neg (fun q => h5 (e2.trans q.1))]
        exact hM1
      · rintro r M2 ⟨rfl, rfl⟩
        rw [e7]
        refine ⟨fun h7 => ⟨rfl, rfl, nI_1 j, c1, hc0, by omega, ?_, h10⟩, fun h7 => ⟨_, kR_token hJ M2 hM1 hF1 (t := j) (by omega) hk (by omega), fun M3 hM3 => ⟨rfl, rfl, nI_1 j, ?_⟩⟩⟩
        · unfold s_srcs
          rw [if_neg (fun q => h7 q.2)]
          exact hM1
        · obtain ⟨⟨c2, g0, g1, g2⟩, g3⟩ := hM3
          refine ⟨c2, by omega, by omega, ?_, g3.trans h10⟩
          unfold s_srcs
          rw [if_pos ⟨e2.symm.trans h5, h7⟩]
          exact g2
  have l1 : ∀ m j M1, j + m = n → RM w n (s_arr0 p S j) M1 ex c → M1 10 = M 10 → wx G (sM D cI cZ a) 4 (Qxv G (sM D cI cZ a) (fun M' => rs w n (s_srcs w p k (s_arr0 p S n) n) ex c 24 M M')) M1 2 [(0, .ref (a 0)), (1, .int p), (2, .int (nI k)), (3, .int (nI j))] [] := by
    intro m
    induction m with
    | zero =>
      intro j M1 hj hM1 h10
      have hj : j = n := by omega
      subst hj
      have h4 : M1 0 1 ≤ nI j := by rw [hM1.g.1]; exact (nle (by omega) (by omega)).mpr (by omega)
      refine sR_wake_2 F hR (K2 := fun _ _ _ _ => False) (K44 := fun M2 x1 x2 x3 => M2 = M1 ∧ x1 = p ∧ x2 = nI k ∧ x3 = nI 0) (fun _ _ _ _ q => q.elim) ?_ ⟨fun _ => ⟨rfl, rfl, rfl, rfl⟩, fun q => absurd h4 q⟩
      rintro M2 x1 x2 x3 ⟨rfl, h1, rfl, rfl⟩
      rw [h1]
      exact l2 j 0 c M2 (by omega) (by omega) (by omega) hM1 h10
    | succ m ih =>
      intro j M1 hj hM1 h10
      have h4 : ¬ M1 0 1 ≤ nI j := by rw [hM1.g.1]; intro q; have := (nle (by omega) (by omega)).mp q; omega
      have hk0 := kp1_arr0 (w := w) (n := n) p S j
      have e2 : M1 2 j = S.1 3 j := by rw [hM1.g.2.2.1, hk0.1 3 (by decide) (by decide)]
      refine sR_wake_2 F hR (K2 := fun M2 x1 x2 x3 => x1 = p ∧ x2 = nI k ∧ x3 = nI (j + 1) ∧ RM w n (s_arr0 p S (j + 1)) M2 ex c ∧ M2 10 = M 10) (K44 := fun _ _ _ _ => False) ?_ (fun _ _ _ _ q => q.elim) ⟨fun q => absurd q h4, fun _ => ⟨j, rfl, by omega, fun h5 => ?_, fun h5 => ?_⟩⟩
      · rintro M2 x1 x2 x3 ⟨h1, rfl, rfl, g1, g2⟩
        rw [h1]
        exact ih (j + 1) M2 (by omega) g1 g2
      · rintro M7 rfl
        have e : mp M1 8 j (M1 8 j) = M1 := by
          funext k' i
          rw [mp_at]
          by_cases q : k' = 8 ∧ i = j
          · rw [if_pos q, q.1, q.2]
          · rw [if_neg q]
        rw [e]
        refine ⟨rfl, rfl, nI_1 j, ?_, h10⟩
        unfold s_arr0
        rw [if_neg (fun q => h5 (e2.trans q))]
        exact hM1
      · rintro M7 rfl
        refine ⟨rfl, rfl, nI_1 j, ?_, (mp_ne _ _ _ _ (by decide)).trans h10⟩
        unfold s_arr0
        rw [if_pos (e2.symm.trans h5)]
        exact RM_came hM1 j 0
  refine sR_wake_0 F hR (K2 := fun M' x1 x2 x3 => M' = M ∧ x1 = p ∧ x2 = nI k ∧ x3 = nI 0) ?_ ⟨rfl, rfl, rfl, rfl⟩
  rintro M' x1 x2 x3 ⟨rfl, h1, rfl, rfl⟩
  rw [h1]
  exact l1 n 0 M' (by omega) hM rfl
end DR3
