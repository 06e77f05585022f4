/-! The class's own maker -/
def dfE : List Value := [.int 0, .null, .null, .null, .null, .null, .null, .null, .null, .null, .int 0, .int 0, .int 0, .int 0, .int 0, .int 0, .int 0]
def rmE_init : Room := { frames := 2, cells := 54, slots := 616, locals := 43 }
def EX (U : State) : Prop := va_Nw (.methodLinkNest qnE 24 yG_init qnE) U ∧ va_Nw (.methodLinkNest qnE 42 yL_init qnE) U ∧ va_AO qnL U ∧ AOA U
theorem AOA_XM : XM AOA := ⟨fun u V h hu => AOA.moved (by rw [h]; exact Vm.Alike.refl V.vm) hu, fun u V h hu => AOA.moved h.alike hu⟩
theorem EX_XM : XM EX := ⟨fun u V h hu => ⟨va_Nw.same rfl h hu.1, va_Nw.same rfl h hu.2.1, va_AO.moved (by rw [h]; exact Vm.Alike.refl V.vm) hu.2.2.1, AOA.moved (by rw [h]; exact Vm.Alike.refl V.vm) hu.2.2.2⟩, fun u V h hu => ⟨va_Nw.warmM h hu.1, va_Nw.warmM h hu.2.1, va_AO.moved h.alike hu.2.2.1, AOA.moved h.alike hu.2.2.2⟩⟩
def ar24 (cI : ClassId) : va_E := .inl (cI, 24, .inl (fun _ => 0))
/-- the graph and the semaphores among the cells -/
def EG (cI cE : ClassId) (b : Nat → Nat) (E : Nat → va_E) : Prop := E 1 = .inr (1, [.int 0, .ref (b 2), .ref (b 3), .ref (b 4), .ref (b 5), .ref (b 6), .ref (b 31), .ref (b 32), .ref (b 33)]) ∧ E 2 = ar24 cI ∧ E 3 = ar24 cI ∧ E 4 = ar24 cI ∧ E 5 = ar24 cI ∧ (∃ r : Nat → Nat, E 6 = .inl (cE, 24, .inr (.inr (.inr (.inr (fun i => if i < 24 then some (r i) else none))))) ∧ ∀ t, t < 24 → b (7 + t) = r t) ∧ (∀ t, t < 24 → E (7 + t) = .inl (cI, 6, .inl (fun _ => 0))) ∧ E 31 = ar24 cI ∧ E 32 = ar24 cI ∧ E 33 = ar24 cI ∧ E 34 = .inr (3, [.ref (b 35), .ref (b 36)]) ∧ E 35 = .inl (cI, 4, .inl (fun i => if i < 4 then 1 else 0)) ∧ E 36 = .inl (cI, 4, .inl (fun _ => 0))
theorem EG_eq {cI cE : ClassId} {b b' : Nat → Nat} {E E' : Nat → va_E} (h : EG cI cE b E) (hb : ∀ i, i < 37 → b' i = b i) (hE : ∀ i, 1 ≤ i → i < 37 → E' i = E i) : EG cI cE b' E' := by
  obtain ⟨h1, h2, h3, h4, h5, ⟨r, h6, h6'⟩, h7, h31, h32, h33, h34, h35, h36⟩ := h
  refine ⟨?_, (hE 2 (by omega) (by omega)).trans h2, (hE 3 (by omega) (by omega)).trans h3, (hE 4 (by omega) (by omega)).trans h4, (hE 5 (by omega) (by omega)).trans h5, ⟨r, (hE 6 (by omega) (by omega)).trans h6, fun t ht => (hb _ (by omega)).trans (h6' t ht)⟩, fun t ht => (hE _ (by omega) (by omega)).trans (h7 t ht), (hE 31 (by omega) (by omega)).trans h31, (hE 32 (by omega) (by omega)).trans h32, (hE 33 (by omega) (by omega)).trans h33, ?_, (hE 35 (by omega) (by omega)).trans h35, (hE 36 (by omega) (by omega)).trans h36⟩
  · rw [hE 1 (by omega) (by omega), h1, hb 2 (by omega), hb 3 (by omega), hb 4 (by omega), hb 5 (by omega), hb 6 (by omega), hb 31 (by omega), hb 32 (by omega), hb 33 (by omega)]
  · rw [hE 34 (by omega) (by omega), h34, hb 35 (by omega), hb 36 (by omega)]
/-- the array of lines and the first j lines -/
def EL (cI cL : ClassId) (w j : Nat) (b : Nat → Nat) (E : Nat → va_E) : Prop := (∃ f : Nat → Option Nat, E 37 = .inl (cL, w + 1, .inr (.inr (.inr (.inr f)))) ∧ ∀ l, l < j → f l = some (b (38 + 2 * l))) ∧ ∀ l, l < j → E (38 + 2 * l) = .inr (2, [.ref (b (38 + 2 * l + 1)), .int 0]) ∧ E (38 + 2 * l + 1) = ar24 cI
theorem EL_eq {cI cL : ClassId} {w j : Nat} {b b' : Nat → Nat} {E E' : Nat → va_E} (h : EL cI cL w j b E) (hb : ∀ i, i < 38 + 2 * j → b' i = b i) (hE : ∀ i, 37 ≤ i → i < 38 + 2 * j → E' i = E i) : EL cI cL w j b' E' := by
  obtain ⟨⟨f, h1, h2⟩, h3⟩ := h
  refine ⟨⟨f, (hE 37 (by omega) (by omega)).trans h1, fun l hl => by rw [hb _ (by omega)]; exact h2 l hl⟩, fun l hl => ?_⟩
  obtain ⟨h4, h5⟩ := h3 l hl
  rw [hE _ (by omega) (by omega), hE _ (by omega) (by omega), hb _ (by omega)]
  exact ⟨h4, h5⟩
/-- all cells of a new object -/
def EP (cI cZ cL cE : ClassId) (w q0 : Nat) (V : UU) : Prop := V.1 = 47 + 2 * w ∧ V.2.1 0 = q0 ∧ V.2.2 0 = .inr (0, [.int (nI w), .ref (V.2.1 1), .ref (V.2.1 34), .ref (V.2.1 37), .ref (V.2.1 (40 + 2 * w)), .ref (V.2.1 (42 + 2 * w)), .ref (V.2.1 (43 + 2 * w)), .ref (V.2.1 (44 + 2 * w)), .ref (V.2.1 (45 + 2 * w)), .ref (V.2.1 (46 + 2 * w)), .int 0, .int 0, .int (-1), .int 0, .int 0, .int 0, .int 0]) ∧ EG cI cE V.2.1 V.2.2 ∧ EL cI cL w (w + 1) V.2.1 V.2.2
  ∧ V.2.2 (40 + 2 * w) = .inr (2, [.ref (V.2.1 (41 + 2 * w)), .int 0]) ∧ V.2.2 (41 + 2 * w) = ar24 cI ∧ V.2.2 (42 + 2 * w) = .inl (cI, w, .inl (fun i => if i < w then -1 else 0)) ∧ V.2.2 (43 + 2 * w) = ar24 cI ∧ V.2.2 (44 + 2 * w) = ar24 cI ∧ V.2.2 (45 + 2 * w) = ar24 cI ∧ V.2.2 (46 + 2 * w) = .inl (cZ, 24, .inl (fun _ => 0))
section WM
variable {G : CX} {A : Nat → Prop} {cc : ByteArray} {nL : Nat} {own : String} {Q : State → Prop} {P : Heap → Prop} {cl sl pc : Nat} {lv : List (Nat × Value)} {rest : List Value}
theorem wh_mmin (F : FH G cc nL own) {index : Nat} (hlk : Cond.methodLink own index yH_min ∈ lw_g) (h1 : 1 ≤ (gR G).frames) (h2 : (rest.map fun v => v.category).sum + 13 ≤ (gR G).locals) (hc : cl ≤ (gR G).cells) (hs : sl ≤ (gR G).slots) {x y : Int32} (d : decode cc pc = .ok (.invokestatic index, 3)) (k : wh G A nL Q P cl sl (pc + 3) lv (.int (if y < x then y else x) :: rest)) : wh G A nL Q P cl sl pc lv (.int y :: .int x :: rest) := fun H locs ls hP hS hl =>
  va_mmin F.1 F.2.1 (F.2.2.1.trans hl.1.symm) F.2.2.2.1 (F.2.2.2.2 _ hlk) (F.2.2.2.2 _ cbH_min.1) (F.2.2.2.2 _ cbH_min.2.1) (F.2.2.2.2 _ cbH_min.2.2.1) h1 h2 hc hs d (k H locs ls hP hS hl)
theorem wh_mmax (F : FH G cc nL own) {index : Nat} (hlk : Cond.methodLink own index yH_max ∈ lw_g) (h1 : 1 ≤ (gR G).frames) (h2 : (rest.map fun v => v.category).sum + 13 ≤ (gR G).locals) (hc : cl ≤ (gR G).cells) (hs : sl ≤ (gR G).slots) {x y : Int32} (d : decode cc pc = .ok (.invokestatic index, 3)) (k : wh G A nL Q P cl sl (pc + 3) lv (.int (if x < y then y else x) :: rest)) : wh G A nL Q P cl sl pc lv (.int y :: .int x :: rest) := fun H locs ls hP hS hl =>
  va_mmax F.1 F.2.1 (F.2.2.1.trans hl.1.symm) F.2.2.2.1 (F.2.2.2.2 _ hlk) (F.2.2.2.2 _ cbH_max.1) (F.2.2.2.2 _ cbH_max.2.1) (F.2.2.2.2 _ cbH_max.2.2.1) h1 h2 hc hs d (k H locs ls hP hS hl)
end WM
theorem mm_wk (x : Int32) : (if 1 < (if 4 < x then 4 else x) then (if 4 < x then 4 else x) else 1) = nI (wk x) := by
  rw [wk_nI]
  by_cases h : x < 1
  · have h4 : ¬ (4 : Int32) < x := fun q => absurd (Int32.lt_trans q h) (by decide)
    rw [if_pos h, if_neg h4, if_neg (fun q => absurd (Int32.lt_trans q h) (by decide))]
  · rw [if_neg h]
    by_cases h2 : 4 < x
    · rw [if_pos h2, if_pos (by decide)]
    · rw [if_neg h2]
      by_cases h3 : 1 < x
      · rw [if_pos h3]
      · rw [if_neg h3]
        exact Int32.le_antisymm (Int32.not_lt.mp h) (Int32.not_lt.mp h3)
