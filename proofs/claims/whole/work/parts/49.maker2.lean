/-! The class's own maker: its walk -/
def fsE (w : Nat) (v : Nat → Value) : List Value := [.int (nI w), v 1, v 2, v 3, v 4, v 5, v 6, v 7, v 8, v 9, .int 0, .int 0, .int 0, .int 0, .int 0, .int 0, .int 0]
section EM
variable {G : CX} {D : va_G} {A : Nat → Prop} {Q : State → Prop} {cl sl pc : Nat} {lv : List (Nat × Value)} {rest : List Value} {tys : List (ClassId × FieldType)} {cI cZ : ClassId}
theorem e_line (F : FH G cE_init 3 qnE) (hK : va_K D vwC [(cI, .int), (cZ, .boolean)] (gs G)) (hX : EX (gs G)) (hA : ∀ q, (gs G).heap.size ≤ q → A q) (hR : 2 ≤ (gR G).frames ∧ 32 ≤ (gR G).locals) {n : Nat} {a : Nat → Nat} {E : Nat → va_E} (d1 : decode cE_init pc = .ok (.new 36, 3)) (d2 : decode cE_init (pc + 3) = .ok (.dup, 1)) (d3 : decode cE_init (pc + 3 + 1) = .ok (.invokespecial 42, 3)) (hc : cl + 2 ≤ (gR G).cells) (hs : sl + 26 ≤ (gR G).slots) (hrm : (rest.map fun v => v.category).sum ≤ 7)
    (kk : ∀ a' E', (∀ i, i < n → a' i = a i) → (∀ i, i < n → E' i = E i) → E' n = .inr (2, [.ref (a' (n + 1)), .int 0]) → E' (n + 1) = ar24 cI → wh G A 3 Q (pwu D A (n + 2, a', E')) (cl + 2) (sl + 26) (pc + 7) lv (.ref (a' n) :: rest)) : wh G A 3 Q (pwu D A (n, a, E)) cl sl pc lv rest := by
  refine wh_new F hK hA (C := qnL) (ci := 2) hiL tyL tyL_ok lcE_36 nsL inL rfl (fs := [.null, .int 0]) (by decide +kernel) (by omega) (by omega) d1 (fun q => ?_)
  refine wh_dup F d2 rfl ?_
  have hM := kL_init (gl G) D cI cZ n (fun k => if k = n then q else a k) (fun k => if k = n then .inr (2, [.null, .int 0]) else E k) (if_pos rfl)
  rw [show (if n = n then q else a n) = q from if_pos rfl] at hM
  refine wh_ctorN F hA hK (X := fun _ => True) trivial XM_tt hM ⟨va_cnB 0 F.2.2.2.2 (gd_init coL) rfl rfl rfl hX.2.1 (F.2.2.2.2 _ inL) (by decide +kernel) ⟨hR.1, hR.2⟩, rfl, F.2.2.2.2 _ imL⟩ rfl rfl (by rw [List.map_cons, List.sum_cons]; exact Nat.add_le_add_left hrm 1) d3 ⟨by omega, by omega⟩ (fun U' c1 c2 hp _ => ?_)
  obtain ⟨n', a', E'⟩ := U'
  obtain ⟨h1, h2, h3, h4, h5⟩ := hp
  have h1 : n' = n + 2 := h1
  subst h1
  have hq : q = a' n := ((h2 n (Nat.le_refl _)).trans (if_pos rfl)).symm
  rw [hq]
  exact kk a' E' (fun i hi => (h2 i (by omega)).trans (if_neg (by omega))) (fun i hi => (h3 i hi).trans (if_neg (by omega))) h4 h5
theorem e_arr (F : FH G cE_init 3 qnE) (hK : va_K D vwC tys (gs G)) (hin : (gme G).name = "<init>") (hA : ∀ q, (gs G).heap.size ≤ q → A q) {cA : ClassId} {ty : FieldType} (t0 : Nat) (ht : tys[t0]? = some (cA, ty)) (hno : ∀ C, ty ≠ .object C) (hm : Cond.arrayClass ty ∈ lw_g) {atype : ArrayType} (hty : newarray.typeOf atype = ty) (hdv : defaultValue ty = .int 0) {x : Int32} {N : Nat} (hn : ¬ x < 0) (hN : x.toNatClampNeg = N) (hb : N * componentBytes ty ≤ 536870912) (hc : cl + 1 ≤ (gR G).cells) (hs : sl + N ≤ (gR G).slots) (d : decode cE_init pc = .ok (.newarray atype, 2)) {n q0 : Nat} (hn0 : 0 < n) {a : Nat → Nat} {E : Nat → va_E} {fs : List Value} (h0 : E 0 = .inr (0, fs)) (ha : a 0 = q0) (j : Nat) (hj : j < 17) {index : Nat} (hlink : Cond.fieldLink qnE index qnE (TE j).2.1 (TE j).2.2.1 ∈ lw_g) (hT : (TE j).1 = qnE) (hfin : (TE j).2.2.2 = true) (hd : parseFieldDescriptor (TE j).2.2.1 = some (.array ty)) (hl0 : j < fs.length) (d2 : decode cE_init (pc + 2) = .ok (.putfield index, 3))
    (kk : ∀ a' E', (∀ i, i < n → a' i = a i) → (∀ i, 0 < i → i < n → E' i = E i) → E' 0 = .inr (0, fs.set j (.ref (a' n))) → E' n = .inl (cA, N, .inl (fun _ => 0)) → wh G A 3 Q (pwu D A (n + 1, a', E')) (cl + 1) (sl + N) (pc + 5) lv rest) : wh G A 3 Q (pwu D A (n, a, E)) cl sl pc lv (.int x :: .ref q0 :: rest) := by
  refine wh_newa F hK hA t0 ht hno hm hty hdv hn hN hb hc hs d (fun q => ?_)
  refine wh_putF F hK hin hiE tyE tyE_ok nmE 0 (show 0 < n + 1 by omega) (show (if 0 = n then _ else E 0) = _ by rw [if_neg (by omega)]; exact h0) rfl j hj hlink hT hfin rfl hd rfl rfl hl0 d2 (show q0 = (if 0 = n then q else a 0) by rw [if_neg (by omega)]; exact ha.symm) ?_
  have hq : (if n = n then q else a n) = q := if_pos rfl
  refine kk (fun k => if k = n then q else a k) (fun k => if k = 0 then .inr (0, fs.set j (.ref q)) else if k = n then .inl (cA, N, .inl (fun _ => 0)) else E k) (fun i hi => if_neg (by omega)) (fun i hi hi2 => ?_) ?_ ?_
  · show (if i = 0 then _ else if i = n then _ else E i) = _
    rw [if_neg (by omega), if_neg (by omega)]
  · show (if 0 = 0 then _ else _ : va_E) = _
    rw [if_pos rfl]
    show _ = Sum.inr (0, fs.set j (.ref (if n = n then q else a n)))
    rw [hq]
  · show (if n = 0 then _ else if n = n then _ else E n) = _
    rw [if_neg (by omega), if_pos rfl]
end EM
set_option maxRecDepth 100000 in
set_option maxHeartbeats 4000000 in
theorem e_tail {G : CX} {D : va_G} {cI cZ cL cE : ClassId} {U0 : UU} {w q0 : Nat} {x : Int32} (hw : w ≤ 4) (F : FH G cE_init 3 qnE) (hRm : gR G = rmE_init) (hin : (gme G).name = "<init>") (hK : va_K D vwC [(cI, .int), (cZ, .boolean)] (gs G)) (hK4 : va_K D vwC [(cI, .int), (cZ, .boolean), (cL, .object qnL), (cE, .array .int)] (gs G)) (hX : EX (gs G)) (hlo : (gme G).locks = false) (hr : (gme G).sig.returnType = none)
    (a : Nat → Nat) (E : Nat → va_E) (ha : a 0 = q0) (h0 : E 0 = .inr (0, [.int (nI w), .ref (a 1), .ref (a 34), .ref (a 37), .null, .null, .null, .null, .null, .null, .int 0, .int 0, .int 0, .int 0, .int 0, .int 0, .int 0])) (hG : EG cI cE a E) (hL : EL cI cL w (w + 1) a E) : wh G (AG U0 (gs G).heap.size) 3 (Qg G D U0 (fun cL cE => [(cI, .int), (cZ, .boolean), (cL, .object qnL), (cE, .array .int)]) (fun u => EP cI cZ u.2.1 u.2.2 w q0 u.1) 54 616) (pwu D (AG U0 (gs G).heap.size) (40 + 2 * w, a, E)) 47 490 81 [(0, .ref q0)] [] := by
  have hA : ∀ q, (gs G).heap.size ≤ q → AG U0 (gs G).heap.size q := fun q h => Or.inr h
  refine wh_aload_n F 0 dE_init_81 rfl rfl ?_
  refine e_line F hK hX hA (by rw [hRm]; exact ⟨by decide, by decide⟩) dE_init_82 dE_init_85 dE_init_86 (by rw [hRm]; decide) (by rw [hRm]; decide) (Nat.le_of_ble_eq_true rfl) (fun a1 E1 ea1 eE1 hp1 hp2 => ?_)
  refine wh_putF F hK hin hiE tyE tyE_ok nmE 0 (show 0 < 40 + 2 * w + 2 by omega) ((eE1 0 (by omega)).trans h0) rfl 4 (by decide) lfE_43 rfl rfl rfl (ty := .object qnL) (by decide +kernel) rfl rfl (Nat.le_of_ble_eq_true rfl) dE_init_89 (ha.symm.trans (ea1 0 (by omega)).symm) ?_
  have hG1 : EG cI cE a1 (ust (40 + 2 * w + 2, a1, E1) 0 (.inr (0, [.int (nI w), .ref (a 1), .ref (a 34), .ref (a 37), .ref (a1 (40 + 2 * w)), .null, .null, .null, .null, .null, .int 0, .int 0, .int 0, .int 0, .int 0, .int 0, .int 0]))).2.2 := EG_eq hG (fun i hi => ea1 i (by omega)) (fun i h1 h2 => (if_neg (by omega)).trans (eE1 i (by omega)))
  have hL1 : EL cI cL w (w + 1) a1 (ust (40 + 2 * w + 2, a1, E1) 0 (.inr (0, [.int (nI w), .ref (a 1), .ref (a 34), .ref (a 37), .ref (a1 (40 + 2 * w)), .null, .null, .null, .null, .null, .int 0, .int 0, .int 0, .int 0, .int 0, .int 0, .int 0]))).2.2 := EL_eq hL (fun i hi => ea1 i (by omega)) (fun i h1 h2 => (if_neg (by omega)).trans (eE1 i (by omega)))
  have hq1 : (ust (40 + 2 * w + 2, a1, E1) 0 (.inr (0, [.int (nI w), .ref (a 1), .ref (a 34), .ref (a 37), .ref (a1 (40 + 2 * w)), .null, .null, .null, .null, .null, .int 0, .int 0, .int 0, .int 0, .int 0, .int 0, .int 0]))).2.2 0 = .inr (0, [.int (nI w), .ref (a1 1), .ref (a1 34), .ref (a1 37), .ref (a1 (40 + 2 * w)), .null, .null, .null, .null, .null, .int 0, .int 0, .int 0, .int 0, .int 0, .int 0, .int 0]) := by
    rw [ea1 1 (by omega), ea1 34 (by omega), ea1 37 (by omega)]
    rfl
  have hp1' : (ust (40 + 2 * w + 2, a1, E1) 0 (.inr (0, [.int (nI w), .ref (a 1), .ref (a 34), .ref (a 37), .ref (a1 (40 + 2 * w)), .null, .null, .null, .null, .null, .int 0, .int 0, .int 0, .int 0, .int 0, .int 0, .int 0]))).2.2 (40 + 2 * w) = .inr (2, [.ref (a1 (41 + 2 * w)), .int 0]) := (if_neg (by omega)).trans (by dsimp only; rw [hp1, show 40 + 2 * w + 1 = 41 + 2 * w by omega])
  have hp2' : (ust (40 + 2 * w + 2, a1, E1) 0 (.inr (0, [.int (nI w), .ref (a 1), .ref (a 34), .ref (a 37), .ref (a1 (40 + 2 * w)), .null, .null, .null, .null, .null, .int 0, .int 0, .int 0, .int 0, .int 0, .int 0, .int 0]))).2.2 (41 + 2 * w) = ar24 cI := (if_neg (by omega)).trans (by dsimp only; rw [← hp2, show 40 + 2 * w + 1 = 41 + 2 * w by omega])
  have ha1 : a1 0 = q0 := (ea1 0 (by omega)).trans ha
  rw [show (ust (40 + 2 * w + 2, a1, E1) 0 (.inr (0, List.set [.int (nI w), .ref (a 1), .ref (a 34), .ref (a 37), .null, .null, .null, .null, .null, .null, .int 0, .int 0, .int 0, .int 0, .int 0, .int 0, .int 0] 4 (.ref (a1 (40 + 2 * w)))))) = (42 + 2 * w, a1, (ust (40 + 2 * w + 2, a1, E1) 0 (.inr (0, [.int (nI w), .ref (a 1), .ref (a 34), .ref (a 37), .ref (a1 (40 + 2 * w)), .null, .null, .null, .null, .null, .int 0, .int 0, .int 0, .int 0, .int 0, .int 0, .int 0]))).2.2) from by show (40 + 2 * w + 2, _, _) = _; rw [show 40 + 2 * w + 2 = 42 + 2 * w by omega]; rfl]
  generalize (ust (40 + 2 * w + 2, a1, E1) 0 (.inr (0, [.int (nI w), .ref (a 1), .ref (a 34), .ref (a 37), .ref (a1 (40 + 2 * w)), .null, .null, .null, .null, .null, .int 0, .int 0, .int 0, .int 0, .int 0, .int 0, .int 0]))).2.2 = E2 at hG1 hL1 hq1 hp1' hp2' ⊢
  clear eE1 hp1 hp2 h0 hG hL ea1 ha
  refine wh_aload_n F 0 dE_init_92 rfl rfl ?_
  refine wh_aload_n F 0 dE_init_93 rfl rfl ?_
  refine wh_get F hK hiE 0 (show 0 < 42 + 2 * w by omega) hq1 rfl 0 (by decide) lfE_18 rfl rfl dE_init_94 ha1.symm ?_
  refine e_arr F hK hin hA (cA := cI) (ty := .int) 0 rfl (fun _ h => by cases h) lw_int (atype := .int) rfl rfl (N := w) (nneg (by omega)) (nI_clamp (by omega)) (by show w * 4 ≤ _; omega) (by rw [hRm]; decide) (by rw [hRm]; show 490 + 26 + w ≤ 616; omega) dE_init_97 (show 0 < 42 + 2 * w by omega) hq1 ha1 5 (by decide) lfE_47 rfl rfl (by decide +kernel) (Nat.le_of_ble_eq_true rfl) dE_init_99 (fun a3 E3 ea3 eE3 hz3 hn3 => ?_)
  refine wh_wide (cl' := 50) (sl' := 520) (Nat.le_refl _) (by show 490 + 26 + w ≤ 520; omega) ?_
  refine wh_aload_n F 0 dE_init_102 rfl rfl ?_
  refine wh_get F hK hiE 0 (show 0 < 42 + 2 * w + 1 by omega) hz3 rfl 5 (by decide) lfE_47 rfl rfl dE_init_103 (ha1.symm.trans (ea3 0 (by omega)).symm) ?_
  refine wh_iconst (v := -1) F dE_init_106 (by decide) ?_
  refine wh_fill F hA hK (42 + 2 * w) (show 42 + 2 * w < 42 + 2 * w + 1 by omega) hn3 (by omega) 0 rfl lmE_51 ⟨by rw [hRm]; decide, by rw [hRm]; decide⟩ dE_init_107 rfl (Nat.le_of_ble_eq_true rfl) ⟨by rw [hRm]; decide, by rw [hRm]; decide⟩ ?_
  have hG3 : EG cI cE a3 (ust (42 + 2 * w + 1, a3, E3) (42 + 2 * w) (.inl (cI, w, .inl (fun i => if i < w then -1 else 0)))).2.2 := EG_eq hG1 (fun i hi => ea3 i (by omega)) (fun i h1 h2 => (if_neg (by omega)).trans (eE3 i (by omega) (by omega)))
  have hL3 : EL cI cL w (w + 1) a3 (ust (42 + 2 * w + 1, a3, E3) (42 + 2 * w) (.inl (cI, w, .inl (fun i => if i < w then -1 else 0)))).2.2 := EL_eq hL1 (fun i hi => ea3 i (by omega)) (fun i h1 h2 => (if_neg (by omega)).trans (eE3 i (by omega) (by omega)))
  have hz3' : (ust (42 + 2 * w + 1, a3, E3) (42 + 2 * w) (.inl (cI, w, .inl (fun i => if i < w then -1 else 0)))).2.2 0 = .inr (0, [.int (nI w), .ref (a3 1), .ref (a3 34), .ref (a3 37), .ref (a3 (40 + 2 * w)), .ref (a3 (42 + 2 * w)), .null, .null, .null, .null, .int 0, .int 0, .int 0, .int 0, .int 0, .int 0, .int 0]) := (if_neg (by omega)).trans (by dsimp only; rw [hz3, ea3 1 (by omega), ea3 34 (by omega), ea3 37 (by omega), ea3 (40 + 2 * w) (by omega)]; rfl)
  have hr3 : (ust (42 + 2 * w + 1, a3, E3) (42 + 2 * w) (.inl (cI, w, .inl (fun i => if i < w then -1 else 0)))).2.2 (42 + 2 * w) = .inl (cI, w, .inl (fun i => if i < w then -1 else 0)) := if_pos rfl
  have hp13 : (ust (42 + 2 * w + 1, a3, E3) (42 + 2 * w) (.inl (cI, w, .inl (fun i => if i < w then -1 else 0)))).2.2 (40 + 2 * w) = .inr (2, [.ref (a3 (41 + 2 * w)), .int 0]) := (if_neg (by omega)).trans (by dsimp only; rw [eE3 _ (by omega) (by omega), hp1', ea3 (41 + 2 * w) (by omega)])
  have hp23 : (ust (42 + 2 * w + 1, a3, E3) (42 + 2 * w) (.inl (cI, w, .inl (fun i => if i < w then -1 else 0)))).2.2 (41 + 2 * w) = ar24 cI := (if_neg (by omega)).trans (by dsimp only; rw [eE3 _ (by omega) (by omega), hp2'])
  have ha3 : a3 0 = q0 := (ea3 0 (by omega)).trans ha1
  rw [show ust (42 + 2 * w + 1, a3, E3) (42 + 2 * w) (.inl (cI, w, .inl (fun i => if i < w then -1 else 0))) = (43 + 2 * w, a3, (ust (42 + 2 * w + 1, a3, E3) (42 + 2 * w) (.inl (cI, w, .inl (fun i => if i < w then -1 else 0)))).2.2) from by show (42 + 2 * w + 1, _, _) = _; rw [show 42 + 2 * w + 1 = 43 + 2 * w by omega]; rfl]
  generalize (ust (42 + 2 * w + 1, a3, E3) (42 + 2 * w) (.inl (cI, w, .inl (fun i => if i < w then -1 else 0)))).2.2 = E4 at hG3 hL3 hz3' hr3 hp13 hp23 ⊢
  clear hG1 hL1 hq1 hp1' hp2' ea3 eE3 hz3 hn3
  refine wh_aload_n F 0 dE_init_110 rfl rfl ?_
  refine wh_bipush (v := 24) F dE_init_111 (by decide) ?_
  refine e_arr F hK hin hA (cA := cI) (ty := .int) 0 rfl (fun _ h => by cases h) lw_int (atype := .int) rfl rfl (N := 24) (by decide) (by decide) (by decide) (by rw [hRm]; decide) (by rw [hRm]; decide) dE_init_113 (show 0 < 43 + 2 * w by omega) hz3' ha3 6 (by decide) lfE_57 rfl rfl (by decide +kernel) (Nat.le_of_ble_eq_true rfl) dE_init_115 (fun a5 E5 ea eE hz hn => ?_)
  have hz' : E5 0 = .inr (0, [.int (nI w), .ref (a5 1), .ref (a5 34), .ref (a5 37), .ref (a5 (40 + 2 * w)), .ref (a5 (42 + 2 * w)), .ref (a5 (43 + 2 * w)), .null, .null, .null, .int 0, .int 0, .int 0, .int 0, .int 0, .int 0, .int 0]) := by
    rw [hz, ea 1 (by omega), ea 34 (by omega), ea 37 (by omega), ea (40 + 2 * w) (by omega), ea (42 + 2 * w) (by omega)]
    rfl
  have hG' : EG cI cE a5 E5 := EG_eq hG3 (fun i hi => ea i (by omega)) (fun i h1 h2 => eE i (by omega) (by omega))
  have hL' : EL cI cL w (w + 1) a5 E5 := EL_eq hL3 (fun i hi => ea i (by omega)) (fun i h1 h2 => eE i (by omega) (by omega))
  have hp1' : E5 (40 + 2 * w) = .inr (2, [.ref (a5 (41 + 2 * w)), .int 0]) := by rw [eE _ (by omega) (by omega), hp13, ea _ (by omega)]
  have hp2' : E5 (41 + 2 * w) = ar24 cI := by rw [eE _ (by omega) (by omega), hp23]
  have hr' : E5 (42 + 2 * w) = .inl (cI, w, .inl (fun i => if i < w then -1 else 0)) := by rw [eE _ (by omega) (by omega), hr3]
  have ha' : a5 0 = q0 := (ea 0 (by omega)).trans ha3
  have hx43_5 : E5 (43 + 2 * w) = ar24 cI := hn
  rw [show (43 + 2 * w + 1, a5, E5) = (44 + 2 * w, a5, E5) from by rw [show 43 + 2 * w + 1 = 44 + 2 * w by omega]]
  clear hz3' hG3 hL3 hp13 hp23 hr3 ea eE hz hn ha3
  have hz5 := hz'
  have hG5 := hG'
  have hL5 := hL'
  have hp15 := hp1'
  have hp25 := hp2'
  have hr5 := hr'
  have ha5 := ha'
  clear hz' hG' hL' hp1' hp2' hr' ha'
  refine wh_aload_n F 0 dE_init_118 rfl rfl ?_
  refine wh_bipush (v := 24) F dE_init_119 (by decide) ?_
  refine e_arr F hK hin hA (cA := cI) (ty := .int) 0 rfl (fun _ h => by cases h) lw_int (atype := .int) rfl rfl (N := 24) (by decide) (by decide) (by decide) (by rw [hRm]; decide) (by rw [hRm]; decide) dE_init_121 (show 0 < 44 + 2 * w by omega) hz5 ha5 7 (by decide) lfE_60 rfl rfl (by decide +kernel) (Nat.le_of_ble_eq_true rfl) dE_init_123 (fun a6 E6 ea eE hz hn => ?_)
  have hz' : E6 0 = .inr (0, [.int (nI w), .ref (a6 1), .ref (a6 34), .ref (a6 37), .ref (a6 (40 + 2 * w)), .ref (a6 (42 + 2 * w)), .ref (a6 (43 + 2 * w)), .ref (a6 (44 + 2 * w)), .null, .null, .int 0, .int 0, .int 0, .int 0, .int 0, .int 0, .int 0]) := by
    rw [hz, ea 1 (by omega), ea 34 (by omega), ea 37 (by omega), ea (40 + 2 * w) (by omega), ea (42 + 2 * w) (by omega), ea (43 + 2 * w) (by omega)]
    rfl
  have hG' : EG cI cE a6 E6 := EG_eq hG5 (fun i hi => ea i (by omega)) (fun i h1 h2 => eE i (by omega) (by omega))
  have hL' : EL cI cL w (w + 1) a6 E6 := EL_eq hL5 (fun i hi => ea i (by omega)) (fun i h1 h2 => eE i (by omega) (by omega))
  have hp1' : E6 (40 + 2 * w) = .inr (2, [.ref (a6 (41 + 2 * w)), .int 0]) := by rw [eE _ (by omega) (by omega), hp15, ea _ (by omega)]
  have hp2' : E6 (41 + 2 * w) = ar24 cI := by rw [eE _ (by omega) (by omega), hp25]
  have hr' : E6 (42 + 2 * w) = .inl (cI, w, .inl (fun i => if i < w then -1 else 0)) := by rw [eE _ (by omega) (by omega), hr5]
  have ha' : a6 0 = q0 := (ea 0 (by omega)).trans ha5
  have hx43_6 : E6 (43 + 2 * w) = ar24 cI := by rw [eE _ (by omega) (by omega), hx43_5]
  have hx44_6 : E6 (44 + 2 * w) = ar24 cI := hn
  rw [show (44 + 2 * w + 1, a6, E6) = (45 + 2 * w, a6, E6) from by rw [show 44 + 2 * w + 1 = 45 + 2 * w by omega]]
  clear hz5 hG5 hL5 hp15 hp25 hr5 ea eE hz hn ha5 hx43_5
  have hz6 := hz'
  have hG6 := hG'
  have hL6 := hL'
  have hp16 := hp1'
  have hp26 := hp2'
  have hr6 := hr'
  have ha6 := ha'
  clear hz' hG' hL' hp1' hp2' hr' ha'
  refine wh_aload_n F 0 dE_init_126 rfl rfl ?_
  refine wh_bipush (v := 24) F dE_init_127 (by decide) ?_
  refine e_arr F hK hin hA (cA := cI) (ty := .int) 0 rfl (fun _ h => by cases h) lw_int (atype := .int) rfl rfl (N := 24) (by decide) (by decide) (by decide) (by rw [hRm]; decide) (by rw [hRm]; decide) dE_init_129 (show 0 < 45 + 2 * w by omega) hz6 ha6 8 (by decide) lfE_63 rfl rfl (by decide +kernel) (Nat.le_of_ble_eq_true rfl) dE_init_131 (fun a7 E7 ea eE hz hn => ?_)
  have hz' : E7 0 = .inr (0, [.int (nI w), .ref (a7 1), .ref (a7 34), .ref (a7 37), .ref (a7 (40 + 2 * w)), .ref (a7 (42 + 2 * w)), .ref (a7 (43 + 2 * w)), .ref (a7 (44 + 2 * w)), .ref (a7 (45 + 2 * w)), .null, .int 0, .int 0, .int 0, .int 0, .int 0, .int 0, .int 0]) := by
    rw [hz, ea 1 (by omega), ea 34 (by omega), ea 37 (by omega), ea (40 + 2 * w) (by omega), ea (42 + 2 * w) (by omega), ea (43 + 2 * w) (by omega), ea (44 + 2 * w) (by omega)]
    rfl
  have hG' : EG cI cE a7 E7 := EG_eq hG6 (fun i hi => ea i (by omega)) (fun i h1 h2 => eE i (by omega) (by omega))
  have hL' : EL cI cL w (w + 1) a7 E7 := EL_eq hL6 (fun i hi => ea i (by omega)) (fun i h1 h2 => eE i (by omega) (by omega))
  have hp1' : E7 (40 + 2 * w) = .inr (2, [.ref (a7 (41 + 2 * w)), .int 0]) := by rw [eE _ (by omega) (by omega), hp16, ea _ (by omega)]
  have hp2' : E7 (41 + 2 * w) = ar24 cI := by rw [eE _ (by omega) (by omega), hp26]
  have hr' : E7 (42 + 2 * w) = .inl (cI, w, .inl (fun i => if i < w then -1 else 0)) := by rw [eE _ (by omega) (by omega), hr6]
  have ha' : a7 0 = q0 := (ea 0 (by omega)).trans ha6
  have hx43_7 : E7 (43 + 2 * w) = ar24 cI := by rw [eE _ (by omega) (by omega), hx43_6]
  have hx44_7 : E7 (44 + 2 * w) = ar24 cI := by rw [eE _ (by omega) (by omega), hx44_6]
  have hx45_7 : E7 (45 + 2 * w) = ar24 cI := hn
  rw [show (45 + 2 * w + 1, a7, E7) = (46 + 2 * w, a7, E7) from by rw [show 45 + 2 * w + 1 = 46 + 2 * w by omega]]
  clear hz6 hG6 hL6 hp16 hp26 hr6 ea eE hz hn ha6 hx43_6 hx44_6
  have hz7 := hz'
  have hG7 := hG'
  have hL7 := hL'
  have hp17 := hp1'
  have hp27 := hp2'
  have hr7 := hr'
  have ha7 := ha'
  clear hz' hG' hL' hp1' hp2' hr' ha'
  refine wh_aload_n F 0 dE_init_134 rfl rfl ?_
  refine wh_bipush (v := 24) F dE_init_135 (by decide) ?_
  refine e_arr F hK hin hA (cA := cZ) (ty := .boolean) 1 rfl (fun _ h => by cases h) lw_bool (atype := .boolean) rfl rfl (N := 24) (by decide) (by decide) (by decide) (by rw [hRm]; decide) (by rw [hRm]; decide) dE_init_137 (show 0 < 46 + 2 * w by omega) hz7 ha7 9 (by decide) lfE_66 rfl rfl (by decide +kernel) (Nat.le_of_ble_eq_true rfl) dE_init_139 (fun a8 E8 ea eE hz hn => ?_)
  have hz' : E8 0 = .inr (0, [.int (nI w), .ref (a8 1), .ref (a8 34), .ref (a8 37), .ref (a8 (40 + 2 * w)), .ref (a8 (42 + 2 * w)), .ref (a8 (43 + 2 * w)), .ref (a8 (44 + 2 * w)), .ref (a8 (45 + 2 * w)), .ref (a8 (46 + 2 * w)), .int 0, .int 0, .int 0, .int 0, .int 0, .int 0, .int 0]) := by
    rw [hz, ea 1 (by omega), ea 34 (by omega), ea 37 (by omega), ea (40 + 2 * w) (by omega), ea (42 + 2 * w) (by omega), ea (43 + 2 * w) (by omega), ea (44 + 2 * w) (by omega), ea (45 + 2 * w) (by omega)]
    rfl
  have hG' : EG cI cE a8 E8 := EG_eq hG7 (fun i hi => ea i (by omega)) (fun i h1 h2 => eE i (by omega) (by omega))
  have hL' : EL cI cL w (w + 1) a8 E8 := EL_eq hL7 (fun i hi => ea i (by omega)) (fun i h1 h2 => eE i (by omega) (by omega))
  have hp1' : E8 (40 + 2 * w) = .inr (2, [.ref (a8 (41 + 2 * w)), .int 0]) := by rw [eE _ (by omega) (by omega), hp17, ea _ (by omega)]
  have hp2' : E8 (41 + 2 * w) = ar24 cI := by rw [eE _ (by omega) (by omega), hp27]
  have hr' : E8 (42 + 2 * w) = .inl (cI, w, .inl (fun i => if i < w then -1 else 0)) := by rw [eE _ (by omega) (by omega), hr7]
  have ha' : a8 0 = q0 := (ea 0 (by omega)).trans ha7
  have hx43_8 : E8 (43 + 2 * w) = ar24 cI := by rw [eE _ (by omega) (by omega), hx43_7]
  have hx44_8 : E8 (44 + 2 * w) = ar24 cI := by rw [eE _ (by omega) (by omega), hx44_7]
  have hx45_8 : E8 (45 + 2 * w) = ar24 cI := by rw [eE _ (by omega) (by omega), hx45_7]
  have hx46_8 : E8 (46 + 2 * w) = .inl (cZ, 24, .inl (fun _ => 0)) := hn
  rw [show (46 + 2 * w + 1, a8, E8) = (47 + 2 * w, a8, E8) from by rw [show 46 + 2 * w + 1 = 47 + 2 * w by omega]]
  clear hz7 hG7 hL7 hp17 hp27 hr7 ea eE hz hn ha7 hx43_7 hx44_7 hx45_7
  have hz8 := hz'
  have hG8 := hG'
  have hL8 := hL'
  have hp18 := hp1'
  have hp28 := hp2'
  have hr8 := hr'
  have ha8 := ha'
  clear hz' hG' hL' hp1' hp2' hr' ha'
  refine wh_aload_n F 0 dE_init_142 rfl rfl ?_
  refine wh_iconst (v := -1) F dE_init_143 (by decide) ?_
  refine wh_put F hK hiE tyE tyE_ok nmE 0 (show 0 < 47 + 2 * w by omega) hz8 rfl 12 (by decide) lfE_70 rfl rfl (ty := .int) (by decide +kernel) rfl rfl (Nat.le_of_ble_eq_true rfl) dE_init_144 ha8.symm ?_
  refine wh_vret (c1 := cL) (c2 := cE) F hr hlo hK4 ⟨rfl, ha8, rfl, EG_eq hG8 (fun i hi => rfl) (fun i h1 h2 => if_neg (by omega)), EL_eq hL8 (fun i hi => rfl) (fun i h1 h2 => if_neg (by omega)), (if_neg (by omega)).trans hp18, (if_neg (by omega)).trans hp28, (if_neg (by omega)).trans hr8, (if_neg (by omega)).trans hx43_8, (if_neg (by omega)).trans hx44_8, (if_neg (by omega)).trans hx45_8, (if_neg (by omega)).trans hx46_8⟩ dE_init_147
