/-! The makers of the reference, of a line, of the semaphores, of the graph -/
def u1 (q : Nat) (e : va_E) : UU := (1, fun _ => q, fun _ => e)
def rmR_init : Room := { frames := 1, cells := 14, slots := 988, locals := 12 }
def rmL_init : Room := { frames := 1, cells := 1, slots := 24, locals := 12 }
def rmP_init : Room := { frames := 1, cells := 2, slots := 8, locals := 23 }
def rmG_init : Room := { frames := 1, cells := 32, slots := 336, locals := 12 }
/-- how many workers -/
def wk (x : Int32) : Nat := if x < 1 then 1 else if 4 < x then 4 else tn x
theorem wk_in (x : Int32) : 1 ≤ wk x ∧ wk x ≤ 4 := by
  unfold wk
  by_cases h : x < 1
  · rw [if_pos h]; omega
  · rw [if_neg h]
    by_cases h2 : 4 < x
    · rw [if_pos h2]; omega
    · rw [if_neg h2]
      obtain ⟨j, hj, rfl⟩ := nI_of (x := x) (fun q => h (Int32.lt_trans q (by decide)))
      have a1 := mt (nI_ltI (b := 1) hj (by decide)).mpr h
      have a2 := mt (nI_ltI (a := 4) (by decide) hj).mpr h2
      rw [show tn (nI j) = j from nI_clamp hj]
      omega
theorem wk_nI (x : Int32) : nI (wk x) = if x < 1 then 1 else if 4 < x then 4 else x := by
  unfold wk
  by_cases h : x < 1
  · rw [if_pos h, if_pos h]; rfl
  · rw [if_neg h, if_neg h]
    by_cases h2 : 4 < x
    · rw [if_pos h2, if_pos h2]; rfl
    · rw [if_neg h2, if_neg h2]
      obtain ⟨j, hj, rfl⟩ := nI_of (x := x) (fun q => h (Int32.lt_trans q (by decide)))
      rw [show tn (nI j) = j from nI_clamp hj]
def dfR : List Value := [.int 0, .int 0, .null, .null, .null, .null, .null, .null, .null, .null, .null, .null, .null, .null, .null, .null, .int 0, .int 0, .int 0, .int 0, .int 0, .int 0, .int 0, .int 0, .int 0]
def Mr0 (w : Nat) : MM := fun k i => if k = 0 then (if i = 0 then nI w else if i = 20 then -1 else 0) else 0
theorem XM_tt : XM (fun _ => True) := ⟨fun _ _ _ _ => trivial, fun _ _ _ _ => trivial⟩
theorem r_clamp {G : CX} {A : Nat → Prop} {Q : State → Prop} {P : Heap → Prop} {cl sl q0 : Nat} {x : Int32} (F : FH G cR_init 2 qnR) (k : wh G A 2 Q P cl sl 142 [(0, .ref q0), (1, .int x)] [.int (nI (wk x)), .ref q0]) : wh G A 2 Q P cl sl 123 [(0, .ref q0), (1, .int x)] [.ref q0] := by
  have e := wk_nI x
  refine wh_iload_n F 1 dR_init_123 rfl rfl ?_
  refine wh_iconst (v := 1) F dR_init_124 (by decide) ?_
  refine wh_icmp_ge (tgt := 132) F dR_init_125 (by decide) (fun h => ?_) (fun h => ?_)
  · rw [if_neg (Int32.not_lt.mpr h)] at e
    refine wh_iload_n F 1 dR_init_132 rfl rfl ?_
    refine wh_iconst (v := 4) F dR_init_133 (by decide) ?_
    refine wh_icmp_le (tgt := 141) F dR_init_134 (by decide) (fun h2 => ?_) (fun h2 => ?_)
    · rw [if_neg (Int32.not_lt.mpr h2)] at e
      refine wh_iload_n F 1 dR_init_141 rfl rfl ?_
      rw [e] at k
      exact k
    · rw [if_pos (Int32.not_le.mp h2)] at e
      refine wh_iconst (v := 4) F dR_init_137 (by decide) ?_
      refine wh_goto (tgt := 142) F dR_init_138 (by decide) ?_
      rw [e] at k
      exact k
  · rw [if_pos (Int32.not_le.mp h)] at e
    refine wh_iconst (v := 1) F dR_init_128 (by decide) ?_
    refine wh_goto (tgt := 142) F dR_init_129 (by decide) ?_
    rw [e] at k
    exact k
/-- a world of cells that is a system's -/
theorem wu_wl {S : SX} {M : MM} {U : UU} (h1 : U.1 = xn S) (h2 : U.2.1 = xa S) (h3 : ∀ k, k < xn S → U.2.2 k = xf S k (M k)) : wu U = wl S M := by
  unfold wu wl
  rw [h1]
  refine List.map_congr_left (fun k hk => ?_)
  rw [h2, h3 k (List.mem_range.mp hk)]
set_option maxRecDepth 100000 in
set_option maxHeartbeats 4000000 in
theorem kR_init (l : Launch) (D : va_G) (cI cZ : ClassId) (q0 : Nat) (x : Int32) : Cg l D yR_init wR_init rmR_init [.ref q0, .int x] (u1 q0 (.inr (4, dfR))) [(cI, .int), (cZ, .boolean)] (fun _ => True) 14 988 (fun _ _ => [(cI, .int), (cZ, .boolean)]) (fun u => ∃ a : Nat → Nat, a 0 = q0 ∧ wu u.1 = wl (sM D cI cZ a) (Mr0 (wk x))) := by
  refine Cg.of (cc := cR_init) (nL := 2) rfl rfl rfl (Nat.le_of_ble_eq_true rfl) (fun G hl hR hin F hK hX hlo hr => ?_)
  have hA : ∀ q, (gs G).heap.size ≤ q → AG (u1 q0 (.inr (4, dfR))) (gs G).heap.size q := fun q h => Or.inr h
  refine wh_aload_n F 0 dR_init_0 rfl rfl ?_
  refine wh_objInit F lmR_1 dR_init_1 (by rw [hR]; exact Nat.le_of_ble_eq_true rfl) (by rw [hR]; exact Nat.le_of_ble_eq_true rfl) ?_
  refine wh_aload_n F 0 dR_init_4 rfl rfl ?_
  refine wh_bipush (v := 24) F dR_init_5 (by decide) ?_
  refine wh_newa F hK hA (cI := cI) (ty := .int) 0 rfl (fun _ h => by cases h) lw_int (atype := .int) rfl rfl (N := 24) (by decide) (by decide) (by decide) (by rw [hR]; exact Nat.le_of_ble_eq_true rfl) (by rw [hR]; exact Nat.le_of_ble_eq_true rfl) dR_init_7 (fun q1 => ?_)
  refine wh_putF F hK hin hiR tyR tyR_ok nmR 0 (Nat.le_of_ble_eq_true rfl) rfl rfl 2 (by decide) lfR_7 rfl rfl rfl (ty := .array .int) (by decide +kernel) rfl rfl (Nat.le_of_ble_eq_true rfl) dR_init_9 rfl ?_
  refine wh_aload_n F 0 dR_init_12 rfl rfl ?_
  refine wh_bipush (v := 24) F dR_init_13 (by decide) ?_
  refine wh_newa F hK hA (cI := cI) (ty := .int) 0 rfl (fun _ h => by cases h) lw_int (atype := .int) rfl rfl (N := 24) (by decide) (by decide) (by decide) (by rw [hR]; exact Nat.le_of_ble_eq_true rfl) (by rw [hR]; exact Nat.le_of_ble_eq_true rfl) dR_init_15 (fun q2 => ?_)
  refine wh_putF F hK hin hiR tyR tyR_ok nmR 0 (Nat.le_of_ble_eq_true rfl) rfl rfl 3 (by decide) lfR_13 rfl rfl rfl (ty := .array .int) (by decide +kernel) rfl rfl (Nat.le_of_ble_eq_true rfl) dR_init_17 rfl ?_
  refine wh_aload_n F 0 dR_init_20 rfl rfl ?_
  refine wh_bipush (v := 24) F dR_init_21 (by decide) ?_
  refine wh_newa F hK hA (cI := cI) (ty := .int) 0 rfl (fun _ h => by cases h) lw_int (atype := .int) rfl rfl (N := 24) (by decide) (by decide) (by decide) (by rw [hR]; exact Nat.le_of_ble_eq_true rfl) (by rw [hR]; exact Nat.le_of_ble_eq_true rfl) dR_init_23 (fun q3 => ?_)
  refine wh_putF F hK hin hiR tyR tyR_ok nmR 0 (Nat.le_of_ble_eq_true rfl) rfl rfl 4 (by decide) lfR_16 rfl rfl rfl (ty := .array .int) (by decide +kernel) rfl rfl (Nat.le_of_ble_eq_true rfl) dR_init_25 rfl ?_
  refine wh_aload_n F 0 dR_init_28 rfl rfl ?_
  refine wh_bipush (v := 24) F dR_init_29 (by decide) ?_
  refine wh_newa F hK hA (cI := cI) (ty := .int) 0 rfl (fun _ h => by cases h) lw_int (atype := .int) rfl rfl (N := 24) (by decide) (by decide) (by decide) (by rw [hR]; exact Nat.le_of_ble_eq_true rfl) (by rw [hR]; exact Nat.le_of_ble_eq_true rfl) dR_init_31 (fun q4 => ?_)
  refine wh_putF F hK hin hiR tyR tyR_ok nmR 0 (Nat.le_of_ble_eq_true rfl) rfl rfl 5 (by decide) lfR_19 rfl rfl rfl (ty := .array .int) (by decide +kernel) rfl rfl (Nat.le_of_ble_eq_true rfl) dR_init_33 rfl ?_
  refine wh_aload_n F 0 dR_init_36 rfl rfl ?_
  refine wh_bipush (v := 24) F dR_init_37 (by decide) ?_
  refine wh_newa F hK hA (cI := cI) (ty := .int) 0 rfl (fun _ h => by cases h) lw_int (atype := .int) rfl rfl (N := 24) (by decide) (by decide) (by decide) (by rw [hR]; exact Nat.le_of_ble_eq_true rfl) (by rw [hR]; exact Nat.le_of_ble_eq_true rfl) dR_init_39 (fun q5 => ?_)
  refine wh_putF F hK hin hiR tyR tyR_ok nmR 0 (Nat.le_of_ble_eq_true rfl) rfl rfl 6 (by decide) lfR_22 rfl rfl rfl (ty := .array .int) (by decide +kernel) rfl rfl (Nat.le_of_ble_eq_true rfl) dR_init_41 rfl ?_
  refine wh_aload_n F 0 dR_init_44 rfl rfl ?_
  refine wh_bipush (v := 24) F dR_init_45 (by decide) ?_
  refine wh_newa F hK hA (cI := cI) (ty := .int) 0 rfl (fun _ h => by cases h) lw_int (atype := .int) rfl rfl (N := 24) (by decide) (by decide) (by decide) (by rw [hR]; exact Nat.le_of_ble_eq_true rfl) (by rw [hR]; exact Nat.le_of_ble_eq_true rfl) dR_init_47 (fun q6 => ?_)
  refine wh_putF F hK hin hiR tyR tyR_ok nmR 0 (Nat.le_of_ble_eq_true rfl) rfl rfl 7 (by decide) lfR_25 rfl rfl rfl (ty := .array .int) (by decide +kernel) rfl rfl (Nat.le_of_ble_eq_true rfl) dR_init_49 rfl ?_
  refine wh_aload_n F 0 dR_init_52 rfl rfl ?_
  refine wh_bipush (v := 24) F dR_init_53 (by decide) ?_
  refine wh_newa F hK hA (cI := cI) (ty := .int) 0 rfl (fun _ h => by cases h) lw_int (atype := .int) rfl rfl (N := 24) (by decide) (by decide) (by decide) (by rw [hR]; exact Nat.le_of_ble_eq_true rfl) (by rw [hR]; exact Nat.le_of_ble_eq_true rfl) dR_init_55 (fun q7 => ?_)
  refine wh_putF F hK hin hiR tyR tyR_ok nmR 0 (Nat.le_of_ble_eq_true rfl) rfl rfl 8 (by decide) lfR_28 rfl rfl rfl (ty := .array .int) (by decide +kernel) rfl rfl (Nat.le_of_ble_eq_true rfl) dR_init_57 rfl ?_
  refine wh_aload_n F 0 dR_init_60 rfl rfl ?_
  refine wh_bipush (v := 24) F dR_init_61 (by decide) ?_
  refine wh_newa F hK hA (cI := cI) (ty := .int) 0 rfl (fun _ h => by cases h) lw_int (atype := .int) rfl rfl (N := 24) (by decide) (by decide) (by decide) (by rw [hR]; exact Nat.le_of_ble_eq_true rfl) (by rw [hR]; exact Nat.le_of_ble_eq_true rfl) dR_init_63 (fun q8 => ?_)
  refine wh_putF F hK hin hiR tyR tyR_ok nmR 0 (Nat.le_of_ble_eq_true rfl) rfl rfl 9 (by decide) lfR_31 rfl rfl rfl (ty := .array .int) (by decide +kernel) rfl rfl (Nat.le_of_ble_eq_true rfl) dR_init_65 rfl ?_
  refine wh_aload_n F 0 dR_init_68 rfl rfl ?_
  refine wh_bipush (v := 24) F dR_init_69 (by decide) ?_
  refine wh_newa F hK hA (cI := cI) (ty := .int) 0 rfl (fun _ h => by cases h) lw_int (atype := .int) rfl rfl (N := 24) (by decide) (by decide) (by decide) (by rw [hR]; exact Nat.le_of_ble_eq_true rfl) (by rw [hR]; exact Nat.le_of_ble_eq_true rfl) dR_init_71 (fun q9 => ?_)
  refine wh_putF F hK hin hiR tyR tyR_ok nmR 0 (Nat.le_of_ble_eq_true rfl) rfl rfl 10 (by decide) lfR_34 rfl rfl rfl (ty := .array .int) (by decide +kernel) rfl rfl (Nat.le_of_ble_eq_true rfl) dR_init_73 rfl ?_
  refine wh_aload_n F 0 dR_init_76 rfl rfl ?_
  refine wh_bipush (v := 24) F dR_init_77 (by decide) ?_
  refine wh_newa F hK hA (cI := cZ) (ty := .boolean) 1 rfl (fun _ h => by cases h) lw_bool (atype := .boolean) rfl rfl (N := 24) (by decide) (by decide) (by decide) (by rw [hR]; exact Nat.le_of_ble_eq_true rfl) (by rw [hR]; exact Nat.le_of_ble_eq_true rfl) dR_init_79 (fun q10 => ?_)
  refine wh_putF F hK hin hiR tyR tyR_ok nmR 0 (Nat.le_of_ble_eq_true rfl) rfl rfl 11 (by decide) lfR_37 rfl rfl rfl (ty := .array .boolean) (by decide +kernel) rfl rfl (Nat.le_of_ble_eq_true rfl) dR_init_81 rfl ?_
  refine wh_aload_n F 0 dR_init_84 rfl rfl ?_
  refine wh_bipush (v := 24) F dR_init_85 (by decide) ?_
  refine wh_newa F hK hA (cI := cI) (ty := .int) 0 rfl (fun _ h => by cases h) lw_int (atype := .int) rfl rfl (N := 24) (by decide) (by decide) (by decide) (by rw [hR]; exact Nat.le_of_ble_eq_true rfl) (by rw [hR]; exact Nat.le_of_ble_eq_true rfl) dR_init_87 (fun q11 => ?_)
  refine wh_putF F hK hin hiR tyR tyR_ok nmR 0 (Nat.le_of_ble_eq_true rfl) rfl rfl 12 (by decide) lfR_41 rfl rfl rfl (ty := .array .int) (by decide +kernel) rfl rfl (Nat.le_of_ble_eq_true rfl) dR_init_89 rfl ?_
  refine wh_aload_n F 0 dR_init_92 rfl rfl ?_
  refine wh_sipush (v := 144) F dR_init_93 (by decide) ?_
  refine wh_newa F hK hA (cI := cI) (ty := .int) 0 rfl (fun _ h => by cases h) lw_int (atype := .int) rfl rfl (N := 144) (by decide) (by decide) (by decide) (by rw [hR]; exact Nat.le_of_ble_eq_true rfl) (by rw [hR]; exact Nat.le_of_ble_eq_true rfl) dR_init_96 (fun q12 => ?_)
  refine wh_putF F hK hin hiR tyR tyR_ok nmR 0 (Nat.le_of_ble_eq_true rfl) rfl rfl 13 (by decide) lfR_44 rfl rfl rfl (ty := .array .int) (by decide +kernel) rfl rfl (Nat.le_of_ble_eq_true rfl) dR_init_98 rfl ?_
  refine wh_aload_n F 0 dR_init_101 rfl rfl ?_
  refine wh_sipush (v := 576) F dR_init_102 (by decide) ?_
  refine wh_newa F hK hA (cI := cZ) (ty := .boolean) 1 rfl (fun _ h => by cases h) lw_bool (atype := .boolean) rfl rfl (N := 576) (by decide) (by decide) (by decide) (by rw [hR]; exact Nat.le_of_ble_eq_true rfl) (by rw [hR]; exact Nat.le_of_ble_eq_true rfl) dR_init_105 (fun q13 => ?_)
  refine wh_putF F hK hin hiR tyR tyR_ok nmR 0 (Nat.le_of_ble_eq_true rfl) rfl rfl 14 (by decide) lfR_47 rfl rfl rfl (ty := .array .boolean) (by decide +kernel) rfl rfl (Nat.le_of_ble_eq_true rfl) dR_init_107 rfl ?_
  refine wh_aload_n F 0 dR_init_110 rfl rfl ?_
  refine wh_iconst (v := 4) F dR_init_111 (by decide) ?_
  refine wh_newa F hK hA (cI := cI) (ty := .int) 0 rfl (fun _ h => by cases h) lw_int (atype := .int) rfl rfl (N := 4) (by decide) (by decide) (by decide) (by rw [hR]; exact Nat.le_of_ble_eq_true rfl) (by rw [hR]; exact Nat.le_of_ble_eq_true rfl) dR_init_112 (fun q14 => ?_)
  refine wh_putF F hK hin hiR tyR tyR_ok nmR 0 (Nat.le_of_ble_eq_true rfl) rfl rfl 15 (by decide) lfR_50 rfl rfl rfl (ty := .array .int) (by decide +kernel) rfl rfl (Nat.le_of_ble_eq_true rfl) dR_init_114 rfl ?_
  refine wh_aload_n F 0 dR_init_117 rfl rfl ?_
  refine wh_iconst (v := -1) F dR_init_118 (by decide) ?_
  refine wh_put F hK hiR tyR tyR_ok nmR 0 (Nat.le_of_ble_eq_true rfl) rfl rfl 20 (by decide) lfR_53 rfl rfl (ty := .int) (by decide +kernel) rfl rfl (Nat.le_of_ble_eq_true rfl) dR_init_119 rfl ?_
  refine wh_aload_n F 0 dR_init_122 rfl rfl ?_
  refine r_clamp F ?_
  refine wh_putF F hK hin hiR tyR tyR_ok nmR 0 (Nat.le_of_ble_eq_true rfl) rfl rfl 0 (by decide) lfR_57 rfl rfl rfl (ty := .int) (by decide +kernel) rfl rfl (Nat.le_of_ble_eq_true rfl) dR_init_142 rfl ?_
  refine wh_vret (c1 := 0) (c2 := 0) F hr hlo hK ⟨_, rfl, wu_wl rfl rfl (fun k hk => ?_)⟩ dR_init_145
  have hk : k < 15 := hk
  have : k = 0 ∨ k = 1 ∨ k = 2 ∨ k = 3 ∨ k = 4 ∨ k = 5 ∨ k = 6 ∨ k = 7 ∨ k = 8 ∨ k = 9 ∨ k = 10 ∨ k = 11 ∨ k = 12 ∨ k = 13 ∨ k = 14 := by omega
  rcases this with rfl | rfl | rfl | rfl | rfl | rfl | rfl | rfl | rfl | rfl | rfl | rfl | rfl | rfl | rfl <;> rfl
/-- a line's maker: the object is the last cell -/
theorem kL_init (l : Launch) (D : va_G) (cI cZ : ClassId) (n : Nat) (a : Nat → Nat) (E : Nat → va_E) (hE : E n = .inr (2, [.null, .int 0])) : Cg l D yL_init wL_init rmL_init [.ref (a n)] (n + 1, a, E) [(cI, .int), (cZ, .boolean)] (fun _ => True) 1 24 (fun _ _ => [(cI, .int), (cZ, .boolean)]) (fun u => u.1.1 = n + 2 ∧ (∀ i, i ≤ n → u.1.2.1 i = a i) ∧ (∀ i, i < n → u.1.2.2 i = E i) ∧ u.1.2.2 n = .inr (2, [.ref (u.1.2.1 (n + 1)), .int 0]) ∧ u.1.2.2 (n + 1) = .inl (cI, 24, .inl (fun _ => 0))) := by
  refine Cg.of (cc := cL_init) (nL := 1) rfl rfl rfl (Nat.le_of_ble_eq_true rfl) (fun G hl hR hin F hK hX hlo hr => ?_)
  have hA : ∀ q, (gs G).heap.size ≤ q → AG (n + 1, a, E) (gs G).heap.size q := fun q h => Or.inr h
  refine wh_aload_n F 0 dL_init_0 rfl rfl ?_
  refine wh_objInit F lmL_3 dL_init_1 (by rw [hR]; exact Nat.le_of_ble_eq_true rfl) (by rw [hR]; exact Nat.le_of_ble_eq_true rfl) ?_
  refine wh_aload_n F 0 dL_init_4 rfl rfl ?_
  refine wh_bipush (v := 24) F dL_init_5 (by decide) ?_
  refine wh_newa F hK hA (cI := cI) (ty := .int) 0 rfl (fun _ h => by cases h) lw_int (atype := .int) rfl rfl (N := 24) (by decide) (by decide) (by decide) (by rw [hR]; exact Nat.le_of_ble_eq_true rfl) (by rw [hR]; exact Nat.le_of_ble_eq_true rfl) dL_init_7 (fun q1 => ?_)
  refine wh_putF F hK hin hiL tyL tyL_ok nmL n (show n < n + 1 + 1 by omega) (show (if n = n + 1 then _ else E n) = _ by rw [if_neg (by omega)]; exact hE) rfl 0 (by decide) lfL_9 rfl rfl rfl (ty := .array .int) (by decide +kernel) rfl rfl (Nat.le_of_ble_eq_true rfl) dL_init_9 (show a n = (if n = n + 1 then q1 else a n) by rw [if_neg (by omega)]) ?_
  refine wh_vret (c1 := 0) (c2 := 0) F hr hlo hK ⟨rfl, fun i hi => ?_, fun i hi => ?_, ?_, ?_⟩ dL_init_12
  · show (if i = n + 1 then q1 else a i) = _
    rw [if_neg (by omega)]
  · show (if i = n then _ else if i = n + 1 then _ else E i) = _
    rw [if_neg (by omega), if_neg (by omega)]
  · show (if n = n then _ else _ : va_E) = .inr (2, [.ref (if n + 1 = n + 1 then q1 else a (n + 1)), .int 0])
    rw [if_pos rfl, if_pos rfl]
    rfl
  · show (if n + 1 = n then _ else if n + 1 = n + 1 then _ else E (n + 1) : va_E) = _
    rw [if_neg (by omega), if_pos rfl]
theorem kP_init (l : Launch) (D : va_G) (cI cZ : ClassId) (a : Nat → Nat) (E : Nat → va_E) (hE : E 34 = .inr (3, [.null, .null])) : Cg l D yP_init wP_init rmP_init [.ref (a 34)] (35, a, E) [(cI, .int), (cZ, .boolean)] (fun _ => True) 2 8 (fun _ _ => [(cI, .int), (cZ, .boolean)]) (fun u => u.1.1 = 37 ∧ (∀ i, i < 35 → u.1.2.1 i = a i) ∧ (∀ i, i < 34 → u.1.2.2 i = E i) ∧ u.1.2.2 34 = .inr (3, [.ref (u.1.2.1 35), .ref (u.1.2.1 36)]) ∧ u.1.2.2 35 = .inl (cI, 4, .inl (fun i => if i < 4 then 1 else 0)) ∧ u.1.2.2 36 = .inl (cI, 4, .inl (fun _ => 0))) := by
  refine Cg.of (cc := cP_init) (nL := 1) rfl rfl rfl (Nat.le_of_ble_eq_true rfl) (fun G hl hR hin F hK hX hlo hr => ?_)
  have hA : ∀ q, (gs G).heap.size ≤ q → AG (35, a, E) (gs G).heap.size q := fun q h => Or.inr h
  refine wh_aload_n F 0 dP_init_0 rfl rfl ?_
  refine wh_objInit F lmP_3 dP_init_1 (by rw [hR]; exact Nat.le_of_ble_eq_true rfl) (by rw [hR]; exact Nat.le_of_ble_eq_true rfl) ?_
  refine wh_aload_n F 0 dP_init_4 rfl rfl ?_
  refine wh_iconst (v := 4) F dP_init_5 (by decide) ?_
  refine wh_newa F hK hA (cI := cI) (ty := .int) 0 rfl (fun _ h => by cases h) lw_int (atype := .int) rfl rfl (N := 4) (by decide) (by decide) (by decide) (by rw [hR]; exact Nat.le_of_ble_eq_true rfl) (by rw [hR]; exact Nat.le_of_ble_eq_true rfl) dP_init_6 (fun q1 => ?_)
  refine wh_putF F hK hin hiP tyP tyP_ok nmP 34 (Nat.le_of_ble_eq_true rfl) hE rfl 0 (by decide) lfP_9 rfl rfl rfl (ty := .array .int) (by decide +kernel) rfl rfl (Nat.le_of_ble_eq_true rfl) dP_init_8 rfl ?_
  refine wh_aload_n F 0 dP_init_11 rfl rfl ?_
  refine wh_iconst (v := 4) F dP_init_12 (by decide) ?_
  refine wh_newa F hK hA (cI := cI) (ty := .int) 0 rfl (fun _ h => by cases h) lw_int (atype := .int) rfl rfl (N := 4) (by decide) (by decide) (by decide) (by rw [hR]; exact Nat.le_of_ble_eq_true rfl) (by rw [hR]; exact Nat.le_of_ble_eq_true rfl) dP_init_13 (fun q2 => ?_)
  refine wh_putF F hK hin hiP tyP tyP_ok nmP 34 (Nat.le_of_ble_eq_true rfl) rfl rfl 1 (by decide) lfP_15 rfl rfl rfl (ty := .array .int) (by decide +kernel) rfl rfl (Nat.le_of_ble_eq_true rfl) dP_init_15 rfl ?_
  refine wh_aload_n F 0 dP_init_18 rfl rfl ?_
  refine wh_get F hK hiP 34 (Nat.le_of_ble_eq_true rfl) rfl rfl 0 (by decide) lfP_9 rfl rfl dP_init_19 rfl ?_
  refine wh_iconst (v := 1) F dP_init_22 (by decide) ?_
  refine wh_fill F hA hK 35 (Nat.le_of_ble_eq_true rfl) rfl (by decide) 0 rfl lmP_18 ⟨by rw [hR]; exact Nat.le_of_ble_eq_true rfl, by rw [hR]; exact Nat.le_of_ble_eq_true rfl⟩ dP_init_23 rfl (Nat.le_of_ble_eq_true rfl) ⟨by rw [hR]; exact Nat.le_of_ble_eq_true rfl, by rw [hR]; exact Nat.le_of_ble_eq_true rfl⟩ ?_
  refine wh_vret (c1 := 0) (c2 := 0) F hr hlo hK ⟨rfl, fun i hi => ?_, fun i hi => ?_, rfl, rfl, rfl⟩ dP_init_26
  · show (if i = 36 then q2 else if i = 35 then q1 else a i) = _
    rw [if_neg (by omega), if_neg (by omega)]
  · show (if i = 35 then _ else if i = 34 then _ else if i = 36 then _ else if i = 34 then _ else if i = 35 then _ else E i : va_E) = _
    rw [if_neg (by omega), if_neg (by omega), if_neg (by omega), if_neg (by omega), if_neg (by omega)]
def dfG : List Value := [.int 0, .null, .null, .null, .null, .null, .null, .null, .null]
set_option maxRecDepth 100000 in
set_option maxHeartbeats 4000000 in
theorem kG_init (l : Launch) (D : va_G) (cI cZ : ClassId) (a : Nat → Nat) (E : Nat → va_E) (hE : E 1 = .inr (1, dfG)) : Cg l D yG_init wG_init rmG_init [.ref (a 1)] (2, a, E) [(cI, .int), (cZ, .boolean)] AOA 32 336 (fun cE _ => [(cI, .int), (cZ, .boolean), (cE, .array .int)]) (fun u => u.1.1 = 34 ∧ (∀ i, i < 2 → u.1.2.1 i = a i) ∧ u.1.2.2 0 = E 0 ∧ u.1.2.2 1 = .inr (1, [.int 0, .ref (u.1.2.1 2), .ref (u.1.2.1 3), .ref (u.1.2.1 4), .ref (u.1.2.1 5), .ref (u.1.2.1 6), .ref (u.1.2.1 31), .ref (u.1.2.1 32), .ref (u.1.2.1 33)])
    ∧ u.1.2.2 2 = .inl (cI, 24, .inl (fun _ => 0)) ∧ u.1.2.2 3 = .inl (cI, 24, .inl (fun _ => 0)) ∧ u.1.2.2 4 = .inl (cI, 24, .inl (fun _ => 0)) ∧ u.1.2.2 5 = .inl (cI, 24, .inl (fun _ => 0)) ∧ (∃ r : Nat → Nat, u.1.2.2 6 = .inl (u.2.1, 24, .inr (.inr (.inr (.inr (fun i => if i < 24 then some (r i) else none))))) ∧ ∀ t, t < 24 → u.1.2.1 (7 + t) = r t) ∧ (∀ t, t < 24 → u.1.2.2 (7 + t) = .inl (cI, 6, .inl (fun _ => 0)))
    ∧ u.1.2.2 31 = .inl (cI, 24, .inl (fun _ => 0)) ∧ u.1.2.2 32 = .inl (cI, 24, .inl (fun _ => 0)) ∧ u.1.2.2 33 = .inl (cI, 24, .inl (fun _ => 0))) := by
  refine Cg.of (cc := cG_init) (nL := 1) rfl rfl rfl (Nat.le_of_ble_eq_true rfl) (fun G hl hR hin F hK hX hlo hr => ?_)
  have hA : ∀ q, (gs G).heap.size ≤ q → AG (2, a, E) (gs G).heap.size q := fun q h => Or.inr h
  refine wh_aload_n F 0 dG_init_0 rfl rfl ?_
  refine wh_objInit F lmG_3 dG_init_1 (by rw [hR]; exact Nat.le_of_ble_eq_true rfl) (by rw [hR]; exact Nat.le_of_ble_eq_true rfl) ?_
  refine wh_aload_n F 0 dG_init_4 rfl rfl ?_
  refine wh_bipush (v := 24) F dG_init_5 (by decide) ?_
  refine wh_newa F hK hA (cI := cI) (ty := .int) 0 rfl (fun _ h => by cases h) lw_int (atype := .int) rfl rfl (N := 24) (by decide) (by decide) (by decide) (by rw [hR]; exact Nat.le_of_ble_eq_true rfl) (by rw [hR]; exact Nat.le_of_ble_eq_true rfl) dG_init_7 (fun q1 => ?_)
  refine wh_putF F hK hin hiG tyG tyG_ok nmG 1 (Nat.le_of_ble_eq_true rfl) hE rfl 1 (by decide) lfG_9 rfl rfl rfl (ty := .array .int) (by decide +kernel) rfl rfl (Nat.le_of_ble_eq_true rfl) dG_init_9 rfl ?_
  refine wh_aload_n F 0 dG_init_12 rfl rfl ?_
  refine wh_bipush (v := 24) F dG_init_13 (by decide) ?_
  refine wh_newa F hK hA (cI := cI) (ty := .int) 0 rfl (fun _ h => by cases h) lw_int (atype := .int) rfl rfl (N := 24) (by decide) (by decide) (by decide) (by rw [hR]; exact Nat.le_of_ble_eq_true rfl) (by rw [hR]; exact Nat.le_of_ble_eq_true rfl) dG_init_15 (fun q2 => ?_)
  refine wh_putF F hK hin hiG tyG tyG_ok nmG 1 (Nat.le_of_ble_eq_true rfl) rfl rfl 2 (by decide) lfG_15 rfl rfl rfl (ty := .array .int) (by decide +kernel) rfl rfl (Nat.le_of_ble_eq_true rfl) dG_init_17 rfl ?_
  refine wh_aload_n F 0 dG_init_20 rfl rfl ?_
  refine wh_bipush (v := 24) F dG_init_21 (by decide) ?_
  refine wh_newa F hK hA (cI := cI) (ty := .int) 0 rfl (fun _ h => by cases h) lw_int (atype := .int) rfl rfl (N := 24) (by decide) (by decide) (by decide) (by rw [hR]; exact Nat.le_of_ble_eq_true rfl) (by rw [hR]; exact Nat.le_of_ble_eq_true rfl) dG_init_23 (fun q3 => ?_)
  refine wh_putF F hK hin hiG tyG tyG_ok nmG 1 (Nat.le_of_ble_eq_true rfl) rfl rfl 3 (by decide) lfG_18 rfl rfl rfl (ty := .array .int) (by decide +kernel) rfl rfl (Nat.le_of_ble_eq_true rfl) dG_init_25 rfl ?_
  refine wh_aload_n F 0 dG_init_28 rfl rfl ?_
  refine wh_bipush (v := 24) F dG_init_29 (by decide) ?_
  refine wh_newa F hK hA (cI := cI) (ty := .int) 0 rfl (fun _ h => by cases h) lw_int (atype := .int) rfl rfl (N := 24) (by decide) (by decide) (by decide) (by rw [hR]; exact Nat.le_of_ble_eq_true rfl) (by rw [hR]; exact Nat.le_of_ble_eq_true rfl) dG_init_31 (fun q4 => ?_)
  refine wh_putF F hK hin hiG tyG tyG_ok nmG 1 (Nat.le_of_ble_eq_true rfl) rfl rfl 4 (by decide) lfG_21 rfl rfl rfl (ty := .array .int) (by decide +kernel) rfl rfl (Nat.le_of_ble_eq_true rfl) dG_init_33 rfl ?_
  refine wh_aload_n F 0 dG_init_36 rfl rfl ?_
  refine wh_bipush (v := 24) F dG_init_37 (by decide) ?_
  refine wh_bipush (v := 6) F dG_init_39 (by decide) ?_
  refine wh_mna F hA hK 0 rfl hX lcG_24 (N := 24) (K' := 6) (by decide) (by decide) (by decide) (by decide) (by decide) (by decide) (by rw [hR]; exact Nat.le_of_ble_eq_true rfl) (by rw [hR]; exact Nat.le_of_ble_eq_true rfl) dG_init_41 (fun q5 r cE hK => ?_)
  refine wh_putF F hK hin hiG tyG tyG_ok nmG 1 (Nat.le_of_ble_eq_true rfl) rfl rfl 5 (by decide) lfG_26 rfl rfl rfl (ty := .array (.array .int)) (by decide +kernel) rfl rfl (Nat.le_of_ble_eq_true rfl) dG_init_45 rfl ?_
  refine wh_aload_n F 0 dG_init_48 rfl rfl ?_
  refine wh_bipush (v := 24) F dG_init_49 (by decide) ?_
  refine wh_newa F hK hA (cI := cI) (ty := .int) 0 rfl (fun _ h => by cases h) lw_int (atype := .int) rfl rfl (N := 24) (by decide) (by decide) (by decide) (by rw [hR]; exact Nat.le_of_ble_eq_true rfl) (by rw [hR]; exact Nat.le_of_ble_eq_true rfl) dG_init_51 (fun q6 => ?_)
  refine wh_putF F hK hin hiG tyG tyG_ok nmG 1 (Nat.le_of_ble_eq_true rfl) rfl rfl 6 (by decide) lfG_29 rfl rfl rfl (ty := .array .int) (by decide +kernel) rfl rfl (Nat.le_of_ble_eq_true rfl) dG_init_53 rfl ?_
  refine wh_aload_n F 0 dG_init_56 rfl rfl ?_
  refine wh_bipush (v := 24) F dG_init_57 (by decide) ?_
  refine wh_newa F hK hA (cI := cI) (ty := .int) 0 rfl (fun _ h => by cases h) lw_int (atype := .int) rfl rfl (N := 24) (by decide) (by decide) (by decide) (by rw [hR]; exact Nat.le_of_ble_eq_true rfl) (by rw [hR]; exact Nat.le_of_ble_eq_true rfl) dG_init_59 (fun q7 => ?_)
  refine wh_putF F hK hin hiG tyG tyG_ok nmG 1 (Nat.le_of_ble_eq_true rfl) rfl rfl 7 (by decide) lfG_32 rfl rfl rfl (ty := .array .int) (by decide +kernel) rfl rfl (Nat.le_of_ble_eq_true rfl) dG_init_61 rfl ?_
  refine wh_aload_n F 0 dG_init_64 rfl rfl ?_
  refine wh_bipush (v := 24) F dG_init_65 (by decide) ?_
  refine wh_newa F hK hA (cI := cI) (ty := .int) 0 rfl (fun _ h => by cases h) lw_int (atype := .int) rfl rfl (N := 24) (by decide) (by decide) (by decide) (by rw [hR]; exact Nat.le_of_ble_eq_true rfl) (by rw [hR]; exact Nat.le_of_ble_eq_true rfl) dG_init_67 (fun q8 => ?_)
  refine wh_putF F hK hin hiG tyG tyG_ok nmG 1 (Nat.le_of_ble_eq_true rfl) rfl rfl 8 (by decide) lfG_35 rfl rfl rfl (ty := .array .int) (by decide +kernel) rfl rfl (Nat.le_of_ble_eq_true rfl) dG_init_69 rfl ?_
  refine wh_vret (c1 := cE) (c2 := 0) F hr hlo hK ⟨rfl, fun i hi => ?_, rfl, rfl, rfl, rfl, rfl, rfl, ⟨r, rfl, fun t ht => ?_⟩, fun t ht => ?_, rfl, rfl, rfl⟩ dG_init_72
  · have : i = 0 ∨ i = 1 := by omega
    rcases this with rfl | rfl <;> rfl
  · simp only [ups, ust, upsN]
    rw [if_neg (by omega), if_neg (by omega), if_neg (by omega), if_pos (by omega)]
    congr 1
    omega
  · simp only [ups, ust, upsN]
    rw [if_neg (by omega), if_neg (by omega), if_neg (by omega), if_neg (by omega), if_neg (by omega), if_neg (by omega), if_neg (by omega), if_pos (by omega)]
