/-! The cells of the two systems. X (the class), w workers: 0 the executor, 1 the graph, 2 kinds, 3 parents, 4 levels, 5 needs, 6 edgeCounts, 7 allIn, 8 strongIn, 9 edges, 10 + t its rows, 34 the semaphores, 35 capacities, 36 unitsHeld, 37 running, 38 place, 39 arrived, 40 runCounts, 41 childFailed, 42 lines, 43 + 2 i the lines (0 the parked, l + 1 the line l), 44 + 2 i their tasks. M (the reference): 0 the object, 1 .. 14 its arrays in the order of its fields. CI_.. : the classes' places in vwC. -/
theorem ii1 (x : Int32) : x + Int32.ofInt 1 = x + 1 := by rw [show Int32.ofInt 1 = 1 from by decide]
theorem ii4 (x : Int32) : x + Int32.ofInt 4 = x + 4 := by rw [show Int32.ofInt 4 = 4 from by decide]
theorem iim1 (x : Int32) : x + Int32.ofInt (-1) = x + (-1) := by rw [show Int32.ofInt (-1) = -1 from by decide]
def cfX (cI cZ cL cE : ClassId) (a : Nat → Nat) (w k : Nat) (f : Nat → Int32) : va_E :=
  if k < 10 then (match k with
    | 0 => .inr (0, [.int (f 0), .ref (a 1), .ref (a 34), .ref (a 42), .ref (a 43), .ref (a 37), .ref (a 38), .ref (a 39), .ref (a 40), .ref (a 41), .int (f 10), .int (f 11), .int (f 12), .int (f 13), .int (f 14), .int (f 15), .int (f 16)])
    | 1 => .inr (1, [.int (f 0), .ref (a 2), .ref (a 3), .ref (a 4), .ref (a 5), .ref (a 9), .ref (a 6), .ref (a 7), .ref (a 8)])
    | 9 => .inl (cE, 24, .inr (.inr (.inr (.inr (fun t => some (a (10 + t)))))))
    | _ => .inl (cI, 24, .inl f))
  else if k < 34 then .inl (cI, 6, .inl f)
  else if k < 43 then (match k with
    | 34 => .inr (3, [.ref (a 35), .ref (a 36)])
    | 35 => .inl (cI, 4, .inl f)
    | 36 => .inl (cI, 4, .inl f)
    | 37 => .inl (cI, w, .inl f)
    | 41 => .inl (cZ, 24, .inl f)
    | 42 => .inl (cL, w + 1, .inr (.inr (.inr (.inr (fun l => some (a (43 + 2 * (l + 1))))))))
    | _ => .inl (cI, 24, .inl f))
  else if (k - 43) % 2 = 0 then .inr (2, [.ref (a (k + 1)), .int (f 1)]) else .inl (cI, 24, .inl f)
abbrev sX (D : va_G) (cI cZ cL cE : ClassId) (a : Nat → Nat) (w : Nat) : SX := (D, vwC, [(cI, .int), (cZ, .boolean), (cL, .object qnL), (cE, .array .int)], 43 + 2 * (w + 2), a, cfX cI cZ cL cE a w)
def cfM (cI cZ : ClassId) (a : Nat → Nat) (k : Nat) (f : Nat → Int32) : va_E := match k with
  | 0 => .inr (4, [.int (f 0), .int (f 1), .ref (a 1), .ref (a 2), .ref (a 3), .ref (a 4), .ref (a 5), .ref (a 6), .ref (a 7), .ref (a 8), .ref (a 9), .ref (a 10), .ref (a 11), .ref (a 12), .ref (a 13), .ref (a 14), .int (f 16), .int (f 17), .int (f 18), .int (f 19), .int (f 20), .int (f 21), .int (f 22), .int (f 23), .int (f 24)])
  | 10 => .inl (cZ, 24, .inl f)
  | 12 => .inl (cI, 144, .inl f)
  | 13 => .inl (cZ, 576, .inl f)
  | 14 => .inl (cI, 4, .inl f)
  | _ => .inl (cI, 24, .inl f)
abbrev sM (D : va_G) (cI cZ : ClassId) (a : Nat → Nat) : SX := (D, vwC, [(cI, .int), (cZ, .boolean)], 15, a, cfM cI cZ a)
section XL
variable {D : va_G} {cI cZ cL cE : ClassId} {a : Nat → Nat} {w : Nat}
theorem x_lt {k : Nat} (h : k < 43) : k < xn (sX D cI cZ cL cE a w) := by show k < 43 + 2 * (w + 2); omega
theorem x_ltL {i : Nat} (h : i < w + 2) : 43 + 2 * i < xn (sX D cI cZ cL cE a w) := by show 43 + 2 * i < 43 + 2 * (w + 2); omega
theorem x_ltT {i : Nat} (h : i < w + 2) : 43 + 2 * i + 1 < xn (sX D cI cZ cL cE a w) := by show 43 + 2 * i + 1 < 43 + 2 * (w + 2); omega
theorem x_ltE {t : Nat} (h : t < 24) : 10 + t < xn (sX D cI cZ cL cE a w) := by show 10 + t < 43 + 2 * (w + 2); omega
theorem x_cL (i : Nat) (f : Nat → Int32) : xf (sX D cI cZ cL cE a w) (43 + 2 * i) f = .inr (2, [.ref (a (43 + 2 * i + 1)), .int (f 1)]) := by
  show cfX cI cZ cL cE a w (43 + 2 * i) f = _
  unfold cfX
  rw [if_neg (by omega), if_neg (by omega), if_neg (by omega), if_pos (by omega)]
theorem x_cT (i : Nat) (f : Nat → Int32) : xf (sX D cI cZ cL cE a w) (43 + 2 * i + 1) f = .inl (cI, 24, .inl f) := by
  show cfX cI cZ cL cE a w (43 + 2 * i + 1) f = _
  unfold cfX
  rw [if_neg (by omega), if_neg (by omega), if_neg (by omega), if_neg (by omega)]
theorem x_cE {t : Nat} (h : t < 24) (f : Nat → Int32) : xf (sX D cI cZ cL cE a w) (10 + t) f = .inl (cI, 6, .inl f) := by
  show cfX cI cZ cL cE a w (10 + t) f = _
  unfold cfX
  rw [if_neg (by omega), if_pos (by omega)]
variable {G : CX} {cc : ByteArray} {nL : Nat} {own : String} {ret : Option FieldType} {Q : State → Prop} {M : MM} {pc : Nat} {lv : List (Nat × Value)} {rest : List Value}
theorem xE_aald (F : FX G (sX D cI cZ cL cE a w) cc nL own ret) (hw : w ≤ 4) {j : Nat} {ix : Int32} (hi : ix = nI j) (hj : j < 24) (d : decode cc pc = .ok (.aaload, 1)) (kk : wx G (sX D cI cZ cL cE a w) nL Q M (pc + 1) lv (.ref (a (10 + j)) :: rest)) : wx G (sX D cI cZ cL cE a w) nL Q M pc lv (.int ix :: .ref (a 9) :: rest) :=
  wx_aald (N := 24) (f := fun t => some (a (10 + t))) F 9 (x_lt (by decide)) rfl 3 rfl rfl hi hj (by omega) rfl d kk
theorem xL_aald (F : FX G (sX D cI cZ cL cE a w) cc nL own ret) (hw : w ≤ 4) {j : Nat} {ix : Int32} (hi : ix = nI j) (hj : j < w + 1) (d : decode cc pc = .ok (.aaload, 1)) (kk : wx G (sX D cI cZ cL cE a w) nL Q M (pc + 1) lv (.ref (a (43 + 2 * (j + 1))) :: rest)) : wx G (sX D cI cZ cL cE a w) nL Q M pc lv (.int ix :: .ref (a 42) :: rest) :=
  wx_aald (N := w + 1) (f := fun l => some (a (43 + 2 * (l + 1)))) F 42 (x_lt (by decide)) rfl 2 rfl rfl hi hj (by omega) rfl d kk
end XL
