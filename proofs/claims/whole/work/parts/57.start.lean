/-! The reading of a script's cell; a maker beside another system -/
theorem wh_astore_n {G : CX} {A : Nat → Prop} {cc : ByteArray} {nL : Nat} {own : String} {Q : State → Prop} {P : Heap → Prop} {cl sl pc : Nat} {lv : List (Nat × Value)} {rest : List Value} (F : FH G cc nL own) {f : Fin 4} {i : Nat} {x : Nat} {lv' : List (Nat × Value)} (d : decode cc pc = .ok (.astore_n f, 1)) (hi : (f : Nat) = i) (hn : i < nL) (hv : (i, Value.ref x) :: lv.filter (fun q => !(q.1 == i) && !(q.1 + 1 == i && q.2.category == 2)) = lv') (k : wh G A nL Q P cl sl (pc + 1) lv' rest) : wh G A nL Q P cl sl pc lv (.ref x :: rest) := fun H locs ls hP hS hl => lv_astore_n F.1 F.2.1 d hi hl hn hv (fun ls' hl' => k H locs ls' hP hS hl')
def Xs (b L : Nat) (xs : Nat → Int32) (sz : Nat) : State → Prop := fun U => U.heap.size = sz ∧ b < sz ∧ va_X b L xs U U.heap
theorem cell_ret {G : CX} {P : Heap → Prop} {pc L : Nat} {xs : Nat → Int32} {lv : List (Nat × Value)} {r : Int32} (F : FH G cZ_cell 2 qnZ) (hlo : (gme G).locks = false) (hr : (gme G).sig.returnType = some .int) (hp : r = if 0 < L then xs 0 else 0) (d : decode cZ_cell pc = .ok (.ireturn, 1)) : wh G (fun _ => False) 2 (MQ (gb G) (va_Qi (fun r (_ : Unit) => r = if 0 < L then xs 0 else 0) (fun _ _ => True) (fun _ => False)) (gA G) (gs G) 0 0 (fun _ => False)) P 0 0 pc lv [.int r] := fun H locs ls hP hS hl =>
  W.iret F.1 F.2.1 hr (fun t ht hW => ⟨⟨r, (), rfl, hp, trivial⟩, hS.F ht⟩) hS.2.2 d hlo
theorem cell_body {G : CX} {b L : Nat} {xs : Nat → Int32} (F : FH G cZ_cell 2 qnZ) (hlo : (gme G).locks = false) (hr : (gme G).sig.returnType = some .int) (hb : b < (gs G).heap.size) (hX : va_X b L xs (gs G) (gs G).heap) (hL : L ≤ 2049) : wh G (fun _ => False) 2 (MQ (gb G) (va_Qi (fun r (_ : Unit) => r = if 0 < L then xs 0 else 0) (fun _ _ => True) (fun _ => False)) (gA G) (gs G) 0 0 (fun _ => False)) (fun _ => True) 0 0 0 [(0, .ref b), (1, .int 0)] [] := by
  refine wh_iload_n F 1 dZ_cell_0 rfl rfl ?_
  refine wh_aload_n F 0 dZ_cell_1 rfl rfl ?_
  refine fun H locs ls hP hS hl => va_slen F.1 F.2.1 hX hb (fun h => h) hS dZ_cell_2 ((?_ : wh G (fun _ => False) 2 _ (fun _ => True) 0 0 3 [(0, .ref b), (1, .int 0)] [.int (nI L), .int 0]) H locs ls hP hS hl)
  refine wh_icmp_ge (tgt := 12) F dZ_cell_3 (by decide) (fun h => ?_) (fun h => ?_)
  · refine wh_iconst (v := 0) F dZ_cell_12 (by decide) ?_
    refine cell_ret F hlo hr ?_ dZ_cell_13
    rw [if_neg (fun q => nI_nle q (by omega) h)]
  · have h0 : 0 < L := by
      rcases Nat.eq_zero_or_pos L with e | e
      · exact absurd (by rw [e]; decide) h
      · exact e
    refine wh_aload_n F 0 dZ_cell_6 rfl rfl ?_
    refine wh_iload_n F 1 dZ_cell_7 rfl rfl ?_
    refine fun H locs ls hP hS hl => va_sld F.1 F.2.1 hX hb (fun h => h) hS (i := nI 0) (vp_in_nI h0 (by omega)) dZ_cell_8 ((?_ : wh G (fun _ => False) 2 _ (fun _ => True) 0 0 9 [(0, .ref b), (1, .int 0)] [.int (xs 0)]) H locs ls hP hS hl)
    refine wh_goto (tgt := 13) F dZ_cell_9 (by decide) ?_
    refine cell_ret F hlo hr ?_ dZ_cell_13
    rw [if_pos h0]
theorem kZ_cell {l : Launch} {b L : Nat} {xs : Nat → Int32} (hL : L ≤ 2049) (sz : Nat) : Met l yZ_cell wZ_cell rmZ_cell (va_Pc [.ref b, .int 0] (Xs b L xs sz)) (va_Qi (fun r (_ : Unit) => r = if 0 < L then xs 0 else 0) (fun _ _ => True) (fun _ => False)) 0 0 (fun _ => False) := by
  refine Met.ofW (cc := cZ_cell) (maxL := 2) (ret := some .int) rfl rfl ?_
  intro p e s m args below meth c s₁ B hml hv
  obtain ⟨rfl, hsz, hb, hX⟩ := hv
  subst hsz
  rw [lg_entry_eq]
  exact cell_body (G := (p, l, e, (headSpec wZ_cell rmZ_cell).room, s, m, ([.ref b, .int 0] : List Value).toArray, below, meth, c)) ⟨B.exec, B.bytes, hml, findClass_of_methodNamed B.named, fun w h => atoms_spec (ws := wZ_cell) B.pre w (List.mem_cons_of_mem _ h)⟩ B.notSynchronized B.returns hb hX hL s.heap [] _ trivial va_S.rf (lv_entry [.ref b, .int 0] (Nat.le_of_ble_eq_true rfl))
theorem Xs.blind {av : List Value} {b L sz : Nat} {xs : Nat → Int32} : FrameBlind (va_Pc av (Xs b L xs sz)) := fun a V g mk q => by
  obtain ⟨q0, q1, q2, q3⟩ := q
  exact ⟨q0, q1, q2, va_X.moved (u := V) (U := V.calling g mk a) (Vm.Alike.refl V.vm) q3⟩
theorem wh_cell {G : CX} {Q : State → Prop} {P : Heap → Prop} {cl sl pc b L : Nat} {xs : Nat → Int32} {lv : List (Nat × Value)} {rest : List Value} (Z : ZF G b L xs) (hcs : cl ≤ 600000 ∧ sl ≤ 7302250) (hP1 : ∀ H H1 : Heap, P H → (∀ q : Nat, q < H.size → H1[q]? = H[q]?) → P H1) (d : decode cZ_law pc = .ok (.invokestatic 9, 3)) (hrm : (rest.map fun v => v.category).sum ≤ 8) (kk : wh G (AL G) 4 Q P cl sl (pc + 3) lv (.int (if 0 < L then xs 0 else 0) :: rest)) : wh G (AL G) 4 Q P cl sl pc lv (.int 0 :: .ref b :: rest) := fun H locs ls hP hS hl => by
  obtain ⟨F, hR, hX, hb, hL⟩ := Z
  have cw := cw_S (R := gR G) (n := 2) F.2.2.2.2 lmZ_9 cbZ_cell (rm := rmZ_cell) rfl rfl (by rw [hR]; exact ⟨Nat.le_of_ble_eq_true rfl, Nat.le_of_ble_eq_true rfl⟩)
  have hXH : va_X b L xs (gs G) H := va_X.kept hX (hS.2.1 b hb (fun q => by unfold AL at q; omega))
  refine va_calli (va_runS F (kZ_cell (l := gl G) (b := b) (xs := xs) hL H.size) cw ⟨Xs.blind, fun U hU hW => ⟨rfl, by rw [hU], Nat.lt_of_lt_of_le hb hS.1, by rw [hU]; exact va_X.moved hW.alike hXH⟩⟩ rfl rfl hl.1 (As := [.ref b, .int 0]) rfl (lv_room hrm) d (by rw [hR]; exact ⟨hcs.1, hcs.2⟩)) hS (fun q _ h => h.elim) (fun q h => h.elim) (fun r u t H1 locs1 ht _ hp _ _ hfr hS1 => ?_)
  rw [hp]
  exact kk H1 locs1 ls (hP1 H H1 hP (fun q h => hfr q h (fun z => z))) hS1 hl
theorem pwu_1 {D : va_G} {A : Nat → Prop} {U : UU} : ∀ H H1 : Heap, pwu D A U H → (∀ q : Nat, q < H.size → H1[q]? = H[q]?) → pwu D A U H1 := fun H H1 h hq => ⟨va_P.kept h.1 (fun k q hk => hq _ (va_at.lt (h.1 k q hk))), h.2⟩
theorem wh_ctorF {G : CX} {D : va_G} {A : Nat → Prop} {cc : ByteArray} {nL : Nat} {own : String} {Q : State → Prop} {U : UU} {cl sl pc : Nat} {lv : List (Nat × Value)} {rest : List Value} (F : FH G cc nL own) (hA : ∀ q, (gs G).heap.size ≤ q → A q) {tysC : List (ClassId × FieldType)} (hK : va_K D vwC tysC (gs G)) {X : State → Prop} (hXs : X (gs G)) (hXm : XM X) {P2 : Heap → Prop} (hP2 : ∀ H H1 : Heap, P2 H → (∀ q, q < H.size → ¬ (∃ k, k < U.1 ∧ U.2.1 k = q) → H1[q]? = H[q]?) → P2 H1) {Zs : Nat → Prop} (hZ : ∀ H, P2 H → ∀ q, Zs q → q < H.size) {y : MethodName} {wsC : List Cond} {rm : Room} {As st : List Value} {b mc ms index n maxL : Nat} {bytes : ByteArray} {tf : ClassId → ClassId → List (ClassId × FieldType)} {post : UU × ClassId × ClassId → Prop} (hM : Cg (gl G) D y wsC rm (.ref b :: As) U tysC X mc ms tf post)
    (cw : CallB (gR G) (gs G) (gA G) own index y bytes maxL none wsC rm mc ms n ∧ y.name = "<init>" ∧ (Cond.instanceMethod y).before (gA G) (gs G) = true) (hn : As.length = n) (hst : st = As.reverse ++ .ref b :: rest) (hrm : (rest.map fun v => v.category).sum ≤ 8) (d : decode cc pc = .ok (.invokespecial index, 3)) (hf : cl + mc ≤ (gR G).cells ∧ sl + ms ≤ (gR G).slots)
    (kk : ∀ U' c1 c2, post (U', c1, c2) → va_K D vwC (tf c1 c2) (gs G) → (∀ k, k < U'.1 → Zs (U'.2.1 k) → ∃ j, j < U.1 ∧ U.2.1 j = U'.2.1 k) → wh G A nL Q (fun H => pwu D A U' H ∧ P2 H) (cl + mc) (sl + ms) (pc + 3) lv rest) : wh G A nL Q (fun H => pwu D A U H ∧ P2 H) cl sl pc lv st := fun H locs ls hP hS hl => by
  have hAG := AG_sub hA hP.1.2 hS
  refine va_callv (va_runI F (hM H.size) cw ⟨Xc.blind hXm, fun V hV hW => ⟨rfl, by rw [hV], by rw [hV]; exact hP.1.1, hP.1.2.weaken (fun _ _ _ _ => trivial), va_K.moved hW.alike hK, hXm.2 _ _ hW hXs⟩⟩ rfl hn hl.1 hst (lv_room hrm) d hf) hS (fun q _ h => hAG q h) hAG (fun u t H1 locs1 ht hvm hp hB _ hfr hS1 => ?_)
  obtain ⟨U', c1, c2⟩ := u
  obtain ⟨hP1, hD1, hK1⟩ := hB
  refine kk U' c1 c2 hp (va_K.moved hvm.symm hK1) (fun k hk hz => ?_) H1 locs1 ls ⟨⟨by rw [← ht]; exact hP1, hD1.weaken (fun _ _ _ h => hAG _ h)⟩, hP2 H H1 hP.2 (fun q h1 h2 => hfr q h1 (fun z => by
    rcases z with z | z
    · exact h2 z
    · omega))⟩ hS1 hl
  rcases hD1.2 k _ (wu_at hk) with z | z
  · exact z
  · exact absurd (hZ H hP.2 _ hz) (Nat.not_lt.mpr z)
