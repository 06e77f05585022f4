/-! A walk while cells are made: wh, over any picture P of the heap; worlds that grow -/
theorem lw_int : Cond.arrayClass .int ∈ lw_g := lw_in (List.mem_append_right _ (List.mem_of_getElem? (i := 65) (by decide +kernel))) rfl
theorem lw_bool : Cond.arrayClass .boolean ∈ lw_g := lw_in (List.mem_append_right _ (List.mem_of_getElem? (i := 153) (by decide +kernel))) rfl
theorem lw_ovI : Cond.arrayOver (.array .int) ∈ lw_tbl := List.mem_append_right _ (List.mem_of_getElem? (i := 29) (by decide +kernel))
theorem lw_ovL : Cond.arrayOver (.object qnL) ∈ lw_tbl := List.mem_append_right _ (List.mem_of_getElem? (i := 85) (by decide +kernel))
theorem nsE : Cond.instantiable qnE 17 ∈ lw_g := lw_in (List.mem_append_right _ (List.mem_of_getElem? (i := 9) (by decide +kernel))) rfl
theorem nsG : Cond.instantiable qnG 9 ∈ lw_g := lw_in (List.mem_append_right _ (List.mem_of_getElem? (i := 23) (by decide +kernel))) rfl
theorem nsP : Cond.instantiable qnP 2 ∈ lw_g := lw_in (List.mem_append_right _ (List.mem_of_getElem? (i := 67) (by decide +kernel))) rfl
theorem nsL : Cond.instantiable qnL 2 ∈ lw_g := lw_in (List.mem_append_right _ (List.mem_of_getElem? (i := 86) (by decide +kernel))) rfl
theorem nsR : Cond.instantiable qnR 25 ∈ lw_g := lw_in (List.mem_append_right _ (List.mem_of_getElem? (i := 401) (by decide +kernel))) rfl
theorem imE : Cond.instanceMethod yE_init ∈ lw_g := lw_in (List.mem_append_right _ (List.mem_of_getElem? (i := 11) (by decide +kernel))) rfl
theorem imG : Cond.instanceMethod yG_init ∈ lw_g := lw_in (List.mem_append_right _ (List.mem_of_getElem? (i := 25) (by decide +kernel))) rfl
theorem imP : Cond.instanceMethod yP_init ∈ lw_g := lw_in (List.mem_append_right _ (List.mem_of_getElem? (i := 69) (by decide +kernel))) rfl
theorem imL : Cond.instanceMethod yL_init ∈ lw_g := lw_in (List.mem_append_right _ (List.mem_of_getElem? (i := 88) (by decide +kernel))) rfl
theorem imR : Cond.instanceMethod yR_init ∈ lw_g := lw_in (List.mem_append_right _ (List.mem_of_getElem? (i := 403) (by decide +kernel))) rfl
theorem coE : Cond.code yE_init cE_init 3 none ∈ lw_g := lw_in (List.mem_append_right _ (List.mem_of_getElem? (i := 12) (by decide +kernel))) rfl
theorem coG : Cond.code yG_init cG_init 1 none ∈ lw_g := lw_in (List.mem_append_right _ (List.mem_of_getElem? (i := 26) (by decide +kernel))) rfl
theorem coP : Cond.code yP_init cP_init 1 none ∈ lw_g := lw_in (List.mem_append_right _ (List.mem_of_getElem? (i := 70) (by decide +kernel))) rfl
theorem coL : Cond.code yL_init cL_init 1 none ∈ lw_g := lw_in (List.mem_append_right _ (List.mem_of_getElem? (i := 89) (by decide +kernel))) rfl
theorem coR : Cond.code yR_init cR_init 2 none ∈ lw_g := lw_in (List.mem_append_right _ (List.mem_of_getElem? (i := 404) (by decide +kernel))) rfl
theorem imO : Cond.instanceMethod objectInit ∈ lw_g := lw_in (List.mem_append_right _ (List.mem_of_getElem? (i := 14) (by decide +kernel))) rfl
theorem coO : Cond.code objectInit ⟨#[0xb1]⟩ 1 none ∈ lw_g := lw_in (List.mem_append_right _ (List.mem_of_getElem? (i := 15) (by decide +kernel))) rfl
theorem gd_init {y : MethodName} {bytes : ByteArray} {maxL : Nat} {ret : Option FieldType} (h : Cond.code y bytes maxL ret ∈ lw_g) : GoodIn lw_g (Cond.code y bytes maxL ret :: lw_g) := fun w hw => by
  have : w ∈ lw_g := by
    rcases List.mem_cons.mp hw with rfl | q
    · exact h
    · exact q
  exact ⟨this, lw_good w this⟩
def AOA (U : State) : Prop := (Cond.arrayOver (.array .int)).before #[] U = true
theorem AOA.moved {u U : State} (hvm : u.vm.Alike U.vm) (h : AOA u) : AOA U := Cond.overAtom_setVm (args := #[]) (s := u) hvm (.arrayOver (.array .int)) rfl h
abbrev UU : Type := Nat × (Nat → Nat) × (Nat → va_E)
def wu (U : UU) : va_W := (List.range U.1).map (fun k => (U.2.1 k, U.2.2 k))
def ups (U : UU) (q : Nat) (e : va_E) : UU := (U.1 + 1, (fun k => if k = U.1 then q else U.2.1 k), fun k => if k = U.1 then e else U.2.2 k)
def ust (U : UU) (k : Nat) (e : va_E) : UU := (U.1, U.2.1, fun j => if j = k then e else U.2.2 j)
theorem wu_len (U : UU) : (wu U).length = U.1 := by simp [wu]
theorem wu_at {U : UU} {k : Nat} (h : k < U.1) : (wu U)[k]? = some (U.2.1 k, U.2.2 k) := by
  unfold wu
  rw [List.getElem?_map, List.getElem?_range h]
  rfl
theorem wu_of {U : UU} {k : Nat} {q : Nat × va_E} (h : (wu U)[k]? = some q) : k < U.1 ∧ q = (U.2.1 k, U.2.2 k) := by
  have hl : k < U.1 := by rw [← wu_len U]; exact (List.getElem?_eq_some_iff.mp h).1
  rw [wu_at hl] at h
  exact ⟨hl, (Option.some.inj h).symm⟩
theorem wu_ups (U : UU) (q : Nat) (e : va_E) : wu (ups U q e) = wu U ++ [(q, e)] := by
  unfold wu ups
  show (List.range (U.1 + 1)).map _ = _
  rw [List.range_succ, List.map_append]
  congr 1
  · refine List.map_congr_left (fun k hk => ?_)
    have := List.mem_range.mp hk
    show ((if k = U.1 then q else U.2.1 k), (if k = U.1 then e else U.2.2 k)) = _
    rw [if_neg (by omega), if_neg (by omega)]
  · show [((if U.1 = U.1 then q else U.2.1 U.1), (if U.1 = U.1 then e else U.2.2 U.1))] = _
    rw [if_pos rfl, if_pos rfl]
theorem wu_ust {U : UU} {k : Nat} (e : va_E) : wu (ust U k e) = (wu U).set k (U.2.1 k, e) := by
  apply List.ext_getElem?
  intro i
  rw [List.getElem?_set, wu_len]
  by_cases hi : i < U.1
  · rw [wu_at (U := ust U k e) hi]
    show some (U.2.1 i, if i = k then e else U.2.2 i) = _
    by_cases q : k = i
    · subst q; rw [if_pos rfl, if_pos rfl, if_pos hi]
    · rw [if_neg (Ne.symm q), if_neg q, wu_at hi]
  · rw [List.getElem?_eq_none (by rw [wu_len]; show U.1 ≤ i; omega)]
    by_cases q : k = i
    · rw [if_pos q, if_neg (by omega)]
    · rw [if_neg q, List.getElem?_eq_none (by rw [wu_len]; omega)]
def pwu (D : va_G) (A : Nat → Prop) (U : UU) (H : Heap) : Prop := va_P D vwC (wu U) H ∧ va_D A (wu U)
def wh (G : CX) (A : Nat → Prop) (nL : Nat) (Q : State → Prop) (P : Heap → Prop) (cl sl pc : Nat) (lv : List (Nat × Value)) (st : List Value) : Prop :=
  ∀ (H : Heap) (locs : List Loc) (ls : Array Slot), P H → va_S A (gs G).heap H locs → lv_has ls nL lv → W (gp G) (gl G) (ge G) (gR G) (gs G) (gm G) (gA G) (gb G) (gme G) (gc G) H locs cl sl Q (F0 (gm G) pc ls st)
abbrev FH (G : CX) (cc : ByteArray) (nL : Nat) (own : String) : Prop := CallFix (gp G) (gm G) (gc G) cc nL (gs G) (gA G) lw_g own
section WH
variable {G : CX} {A : Nat → Prop} {cc : ByteArray} {nL : Nat} {own : String} {Q : State → Prop} {P : Heap → Prop} {cl sl pc : Nat} {lv : List (Nat × Value)} {rest : List Value}
theorem wh_lv {lv' : List (Nat × Value)} {st : List Value} (ks : List Nat) (h : lv_pick lv ks = lv') (k : wh G A nL Q P cl sl pc lv' st) : wh G A nL Q P cl sl pc lv st := fun H locs ls hP hS hl => k H locs ls hP hS (lv_sub hl ks h)
theorem wh_P {P' : Heap → Prop} {st : List Value} (h : ∀ H, P H → P' H) (k : wh G A nL Q P' cl sl pc lv st) : wh G A nL Q P cl sl pc lv st := fun H locs ls hP hS hl => k H locs ls (h H hP) hS hl
theorem wh_wide {cl' sl' : Nat} {st : List Value} (h1 : cl ≤ cl') (h2 : sl ≤ sl') (k : wh G A nL Q P cl' sl' pc lv st) : wh G A nL Q P cl sl pc lv st := fun H locs ls hP hS hl => W.widen h1 h2 (k H locs ls hP hS hl)
theorem wh_iconst (F : FH G cc nL own) {z : Int} {v : Int32} (d : decode cc pc = .ok (.iconst z, 1)) (hv : Int32.ofInt z = v) (k : wh G A nL Q P cl sl (pc + 1) lv (.int v :: rest)) : wh G A nL Q P cl sl pc lv rest := fun H locs ls hP hS hl => lv_iconst F.1 F.2.1 d hv (k H locs ls hP hS hl)
theorem wh_bipush (F : FH G cc nL own) {z : Int} {v : Int32} (d : decode cc pc = .ok (.bipush z, 2)) (hv : (Int8.ofInt z).toInt32 = v) (k : wh G A nL Q P cl sl (pc + 2) lv (.int v :: rest)) : wh G A nL Q P cl sl pc lv rest := fun H locs ls hP hS hl => lv_bipush F.1 F.2.1 d hv (k H locs ls hP hS hl)
theorem wh_sipush (F : FH G cc nL own) {z : Int} {v : Int32} (d : decode cc pc = .ok (.sipush z, 3)) (hv : (Int16.ofInt z).toInt32 = v) (k : wh G A nL Q P cl sl (pc + 3) lv (.int v :: rest)) : wh G A nL Q P cl sl pc lv rest := fun H locs ls hP hS hl => lv_sipush F.1 F.2.1 d hv (k H locs ls hP hS hl)
theorem wh_iload_n (F : FH G cc nL own) {f : Fin 4} {i : Nat} {x : Int32} (q : Nat) (d : decode cc pc = .ok (.iload_n f, 1)) (hi : (f : Nat) = i) (hq : lv[q]? = some (i, .int x)) (k : wh G A nL Q P cl sl (pc + 1) lv (.int x :: rest)) : wh G A nL Q P cl sl pc lv rest := fun H locs ls hP hS hl => lv_iload_n F.1 F.2.1 d hi (lv_at hl q hq) (k H locs ls hP hS hl)
theorem wh_aload_n (F : FH G cc nL own) {f : Fin 4} {i : Nat} {x : Nat} (q : Nat) (d : decode cc pc = .ok (.aload_n f, 1)) (hi : (f : Nat) = i) (hq : lv[q]? = some (i, .ref x)) (k : wh G A nL Q P cl sl (pc + 1) lv (.ref x :: rest)) : wh G A nL Q P cl sl pc lv rest := fun H locs ls hP hS hl => lv_aload_n F.1 F.2.1 d hi (lv_at hl q hq) (k H locs ls hP hS hl)
theorem wh_istore_n (F : FH G cc nL own) {f : Fin 4} {i : Nat} {x : Int32} {lv' : List (Nat × Value)} (d : decode cc pc = .ok (.istore_n f, 1)) (hi : (f : Nat) = i) (hn : i < nL) (hv : (i, Value.int x) :: lv.filter (fun q => !(q.1 == i) && !(q.1 + 1 == i && q.2.category == 2)) = lv') (k : wh G A nL Q P cl sl (pc + 1) lv' rest) : wh G A nL Q P cl sl pc lv (.int x :: rest) := fun H locs ls hP hS hl => lv_istore_n F.1 F.2.1 d hi hl hn hv (fun ls' hl' => k H locs ls' hP hS hl')
theorem wh_iinc (F : FH G cc nL own) {i : Nat} {z : Int} {x v : Int32} {lv' : List (Nat × Value)} (q : Nat) (d : decode cc pc = .ok (.iinc i z, 3)) (hq : lv[q]? = some (i, .int x)) (hz : x + Int32.ofInt z = v) (hn : i < nL) (hv : (i, Value.int v) :: lv.filter (fun q => !(q.1 == i) && !(q.1 + 1 == i && q.2.category == 2)) = lv') (k : wh G A nL Q P cl sl (pc + 3) lv' rest) : wh G A nL Q P cl sl pc lv rest := fun H locs ls hP hS hl => lv_iinc F.1 F.2.1 d hl hq hz hn hv (fun ls' hl' => k H locs ls' hP hS hl')
theorem wh_iadd (F : FH G cc nL own) {x y : Int32} (d : decode cc pc = .ok (.iadd, 1)) (k : wh G A nL Q P cl sl (pc + 1) lv (.int (x + y) :: rest)) : wh G A nL Q P cl sl pc lv (.int y :: .int x :: rest) := fun H locs ls hP hS hl => lv_iadd F.1 F.2.1 d (k H locs ls hP hS hl)
theorem wh_isub (F : FH G cc nL own) {x y : Int32} (d : decode cc pc = .ok (.isub, 1)) (k : wh G A nL Q P cl sl (pc + 1) lv (.int (x - y) :: rest)) : wh G A nL Q P cl sl pc lv (.int y :: .int x :: rest) := fun H locs ls hP hS hl => lv_isub F.1 F.2.1 d (k H locs ls hP hS hl)
theorem wh_iand (F : FH G cc nL own) {x y : Int32} (d : decode cc pc = .ok (.iand, 1)) (k : wh G A nL Q P cl sl (pc + 1) lv (.int (x &&& y) :: rest)) : wh G A nL Q P cl sl pc lv (.int y :: .int x :: rest) := fun H locs ls hP hS hl => lv_iand F.1 F.2.1 d (k H locs ls hP hS hl)
theorem wh_goto (F : FH G cc nL own) {off : Int} {tgt : Nat} {st : List Value} (d : decode cc pc = .ok (.goto off, 3)) (ht : (pc : Int) + off = (tgt : Int)) (k : wh G A nL Q P cl sl tgt lv st) : wh G A nL Q P cl sl pc lv st := fun H locs ls hP hS hl => lv_goto F.1 F.2.1 d ht (k H locs ls hP hS hl)
theorem wh_dup (F : FH G cc nL own) {v : Value} (d : decode cc pc = .ok (.dup, 1)) (hc : v.category = 1) (k : wh G A nL Q P cl sl (pc + 1) lv (v :: v :: rest)) : wh G A nL Q P cl sl pc lv (v :: rest) := fun H locs ls hP hS hl => lv_dup F.1 F.2.1 d hc (k H locs ls hP hS hl)
theorem wh_icmp_gt (F : FH G cc nL own) {x y : Int32} {off : Int} {tgt : Nat} (d : decode cc pc = .ok (.if_icmp .gt off, 3)) (ht : (pc : Int) + off = (tgt : Int)) (kt : y < x → wh G A nL Q P cl sl tgt lv rest) (kf : ¬ y < x → wh G A nL Q P cl sl (pc + 3) lv rest) : wh G A nL Q P cl sl pc lv (.int y :: .int x :: rest) := fun H locs ls hP hS hl => lv_icmp_gt F.1 F.2.1 d ht (fun h => kt h H locs ls hP hS hl) (fun h => kf h H locs ls hP hS hl)
theorem wh_icmp_ge (F : FH G cc nL own) {x y : Int32} {off : Int} {tgt : Nat} (d : decode cc pc = .ok (.if_icmp .ge off, 3)) (ht : (pc : Int) + off = (tgt : Int)) (kt : y ≤ x → wh G A nL Q P cl sl tgt lv rest) (kf : ¬ y ≤ x → wh G A nL Q P cl sl (pc + 3) lv rest) : wh G A nL Q P cl sl pc lv (.int y :: .int x :: rest) := fun H locs ls hP hS hl => lv_icmp_ge F.1 F.2.1 d ht (fun h => kt h H locs ls hP hS hl) (fun h => kf h H locs ls hP hS hl)
theorem wh_icmp_le (F : FH G cc nL own) {x y : Int32} {off : Int} {tgt : Nat} (d : decode cc pc = .ok (.if_icmp .le off, 3)) (ht : (pc : Int) + off = (tgt : Int)) (kt : x ≤ y → wh G A nL Q P cl sl tgt lv rest) (kf : ¬ x ≤ y → wh G A nL Q P cl sl (pc + 3) lv rest) : wh G A nL Q P cl sl pc lv (.int y :: .int x :: rest) := fun H locs ls hP hS hl => lv_icmp_le F.1 F.2.1 d ht (fun h => kt h H locs ls hP hS hl) (fun h => kf h H locs ls hP hS hl)
theorem wh_icmp_eq (F : FH G cc nL own) {x y : Int32} {off : Int} {tgt : Nat} (d : decode cc pc = .ok (.if_icmp .eq off, 3)) (ht : (pc : Int) + off = (tgt : Int)) (kt : x = y → wh G A nL Q P cl sl tgt lv rest) (kf : ¬ x = y → wh G A nL Q P cl sl (pc + 3) lv rest) : wh G A nL Q P cl sl pc lv (.int y :: .int x :: rest) := fun H locs ls hP hS hl => lv_icmp_eq F.1 F.2.1 d ht (fun h => kt h H locs ls hP hS hl) (fun h => kf h H locs ls hP hS hl)
theorem wh_objInit (F : FH G cc nL own) {idx a : Nat} (hlink : Cond.methodLink own idx objectInit ∈ lw_g) (d : decode cc pc = .ok (.invokespecial idx, 3)) (h1 : 1 ≤ (gR G).frames) (h2 : (rest.map fun v => v.category).sum + 12 ≤ (gR G).locals) (k : wh G A nL Q P cl sl (pc + 3) lv rest) : wh G A nL Q P cl sl pc lv (.ref a :: rest) := fun H locs ls hP hS hl =>
  W.objInit F.1 F.2.1 F.2.2.2.1 (F.2.2.2.2 _ hlink) (F.2.2.2.2 _ imO) (F.2.2.2.2 _ coO) rfl (by rw [F.2.2.1]; exact hl.1) rfl d h1 (by show 2 * 0 + _ + 12 ≤ _; omega) (W.eq (g2 := F0 (gm G) (pc + 3) ls rest) rfl (k H locs ls hP hS hl))
end WH
section WU
variable {G : CX} {D : va_G} {A : Nat → Prop} {cc : ByteArray} {nL : Nat} {own : String} {Q : State → Prop} {U : UU} {cl sl pc : Nat} {lv : List (Nat × Value)} {rest : List Value} {tys : List (ClassId × FieldType)}
theorem K_uni {t0 t1 : Nat} {c1 c2 : ClassId} {ty : FieldType} {s : State} (hK : va_K D vwC tys s) (h0 : tys[t0]? = some (c1, ty)) {ty' : FieldType} (hn : ∀ C, ty ≠ .object C) (h1 : va_RA s c2 ty') (e : ty' = ty) : c2 = c1 := by
  subst e
  have h2 := (hK.2 t0 _ h0).2
  cases ty' with
  | object C => exact absurd rfl (hn C)
  | _ =>
    have a1 : s.vm.findClass _ = some c2 := h1
    have a2 : s.vm.findClass _ = some c1 := h2
    exact Option.some.inj (a1.symm.trans a2)
theorem wh_newa (F : FH G cc nL own) (hK : va_K D vwC tys (gs G)) (hA : ∀ q, (gs G).heap.size ≤ q → A q) {cI : ClassId} {ty : FieldType} (t0 : Nat) (ht : tys[t0]? = some (cI, ty)) (hno : ∀ C, ty ≠ .object C) (hm : Cond.arrayClass ty ∈ lw_g) {atype : ArrayType} (hty : newarray.typeOf atype = ty) (hdv : defaultValue ty = .int 0) {n : Int32} {N : Nat} (hn : ¬ n < 0) (hN : n.toNatClampNeg = N) (hb : N * componentBytes ty ≤ 536870912) (hc : cl + 1 ≤ (gR G).cells) (hs : sl + N ≤ (gR G).slots) (d : decode cc pc = .ok (.newarray atype, 2))
    (k : ∀ q, wh G A nL Q (pwu D A (ups U q (.inl (cI, N, .inl (fun _ => 0))))) (cl + 1) (sl + N) (pc + 2) lv (.ref q :: rest)) : wh G A nL Q (pwu D A U) cl sl pc lv (.int n :: rest) := fun H locs ls hP hS hl => by
  refine va_newa (a0 := (N, .inl (fun _ => 0))) F.1 F.2.1 (by rw [hty]; exact F.2.2.2.2 _ hm) hty hK hP.1 hP.2 hS hA (fun cA => by rw [vp_cell_i, hdv]) hn hN hb hc hs d (fun q cA H1 hK1 hP1 hD1 hS1 => ?_)
  have e : cA = cI := K_uni (t1 := 0) hK ht hno (hK1.2 tys.length (cA, ty) (by rw [List.getElem?_append_right (Nat.le_refl _), Nat.sub_self]; rfl)).2 rfl
  subst e
  exact k q H1 locs ls ⟨by rw [wu_ups]; exact hP1, by rw [wu_ups]; exact hD1⟩ hS1 hl
theorem wh_new (F : FH G cc nL own) (hK : va_K D vwC tys (gs G)) (hA : ∀ q, (gs G).heap.size ≤ q → A q) {C : String} {T : u_T} {N ci index : Nat} (hin : ∀ w ∈ u_ws C T N, w ∈ lw_g) (ty : Nat → FieldType) (hty : ∀ k, k < N → parseFieldDescriptor (T k).2.2.1 = some (ty k)) (hcl : Cond.classLink own index C ∈ lw_g) (hi : Cond.instantiable C N ∈ lw_g) (hini : Cond.initialized C ∈ lw_g) (hc : vwC[ci]? = some (C, T, N)) {fs : List Value} (hfs : ∀ j, j < N → defaultValue (ty j) = vp_V fs j) (h1 : cl + 1 ≤ (gR G).cells) (h2 : sl + N ≤ (gR G).slots) (d : decode cc pc = .ok (.new index, 3))
    (k : ∀ q, wh G A nL Q (pwu D A (ups U q (.inr (ci, fs)))) (cl + 1) (sl + N) (pc + 3) lv (.ref q :: rest)) : wh G A nL Q (pwu D A U) cl sl pc lv rest := fun H locs ls hP hS hl =>
  va_new F.1 F.2.1 F.2.2.2.2 hin ty hty F.2.2.2.1 (F.2.2.2.2 _ hcl) (F.2.2.2.2 _ hi) (F.2.2.2.2 _ hini) hK hP.1 hP.2 hS hA hc hfs h1 h2 d (fun q H1 hP1 hD1 hS1 => k q H1 locs ls ⟨by rw [wu_ups]; exact hP1, by rw [wu_ups]; exact hD1⟩ hS1 hl)
theorem wh_newq (F : FH G cc nL own) (hK : va_K D vwC tys (gs G)) (hA : ∀ q, (gs G).heap.size ≤ q → A q) {C : String} {index : Nat} (hcl : Cond.classLink own index C ∈ lw_g) (hov : va_AO C (gs G)) {n : Int32} {N : Nat} (hn : ¬ n < 0) (hN : n.toNatClampNeg = N) (hb : N * 4 ≤ 536870912) (h1 : cl + 1 ≤ (gR G).cells) (h2 : sl + N ≤ (gR G).slots) (d : decode cc pc = .ok (.anewarray index, 3))
    (k : ∀ q cA, va_K D vwC (tys ++ [(cA, .object C)]) (gs G) → wh G A nL Q (pwu D A (ups U q (.inl (cA, N, .inr (.inr (.inr (.inr (fun _ => none)))))))) (cl + 1) (sl + N) (pc + 3) lv (.ref q :: rest)) : wh G A nL Q (pwu D A U) cl sl pc lv (.int n :: rest) := fun H locs ls hP hS hl =>
  va_newq F.1 F.2.1 F.2.2.2.1 (F.2.2.2.2 _ hcl) hov hK hP.1 hP.2 hS hA hn hN hb h1 h2 d (fun q cA H1 hK1 hP1 hD1 hS1 => k q cA hK1 H1 locs ls ⟨by rw [wu_ups]; exact hP1, by rw [wu_ups]; exact hD1⟩ hS1 hl)
theorem wh_putF (F : FH G cc nL own) (hK : va_K D vwC tys (gs G)) (hin0 : (gme G).name = "<init>") {C : String} {T : u_T} {N ci index : Nat} {fs : List Value} (hin : ∀ w ∈ u_ws C T N, w ∈ lw_g) (ty0 : Nat → FieldType) (hty : ∀ k, k < N → parseFieldDescriptor (T k).2.2.1 = some (ty0 k)) (hnm : ∀ a, a < N → ∀ b, b < N → a ≠ b → (T a).2.1 ≠ (T b).2.1) (k : Nat) (hk : k < U.1) (he : U.2.2 k = .inr (ci, fs)) (hc : vwC[ci]? = some (C, T, N)) (j : Nat) (hj : j < N) (hlink : Cond.fieldLink own index C (T j).2.1 (T j).2.2.1 ∈ lw_g) (hT : (T j).1 = C) (hfin : (T j).2.2.2 = true) (hCo : C = own) {ty : FieldType} {v : Value} (hd : parseFieldDescriptor (T j).2.2.1 = some ty) (hn : narrow ty v = v) (hfit : fits ty v = true) (hl0 : j < fs.length) (d : decode cc pc = .ok (.putfield index, 3)) {a : Nat} (ha : a = U.2.1 k)
    (kk : wh G A nL Q (pwu D A (ust U k (.inr (ci, fs.set j v)))) cl sl (pc + 3) lv rest) : wh G A nL Q (pwu D A U) cl sl pc lv (v :: .ref a :: rest) := fun H locs ls hP hS hl => by
  subst ha
  exact va_putF F.1 F.2.1 F.2.2.2.2 hin ty0 hty hnm F.2.2.2.1 hK hP.1 hP.2 hS k (by rw [wu_at hk, he]) hc j hj (F.2.2.2.2 _ hlink) (fun x h => by rw [hT] at h; exact h) hfin hin0 (hT.trans hCo) hd hn hfit hl0 d (fun H1 locs1 hP1 hD1 hS1 => kk H1 locs1 ls ⟨by rw [wu_ust]; exact hP1, by rw [wu_ust]; exact hD1⟩ hS1 hl)
theorem wh_put (F : FH G cc nL own) (hK : va_K D vwC tys (gs G)) {C : String} {T : u_T} {N ci index : Nat} {fs : List Value} (hin : ∀ w ∈ u_ws C T N, w ∈ lw_g) (ty0 : Nat → FieldType) (hty : ∀ k, k < N → parseFieldDescriptor (T k).2.2.1 = some (ty0 k)) (hnm : ∀ a, a < N → ∀ b, b < N → a ≠ b → (T a).2.1 ≠ (T b).2.1) (k : Nat) (hk : k < U.1) (he : U.2.2 k = .inr (ci, fs)) (hc : vwC[ci]? = some (C, T, N)) (j : Nat) (hj : j < N) (hlink : Cond.fieldLink own index C (T j).2.1 (T j).2.2.1 ∈ lw_g) (hT : (T j).1 = C) (hfin : (T j).2.2.2 = false) {ty : FieldType} {v : Value} (hd : parseFieldDescriptor (T j).2.2.1 = some ty) (hn : narrow ty v = v) (hfit : fits ty v = true) (hl0 : j < fs.length) (d : decode cc pc = .ok (.putfield index, 3)) {a : Nat} (ha : a = U.2.1 k)
    (kk : wh G A nL Q (pwu D A (ust U k (.inr (ci, fs.set j v)))) cl sl (pc + 3) lv rest) : wh G A nL Q (pwu D A U) cl sl pc lv (v :: .ref a :: rest) := fun H locs ls hP hS hl => by
  subst ha
  exact va_put F.1 F.2.1 F.2.2.2.2 hin ty0 hty hnm F.2.2.2.1 hK hP.1 hP.2 hS k (by rw [wu_at hk, he]) hc j hj (F.2.2.2.2 _ hlink) (fun x h => by rw [hT] at h; exact h) hfin hd hn hfit hl0 d (fun H1 locs1 hP1 hD1 hS1 => kk H1 locs1 ls ⟨by rw [wu_ust]; exact hP1, by rw [wu_ust]; exact hD1⟩ hS1 hl)
theorem wh_get (F : FH G cc nL own) (hK : va_K D vwC tys (gs G)) {C : String} {T : u_T} {N ci index : Nat} {fs : List Value} {v : Value} (hin : ∀ w ∈ u_ws C T N, w ∈ lw_g) (k : Nat) (hk : k < U.1) (he : U.2.2 k = .inr (ci, fs)) (hc : vwC[ci]? = some (C, T, N)) (j : Nat) (hj : j < N) (hlink : Cond.fieldLink own index C (T j).2.1 (T j).2.2.1 ∈ lw_g) (hT : (T j).1 = C) (hv : fs[j]? = some v) (d : decode cc pc = .ok (.getfield index, 3)) {a : Nat} (ha : a = U.2.1 k)
    (kk : wh G A nL Q (pwu D A U) cl sl (pc + 3) lv (v :: rest)) : wh G A nL Q (pwu D A U) cl sl pc lv (.ref a :: rest) := fun H locs ls hP hS hl => by
  subst ha
  exact va_get F.1 F.2.1 F.2.2.2.2 hin F.2.2.2.1 hK hP.1 k (by rw [wu_at hk, he]) hc j hj (F.2.2.2.2 _ hlink) (fun x h => by rw [hT] at h; exact h) hv d (kk H locs ls hP hS hl)
theorem wh_astq (F : FH G cc nL own) (hK : va_K D vwC tys (gs G)) (k0 t0 k1 ci : Nat) (hk0 : k0 < U.1) (hk1 : k1 < U.1) {cA : ClassId} {r : vw_C} {n : Nat} {vs : List Value} {f : Nat → Option Nat} (he0 : U.2.2 k0 = .inl (cA, n, .inr (.inr (.inr (.inr f))))) (ht : tys[t0]? = some (cA, .object r.1)) (he1 : U.2.2 k1 = .inr (ci, vs)) (hc : vwC[ci]? = some r) {i : Nat} (hi : i < n) (hn : n < 2 ^ 31) (d : decode cc pc = .ok (.aastore, 1)) {a v : Nat} (ha : a = U.2.1 k0) (hv : v = U.2.1 k1)
    (kk : wh G A nL Q (pwu D A (ust U k0 (.inl (cA, n, .inr (.inr (.inr (.inr (va_up f i (some v)))))))) ) cl sl (pc + 1) lv rest) : wh G A nL Q (pwu D A U) cl sl pc lv (.ref v :: .int (nI i) :: .ref a :: rest) := fun H locs ls hP hS hl => by
  subst ha
  subst hv
  refine va_astq F.1 F.2.1 hK hP.1 hP.2 hS k0 t0 k1 ci (by rw [wu_at hk0, he0]) ht (by rw [wu_at hk1, he1]) hc (vp_in_nI hi hn) d (fun H1 locs1 hP1 hD1 hS1 => ?_)
  rw [nI_clamp (Nat.lt_trans hi hn)] at hP1 hD1
  exact kk H1 locs1 ls ⟨by rw [wu_ust]; exact hP1, by rw [wu_ust]; exact hD1⟩ hS1 hl
end WU
