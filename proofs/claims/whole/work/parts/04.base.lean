/-! A walk over a WORLD OF ROWS: the cells of a system are numbered 0 .. n-1, stand at addresses a 0 .. a (n-1), and cell k holds what cf says of its row M k : Nat → Int32. wx G S nL Q M pc lv st: the machine, at pc with the locals lv and the stack st and with the memory M in its cells, comes to Q. -/
abbrev MM : Type := Nat → Nat → Int32
/-- one place written -/
def mp (M : MM) (k i : Nat) (x : Int32) : MM := va_up M k (upd (M k) i x)
theorem mp_at (M : MM) (k i : Nat) (x : Int32) (k' i' : Nat) : mp M k i x k' i' = if k' = k ∧ i' = i then x else M k' i' := by
  unfold mp va_up upd
  by_cases h : k' = k
  · subst h
    by_cases h2 : i' = i
    · simp [h2]
    · simp [h2]
  · simp [h]
abbrev CX : Type := Program × Launch × Env × Room × State × MethodId × Array Value × List Frame × Method × Code
abbrev gp (G : CX) : Program := G.1
abbrev gl (G : CX) : Launch := G.2.1
abbrev ge (G : CX) : Env := G.2.2.1
abbrev gR (G : CX) : Room := G.2.2.2.1
abbrev gs (G : CX) : State := G.2.2.2.2.1
abbrev gm (G : CX) : MethodId := G.2.2.2.2.2.1
abbrev gA (G : CX) : Array Value := G.2.2.2.2.2.2.1
abbrev gb (G : CX) : List Frame := G.2.2.2.2.2.2.2.1
abbrev gme (G : CX) : Method := G.2.2.2.2.2.2.2.2.1
abbrev gc (G : CX) : Code := G.2.2.2.2.2.2.2.2.2
abbrev SX : Type := va_G × List vw_C × List (ClassId × FieldType) × Nat × (Nat → Nat) × (Nat → (Nat → Int32) → va_E)
abbrev xD (S : SX) : va_G := S.1
abbrev xC (S : SX) : List vw_C := S.2.1
abbrev xT (S : SX) : List (ClassId × FieldType) := S.2.2.1
abbrev xn (S : SX) : Nat := S.2.2.2.1
abbrev xa (S : SX) : Nat → Nat := S.2.2.2.2.1
abbrev xf (S : SX) : Nat → (Nat → Int32) → va_E := S.2.2.2.2.2
def wl (S : SX) (M : MM) : va_W := (List.range (xn S)).map (fun k => (xa S k, xf S k (M k)))
def AS (S : SX) (sz : Nat) : Nat → Prop := fun q => (∃ k, k < xn S ∧ xa S k = q) ∨ sz ≤ q
/-- the addresses are apart -/
def IJ (S : SX) : Prop := ∀ i j, i < xn S → j < xn S → xa S i = xa S j → i = j
theorem wl_at {S : SX} {M : MM} {k : Nat} (h : k < xn S) : (wl S M)[k]? = some (xa S k, xf S k (M k)) := by
  unfold wl
  rw [List.getElem?_map, List.getElem?_range h]
  rfl
theorem wl_of {S : SX} {M : MM} {k : Nat} {q : Nat × va_E} (h : (wl S M)[k]? = some q) : k < xn S ∧ q = (xa S k, xf S k (M k)) := by
  have hl : k < (wl S M).length := (List.getElem?_eq_some_iff.mp h).1
  have hk : k < xn S := by simpa [wl] using hl
  rw [wl_at hk] at h
  exact ⟨hk, (Option.some.inj h).symm⟩
theorem wl_set {S : SX} {M : MM} {k : Nat} (f : Nat → Int32) : (wl S M).set k (xa S k, xf S k f) = wl S (va_up M k f) := by
  apply List.ext_getElem?
  intro i
  rw [List.getElem?_set]
  have hlen : (wl S M).length = xn S := by simp [wl]
  by_cases hi : k = i
  · subst hi
    rw [if_pos rfl, hlen]
    by_cases hk : k < xn S
    · rw [if_pos hk, wl_at hk]
      simp [va_up]
    · rw [if_neg hk]
      refine (List.getElem?_eq_none ?_).symm
      simp [wl]; omega
  · rw [if_neg hi]
    by_cases hk : i < xn S
    · rw [wl_at hk, wl_at hk]
      simp [va_up, Ne.symm hi]
    · rw [List.getElem?_eq_none (by simp [wl]; omega), List.getElem?_eq_none (by simp [wl]; omega)]
theorem wl_D {S : SX} (h : IJ S) (M : MM) (sz : Nat) : va_D (AS S sz) (wl S M) := by
  refine ⟨fun i j p q hi hj e => ?_, fun k q hk => ?_⟩
  · obtain ⟨h1, rfl⟩ := wl_of hi
    obtain ⟨h2, rfl⟩ := wl_of hj
    exact h i j h1 h2 e
  · obtain ⟨h1, rfl⟩ := wl_of hk
    exact Or.inl ⟨k, h1, rfl⟩
def wx (G : CX) (S : SX) (nL : Nat) (Q : State → Prop) (M : MM) (pc : Nat) (lv : List (Nat × Value)) (st : List Value) : Prop :=
  ∀ (H : Heap) (locs : List Loc) (ls : Array Slot), va_P (xD S) (xC S) (wl S M) H → va_S (AS S (gs G).heap.size) (gs G).heap H locs → lv_has ls nL lv →
    W (gp G) (gl G) (ge G) (gR G) (gs G) (gm G) (gA G) (gb G) (gme G) (gc G) H locs 0 0 Q (F0 (gm G) pc ls st)
/-- what a walk leans on -/
def FX (G : CX) (S : SX) (cc : ByteArray) (nL : Nat) (own : String) (ret : Option FieldType) : Prop :=
  CallFix (gp G) (gm G) (gc G) cc nL (gs G) (gA G) lw_g own ∧ va_K (xD S) (xC S) (xT S) (gs G) ∧ (gme G).locks = false ∧ (gme G).sig.returnType = ret ∧ IJ S
abbrev BX (S : SX) : MM → State → Prop := fun M t => va_P (xD S) (xC S) (wl S M) t.heap ∧ va_K (xD S) (xC S) (xT S) t
/-- contracts over the whole world: an int (a boolean) comes back, or nothing -/
def Pc1 (S : SX) (av : List Value) (M : MM) (sz : Nat) : Array Value → State → Prop := va_Pc av (fun U => U.heap.size = sz ∧ BX S M U)
def Ci (l : Launch) (S : SX) (y : MethodName) (ws : List Cond) (rm : Room) (av : List Value) (M : MM) (post : Int32 → MM → Prop) : Prop :=
  ∀ sz : Nat, Met l y ws rm (Pc1 S av M sz) (va_Qi post (BX S) (AS S sz)) 0 0 (AS S sz)
def Cv (l : Launch) (S : SX) (y : MethodName) (ws : List Cond) (rm : Room) (av : List Value) (M : MM) (post : MM → Prop) : Prop :=
  ∀ sz : Nat, Met l y ws rm (Pc1 S av M sz) (va_Qv post (BX S) (AS S sz)) 0 0 (AS S sz)
abbrev Qxi (G : CX) (S : SX) (post : Int32 → MM → Prop) : State → Prop := MQ (gb G) (va_Qi post (BX S) (AS S (gs G).heap.size)) (gA G) (gs G) 0 0 (AS S (gs G).heap.size)
abbrev Qxv (G : CX) (S : SX) (post : MM → Prop) : State → Prop := MQ (gb G) (va_Qv post (BX S) (AS S (gs G).heap.size)) (gA G) (gs G) 0 0 (AS S (gs G).heap.size)
theorem Pc1.blind {S : SX} {av : List Value} {M : MM} {sz : Nat} : FrameBlind (Pc1 S av M sz) := fun a U g mk q => by
  obtain ⟨q0, q1, qP, qK⟩ := q
  exact ⟨q0, q1, qP, va_K.moved (u := U) (U := U.calling g mk a) (Vm.Alike.refl U.vm) qK⟩
theorem Ci.of {l : Launch} {S : SX} {y : MethodName} {ws : List Cond} {rm : Room} {av : List Value} {M : MM} {post : Int32 → MM → Prop} {cc : ByteArray} {nL : Nat} {ty : FieldType}
    (hy : plainName y.cls = true) (hw : ws = Cond.code y cc nL (some ty) :: lw_g) (hlen : (lg_sl av).length ≤ nL) (hJ : IJ S)
    (body : ∀ G : CX, gl G = l → gR G = rm → FX G S cc nL y.cls (some ty) → wx G S nL (Qxi G S post) M 0 (lv_args 0 av) []) : Ci l S y ws rm av M post := by
  intro sz
  refine Met.ofW (cc := cc) (maxL := nL) (ret := some ty) hy hw ?_
  intro p e s m args below meth c s₁ B hml hv
  obtain ⟨rfl, hsz, hP, hK⟩ := hv
  subst hsz
  have hf : FX (p, l, e, (headSpec ws rm).room, s, m, av.toArray, below, meth, c) S cc nL y.cls (some ty) :=
    ⟨⟨B.exec, B.bytes, hml, findClass_of_methodNamed B.named, fun w h => atoms_spec (ws := ws) B.pre w (by rw [hw]; exact List.mem_cons_of_mem _ h)⟩, hK, B.notSynchronized, B.returns, hJ⟩
  rw [lg_entry_eq]
  exact body _ rfl rfl hf s.heap [] _ hP va_S.rf (lv_entry av hlen)
theorem Cv.of {l : Launch} {S : SX} {y : MethodName} {ws : List Cond} {rm : Room} {av : List Value} {M : MM} {post : MM → Prop} {cc : ByteArray} {nL : Nat}
    (hy : plainName y.cls = true) (hw : ws = Cond.code y cc nL none :: lw_g) (hlen : (lg_sl av).length ≤ nL) (hJ : IJ S)
    (body : ∀ G : CX, gl G = l → gR G = rm → FX G S cc nL y.cls none → wx G S nL (Qxv G S post) M 0 (lv_args 0 av) []) : Cv l S y ws rm av M post := by
  intro sz
  refine Met.ofW (cc := cc) (maxL := nL) (ret := none) hy hw ?_
  intro p e s m args below meth c s₁ B hml hv
  obtain ⟨rfl, hsz, hP, hK⟩ := hv
  subst hsz
  have hf : FX (p, l, e, (headSpec ws rm).room, s, m, av.toArray, below, meth, c) S cc nL y.cls none :=
    ⟨⟨B.exec, B.bytes, hml, findClass_of_methodNamed B.named, fun w h => atoms_spec (ws := ws) B.pre w (by rw [hw]; exact List.mem_cons_of_mem _ h)⟩, hK, B.notSynchronized, B.returns, hJ⟩
  rw [lg_entry_eq]
  exact body _ rfl rfl hf s.heap [] _ hP va_S.rf (lv_entry av hlen)
/-- the words of a call out of the tables' words -/
theorem lw_wsV {own : String} {index : Nat} {y : MethodName} {bytes : ByteArray} {maxL n : Nat} {ret : Option FieldType} (hl : Cond.methodLink own index y ∈ lw_g) (hb : cbV y bytes maxL ret n) : GoodIn lw_g (wsV own index y.cls y (Cond.code y bytes maxL ret :: lw_g)) := by
  have key : ∀ w ∈ wsV own index y.cls y (Cond.code y bytes maxL ret :: lw_g), w ∈ lw_g := by
    intro w hw
    rcases List.mem_append.mp hw with h | h
    · rcases List.mem_cons.mp h with rfl | h
      · exact hl
      · rcases List.mem_cons.mp h with rfl | h
        · exact hb.1
        · rcases List.mem_cons.mp h with rfl | h
          · exact hb.2.1
          · rw [List.mem_singleton.mp h]
            exact hb.2.2.1
    · rcases List.mem_cons.mp h with rfl | h
      · exact hb.2.2.2.1
      · exact h
  exact fun w hw => ⟨key w hw, lw_good w (key w hw)⟩
theorem cw_V {R : Room} {s : State} {args : Array Value} {own : String} {index : Nat} {y : MethodName} {bytes : ByteArray} {maxL n : Nat} {ret : Option FieldType} {rm : Room} (ht : ∀ w ∈ lw_g, w.before args s = true) (hl : Cond.methodLink own index y ∈ lw_g) (hb : cbV y bytes maxL ret n) (h1 : rm.cells = 0) (h2 : rm.slots = 0) (hR : rm.frames + 1 ≤ R.frames ∧ 8 + (maxL + 11) + rm.locals ≤ R.locals) : CallW R s args own y.cls index y bytes maxL ret (Cond.code y bytes maxL ret :: lw_g) rm 0 0 n :=
  cwV n ht (lw_wsV hl hb) rfl h1 h2 ⟨rfl, hb.2.2.2.2⟩ hR
theorem cw_S {R : Room} {s : State} {args : Array Value} {own : String} {index : Nat} {y : MethodName} {bytes : ByteArray} {maxL n : Nat} {ret : Option FieldType} {rm : Room} (ht : ∀ w ∈ lw_g, w.before args s = true) (hl : Cond.methodLink own index y ∈ lw_g) (hb : cbS y bytes maxL ret n) (h1 : rm.cells = 0) (h2 : rm.slots = 0) (hR : rm.frames + 1 ≤ R.frames ∧ 8 + (maxL + 11) + rm.locals ≤ R.locals) : CallB R s args own index y bytes maxL ret (Cond.code y bytes maxL ret :: lw_g) rm 0 0 n ∧ (Cond.static y).before args s = true := by
  have hG : GoodIn lw_g (Cond.code y bytes maxL ret :: lw_g) := fun w hw => by
    have : w ∈ lw_g := by
      rcases List.mem_cons.mp hw with rfl | h
      · exact hb.2.2.1
      · exact h
    exact ⟨this, lw_good w this⟩
  exact ⟨callB_of n ht hG rfl h1 h2 (ht _ hb.2.1) (ht _ hl) hb.2.2.2 hR, ht _ hb.1⟩
section WX
variable {G : CX} {S : SX} {cc : ByteArray} {nL : Nat} {own : String} {ret : Option FieldType} {Q : State → Prop} {M : MM} {pc : Nat} {lv : List (Nat × Value)} {rest : List Value}
theorem wx_nm {st : List Value} (k : ∀ M' : MM, M' = M → wx G S nL Q M' pc lv st) : wx G S nL Q M pc lv st := k M rfl
theorem wx_lv {lv' : List (Nat × Value)} {st : List Value} (ks : List Nat) (h : lv_pick lv ks = lv') (k : wx G S nL Q M pc lv' st) : wx G S nL Q M pc lv st := fun H locs ls hP hS hl => k H locs ls hP hS (lv_sub hl ks h)
-- returns
theorem wx_iret {post : Int32 → MM → Prop} {v : Int32} (F : FX G S cc nL own (some .int)) (d : decode cc pc = .ok (.ireturn, 1)) (hp : post v M) : wx G S nL (Qxi G S post) M pc lv [.int v] := fun H locs ls hP hS hl =>
  W.iret F.1.1 F.1.2.1 F.2.2.2.1 (fun t ht hW => ⟨⟨v, M, rfl, hp, by rw [ht]; exact hP, va_K.moved hW.alike F.2.1⟩, hS.F ht⟩) hS.2.2 d F.2.2.1
theorem wx_zret {post : Int32 → MM → Prop} {v : Int32} (F : FX G S cc nL own (some .boolean)) (d : decode cc pc = .ok (.ireturn, 1)) (hn : narrow .boolean (.int v) = .int v) (hp : post v M) : wx G S nL (Qxi G S post) M pc lv [.int v] := fun H locs ls hP hS hl =>
  W.zret F.1.1 F.1.2.1 F.2.2.2.1 hn (fun t ht hW => ⟨⟨v, M, rfl, hp, by rw [ht]; exact hP, va_K.moved hW.alike F.2.1⟩, hS.F ht⟩) hS.2.2 d F.2.2.1
theorem wx_vret {post : MM → Prop} (F : FX G S cc nL own none) (d : decode cc pc = .ok (.return_, 1)) (hp : post M) : wx G S nL (Qxv G S post) M pc lv [] := fun H locs ls hP hS hl =>
  W.vret F.1.1 F.1.2.1 F.2.2.2.1 (fun t ht hW => ⟨⟨M, rfl, hp, by rw [ht]; exact hP, va_K.moved hW.alike F.2.1⟩, hS.F ht⟩) hS.2.2 d F.2.2.1
-- constants, locals, stack, arithmetic
theorem wx_iconst (F : FX G S cc nL own ret) {z : Int} {v : Int32} (d : decode cc pc = .ok (.iconst z, 1)) (hv : Int32.ofInt z = v) (k : wx G S nL Q M (pc + 1) lv (.int v :: rest)) : wx G S nL Q M pc lv rest := fun H locs ls hP hS hl => lv_iconst F.1.1 F.1.2.1 d hv (k H locs ls hP hS hl)
theorem wx_bipush (F : FX G S cc nL own ret) {z : Int} {v : Int32} (d : decode cc pc = .ok (.bipush z, 2)) (hv : (Int8.ofInt z).toInt32 = v) (k : wx G S nL Q M (pc + 2) lv (.int v :: rest)) : wx G S nL Q M pc lv rest := fun H locs ls hP hS hl => lv_bipush F.1.1 F.1.2.1 d hv (k H locs ls hP hS hl)
theorem wx_sipush (F : FX G S cc nL own ret) {z : Int} {v : Int32} (d : decode cc pc = .ok (.sipush z, 3)) (hv : (Int16.ofInt z).toInt32 = v) (k : wx G S nL Q M (pc + 3) lv (.int v :: rest)) : wx G S nL Q M pc lv rest := fun H locs ls hP hS hl => lv_sipush F.1.1 F.1.2.1 d hv (k H locs ls hP hS hl)
theorem wx_iload_n (F : FX G S cc nL own ret) {f : Fin 4} {i : Nat} {x : Int32} (q : Nat) (d : decode cc pc = .ok (.iload_n f, 1)) (hi : (f : Nat) = i) (hq : lv[q]? = some (i, .int x)) (k : wx G S nL Q M (pc + 1) lv (.int x :: rest)) : wx G S nL Q M pc lv rest := fun H locs ls hP hS hl => lv_iload_n F.1.1 F.1.2.1 d hi (lv_at hl q hq) (k H locs ls hP hS hl)
theorem wx_iload (F : FX G S cc nL own ret) {i : Nat} {x : Int32} (q : Nat) (d : decode cc pc = .ok (.iload i, 2)) (hq : lv[q]? = some (i, .int x)) (k : wx G S nL Q M (pc + 2) lv (.int x :: rest)) : wx G S nL Q M pc lv rest := fun H locs ls hP hS hl => lv_iload F.1.1 F.1.2.1 d (lv_at hl q hq) (k H locs ls hP hS hl)
theorem wx_aload_n (F : FX G S cc nL own ret) {f : Fin 4} {i : Nat} {x : Nat} (q : Nat) (d : decode cc pc = .ok (.aload_n f, 1)) (hi : (f : Nat) = i) (hq : lv[q]? = some (i, .ref x)) (k : wx G S nL Q M (pc + 1) lv (.ref x :: rest)) : wx G S nL Q M pc lv rest := fun H locs ls hP hS hl => lv_aload_n F.1.1 F.1.2.1 d hi (lv_at hl q hq) (k H locs ls hP hS hl)
theorem wx_istore_n (F : FX G S cc nL own ret) {f : Fin 4} {i : Nat} {x : Int32} {lv' : List (Nat × Value)} (d : decode cc pc = .ok (.istore_n f, 1)) (hi : (f : Nat) = i) (hn : i < nL) (hv : (i, Value.int x) :: lv.filter (fun q => !(q.1 == i) && !(q.1 + 1 == i && q.2.category == 2)) = lv') (k : wx G S nL Q M (pc + 1) lv' rest) : wx G S nL Q M pc lv (.int x :: rest) := fun H locs ls hP hS hl => lv_istore_n F.1.1 F.1.2.1 d hi hl hn hv (fun ls' hl' => k H locs ls' hP hS hl')
theorem wx_istore (F : FX G S cc nL own ret) {i : Nat} {x : Int32} {lv' : List (Nat × Value)} (d : decode cc pc = .ok (.istore i, 2)) (hn : i < nL) (hv : (i, Value.int x) :: lv.filter (fun q => !(q.1 == i) && !(q.1 + 1 == i && q.2.category == 2)) = lv') (k : wx G S nL Q M (pc + 2) lv' rest) : wx G S nL Q M pc lv (.int x :: rest) := fun H locs ls hP hS hl => lv_istore F.1.1 F.1.2.1 d hl hn hv (fun ls' hl' => k H locs ls' hP hS hl')
theorem wx_iinc (F : FX G S cc nL own ret) {i : Nat} {z : Int} {x v : Int32} {lv' : List (Nat × Value)} (q : Nat) (d : decode cc pc = .ok (.iinc i z, 3)) (hq : lv[q]? = some (i, .int x)) (hz : x + Int32.ofInt z = v) (hn : i < nL) (hv : (i, Value.int v) :: lv.filter (fun q => !(q.1 == i) && !(q.1 + 1 == i && q.2.category == 2)) = lv') (k : wx G S nL Q M (pc + 3) lv' rest) : wx G S nL Q M pc lv rest := fun H locs ls hP hS hl => lv_iinc F.1.1 F.1.2.1 d hl hq hz hn hv (fun ls' hl' => k H locs ls' hP hS hl')
theorem wx_iadd (F : FX G S cc nL own ret) {x y : Int32} (d : decode cc pc = .ok (.iadd, 1)) (k : wx G S nL Q M (pc + 1) lv (.int (x + y) :: rest)) : wx G S nL Q M pc lv (.int y :: .int x :: rest) := fun H locs ls hP hS hl => lv_iadd F.1.1 F.1.2.1 d (k H locs ls hP hS hl)
theorem wx_isub (F : FX G S cc nL own ret) {x y : Int32} (d : decode cc pc = .ok (.isub, 1)) (k : wx G S nL Q M (pc + 1) lv (.int (x - y) :: rest)) : wx G S nL Q M pc lv (.int y :: .int x :: rest) := fun H locs ls hP hS hl => lv_isub F.1.1 F.1.2.1 d (k H locs ls hP hS hl)
theorem wx_imul (F : FX G S cc nL own ret) {x y : Int32} (d : decode cc pc = .ok (.imul, 1)) (k : wx G S nL Q M (pc + 1) lv (.int (x * y) :: rest)) : wx G S nL Q M pc lv (.int y :: .int x :: rest) := fun H locs ls hP hS hl => lv_imul F.1.1 F.1.2.1 d (k H locs ls hP hS hl)
theorem wx_iand (F : FX G S cc nL own ret) {x y : Int32} (d : decode cc pc = .ok (.iand, 1)) (k : wx G S nL Q M (pc + 1) lv (.int (x &&& y) :: rest)) : wx G S nL Q M pc lv (.int y :: .int x :: rest) := fun H locs ls hP hS hl => lv_iand F.1.1 F.1.2.1 d (k H locs ls hP hS hl)
theorem wx_ixor (F : FX G S cc nL own ret) {x y : Int32} (d : decode cc pc = .ok (.ixor, 1)) (k : wx G S nL Q M (pc + 1) lv (.int (x ^^^ y) :: rest)) : wx G S nL Q M pc lv (.int y :: .int x :: rest) := fun H locs ls hP hS hl => lv_ixor F.1.1 F.1.2.1 d (k H locs ls hP hS hl)
theorem wx_ishl (F : FX G S cc nL own ret) {x y : Int32} (d : decode cc pc = .ok (.ishl, 1)) (k : wx G S nL Q M (pc + 1) lv (.int (x <<< (y &&& 31)) :: rest)) : wx G S nL Q M pc lv (.int y :: .int x :: rest) := fun H locs ls hP hS hl => lv_ishl F.1.1 F.1.2.1 d (k H locs ls hP hS hl)
theorem wx_ishr (F : FX G S cc nL own ret) {x y : Int32} (d : decode cc pc = .ok (.ishr, 1)) (k : wx G S nL Q M (pc + 1) lv (.int (x >>> (y &&& 31)) :: rest)) : wx G S nL Q M pc lv (.int y :: .int x :: rest) := fun H locs ls hP hS hl => lv_ishr F.1.1 F.1.2.1 d (k H locs ls hP hS hl)
theorem wx_irem (F : FX G S cc nL own ret) {x y : Int32} (d : decode cc pc = .ok (.irem, 1)) (hne : ¬ y = 0) (k : wx G S nL Q M (pc + 1) lv (.int (x - x / y * y) :: rest)) : wx G S nL Q M pc lv (.int y :: .int x :: rest) := fun H locs ls hP hS hl => lv_irem F.1.1 F.1.2.1 d hne (k H locs ls hP hS hl)
theorem wx_dup (F : FX G S cc nL own ret) {v : Value} (d : decode cc pc = .ok (.dup, 1)) (hv : v.category = 1) (k : wx G S nL Q M (pc + 1) lv (v :: v :: rest)) : wx G S nL Q M pc lv (v :: rest) := fun H locs ls hP hS hl => lv_dup F.1.1 F.1.2.1 d hv (k H locs ls hP hS hl)
theorem wx_dup2 (F : FX G S cc nL own ret) {v u : Value} (d : decode cc pc = .ok (.dup2, 1)) (hv : v.category = 1) (hu : u.category = 1) (k : wx G S nL Q M (pc + 1) lv (v :: u :: v :: u :: rest)) : wx G S nL Q M pc lv (v :: u :: rest) := fun H locs ls hP hS hl => lv_dup2_11 F.1.1 F.1.2.1 d hv hu (k H locs ls hP hS hl)
theorem wx_pop (F : FX G S cc nL own ret) {v : Value} (d : decode cc pc = .ok (.pop, 1)) (hv : v.category = 1) (k : wx G S nL Q M (pc + 1) lv rest) : wx G S nL Q M pc lv (v :: rest) := fun H locs ls hP hS hl => lv_pop F.1.1 F.1.2.1 d hv (k H locs ls hP hS hl)
theorem wx_goto (F : FX G S cc nL own ret) {off : Int} {tgt : Nat} (d : decode cc pc = .ok (.goto off, 3)) (ht : (pc : Int) + off = (tgt : Int)) (k : wx G S nL Q M tgt lv rest) : wx G S nL Q M pc lv rest := fun H locs ls hP hS hl => lv_goto F.1.1 F.1.2.1 d ht (k H locs ls hP hS hl)
theorem wx_if_eq (F : FX G S cc nL own ret) {x : Int32} {off : Int} {tgt : Nat} (d : decode cc pc = .ok (.ifCond .eq off, 3)) (ht : (pc : Int) + off = (tgt : Int)) (kt : x = 0 → wx G S nL Q M tgt lv rest) (kf : ¬ x = 0 → wx G S nL Q M (pc + 3) lv rest) : wx G S nL Q M pc lv (.int x :: rest) := fun H locs ls hP hS hl => lv_if_eq F.1.1 F.1.2.1 d ht (fun h => kt h H locs ls hP hS hl) (fun h => kf h H locs ls hP hS hl)
theorem wx_icmp_eq (F : FX G S cc nL own ret) {x y : Int32} {off : Int} {tgt : Nat} (d : decode cc pc = .ok (.if_icmp .eq off, 3)) (ht : (pc : Int) + off = (tgt : Int)) (kt : x = y → wx G S nL Q M tgt lv rest) (kf : ¬ x = y → wx G S nL Q M (pc + 3) lv rest) : wx G S nL Q M pc lv (.int y :: .int x :: rest) := fun H locs ls hP hS hl => lv_icmp_eq F.1.1 F.1.2.1 d ht (fun h => kt h H locs ls hP hS hl) (fun h => kf h H locs ls hP hS hl)
theorem wx_if_ne (F : FX G S cc nL own ret) {x : Int32} {off : Int} {tgt : Nat} (d : decode cc pc = .ok (.ifCond .ne off, 3)) (ht : (pc : Int) + off = (tgt : Int)) (kt : ¬ x = 0 → wx G S nL Q M tgt lv rest) (kf : x = 0 → wx G S nL Q M (pc + 3) lv rest) : wx G S nL Q M pc lv (.int x :: rest) := fun H locs ls hP hS hl => lv_if_ne F.1.1 F.1.2.1 d ht (fun h => kt h H locs ls hP hS hl) (fun h => kf h H locs ls hP hS hl)
theorem wx_icmp_ne (F : FX G S cc nL own ret) {x y : Int32} {off : Int} {tgt : Nat} (d : decode cc pc = .ok (.if_icmp .ne off, 3)) (ht : (pc : Int) + off = (tgt : Int)) (kt : ¬ x = y → wx G S nL Q M tgt lv rest) (kf : x = y → wx G S nL Q M (pc + 3) lv rest) : wx G S nL Q M pc lv (.int y :: .int x :: rest) := fun H locs ls hP hS hl => lv_icmp_ne F.1.1 F.1.2.1 d ht (fun h => kt h H locs ls hP hS hl) (fun h => kf h H locs ls hP hS hl)
theorem wx_if_lt (F : FX G S cc nL own ret) {x : Int32} {off : Int} {tgt : Nat} (d : decode cc pc = .ok (.ifCond .lt off, 3)) (ht : (pc : Int) + off = (tgt : Int)) (kt : x < 0 → wx G S nL Q M tgt lv rest) (kf : ¬ x < 0 → wx G S nL Q M (pc + 3) lv rest) : wx G S nL Q M pc lv (.int x :: rest) := fun H locs ls hP hS hl => lv_if_lt F.1.1 F.1.2.1 d ht (fun h => kt h H locs ls hP hS hl) (fun h => kf h H locs ls hP hS hl)
theorem wx_icmp_lt (F : FX G S cc nL own ret) {x y : Int32} {off : Int} {tgt : Nat} (d : decode cc pc = .ok (.if_icmp .lt off, 3)) (ht : (pc : Int) + off = (tgt : Int)) (kt : x < y → wx G S nL Q M tgt lv rest) (kf : ¬ x < y → wx G S nL Q M (pc + 3) lv rest) : wx G S nL Q M pc lv (.int y :: .int x :: rest) := fun H locs ls hP hS hl => lv_icmp_lt F.1.1 F.1.2.1 d ht (fun h => kt h H locs ls hP hS hl) (fun h => kf h H locs ls hP hS hl)
theorem wx_if_ge (F : FX G S cc nL own ret) {x : Int32} {off : Int} {tgt : Nat} (d : decode cc pc = .ok (.ifCond .ge off, 3)) (ht : (pc : Int) + off = (tgt : Int)) (kt : 0 ≤ x → wx G S nL Q M tgt lv rest) (kf : ¬ 0 ≤ x → wx G S nL Q M (pc + 3) lv rest) : wx G S nL Q M pc lv (.int x :: rest) := fun H locs ls hP hS hl => lv_if_ge F.1.1 F.1.2.1 d ht (fun h => kt h H locs ls hP hS hl) (fun h => kf h H locs ls hP hS hl)
theorem wx_icmp_ge (F : FX G S cc nL own ret) {x y : Int32} {off : Int} {tgt : Nat} (d : decode cc pc = .ok (.if_icmp .ge off, 3)) (ht : (pc : Int) + off = (tgt : Int)) (kt : y ≤ x → wx G S nL Q M tgt lv rest) (kf : ¬ y ≤ x → wx G S nL Q M (pc + 3) lv rest) : wx G S nL Q M pc lv (.int y :: .int x :: rest) := fun H locs ls hP hS hl => lv_icmp_ge F.1.1 F.1.2.1 d ht (fun h => kt h H locs ls hP hS hl) (fun h => kf h H locs ls hP hS hl)
theorem wx_if_gt (F : FX G S cc nL own ret) {x : Int32} {off : Int} {tgt : Nat} (d : decode cc pc = .ok (.ifCond .gt off, 3)) (ht : (pc : Int) + off = (tgt : Int)) (kt : 0 < x → wx G S nL Q M tgt lv rest) (kf : ¬ 0 < x → wx G S nL Q M (pc + 3) lv rest) : wx G S nL Q M pc lv (.int x :: rest) := fun H locs ls hP hS hl => lv_if_gt F.1.1 F.1.2.1 d ht (fun h => kt h H locs ls hP hS hl) (fun h => kf h H locs ls hP hS hl)
theorem wx_icmp_gt (F : FX G S cc nL own ret) {x y : Int32} {off : Int} {tgt : Nat} (d : decode cc pc = .ok (.if_icmp .gt off, 3)) (ht : (pc : Int) + off = (tgt : Int)) (kt : y < x → wx G S nL Q M tgt lv rest) (kf : ¬ y < x → wx G S nL Q M (pc + 3) lv rest) : wx G S nL Q M pc lv (.int y :: .int x :: rest) := fun H locs ls hP hS hl => lv_icmp_gt F.1.1 F.1.2.1 d ht (fun h => kt h H locs ls hP hS hl) (fun h => kf h H locs ls hP hS hl)
theorem wx_if_le (F : FX G S cc nL own ret) {x : Int32} {off : Int} {tgt : Nat} (d : decode cc pc = .ok (.ifCond .le off, 3)) (ht : (pc : Int) + off = (tgt : Int)) (kt : x ≤ 0 → wx G S nL Q M tgt lv rest) (kf : ¬ x ≤ 0 → wx G S nL Q M (pc + 3) lv rest) : wx G S nL Q M pc lv (.int x :: rest) := fun H locs ls hP hS hl => lv_if_le F.1.1 F.1.2.1 d ht (fun h => kt h H locs ls hP hS hl) (fun h => kf h H locs ls hP hS hl)
theorem wx_icmp_le (F : FX G S cc nL own ret) {x y : Int32} {off : Int} {tgt : Nat} (d : decode cc pc = .ok (.if_icmp .le off, 3)) (ht : (pc : Int) + off = (tgt : Int)) (kt : x ≤ y → wx G S nL Q M tgt lv rest) (kf : ¬ x ≤ y → wx G S nL Q M (pc + 3) lv rest) : wx G S nL Q M pc lv (.int y :: .int x :: rest) := fun H locs ls hP hS hl => lv_icmp_le F.1.1 F.1.2.1 d ht (fun h => kt h H locs ls hP hS hl) (fun h => kf h H locs ls hP hS hl)
-- fields
theorem wx_get (F : FX G S cc nL own ret) {C : String} {T : u_T} {N ci index : Nat} {fs : List Value} {v : Value} (k : Nat) (hk : k < xn S) (hc : xf S k (M k) = .inr (ci, fs)) (hcl : (xC S)[ci]? = some (C, T, N)) (hin : ∀ w ∈ u_ws C T N, w ∈ lw_g) (j : Nat) (hj : j < N) (hT : (T j).1 = C) (hlink : Cond.fieldLink own index C (T j).2.1 (T j).2.2.1 ∈ lw_g) (hv : fs[j]? = some v) (d : decode cc pc = .ok (.getfield index, 3))
    (kk : wx G S nL Q M (pc + 3) lv (v :: rest)) : wx G S nL Q M pc lv (.ref (xa S k) :: rest) := fun H locs ls hP hS hl =>
  va_get F.1.1 F.1.2.1 F.1.2.2.2.2 hin F.1.2.2.2.1 F.2.1 hP k (by rw [wl_at hk, hc]) hcl j hj (F.1.2.2.2.2 _ hlink) (fun x h => by rw [hT] at h; exact h) hv d (kk H locs ls hP hS hl)
theorem wx_put (F : FX G S cc nL own ret) {C : String} {T : u_T} {N ci index : Nat} {fs : List Value} {x : Int32} {ty : FieldType} (k : Nat) (hk : k < xn S) (hc : xf S k (M k) = .inr (ci, fs)) (hcl : (xC S)[ci]? = some (C, T, N)) (hin : ∀ w ∈ u_ws C T N, w ∈ lw_g) (ty0 : Nat → FieldType) (hty : ∀ k, k < N → parseFieldDescriptor (T k).2.2.1 = some (ty0 k)) (hnm : ∀ a, a < N → ∀ b, b < N → a ≠ b → (T a).2.1 ≠ (T b).2.1) (j : Nat) (hj : j < N) (hT : (T j).1 = C) (hlink : Cond.fieldLink own index C (T j).2.1 (T j).2.2.1 ∈ lw_g) (hfin : (T j).2.2.2 = false)
    (hd : parseFieldDescriptor (T j).2.2.1 = some ty) (hn : narrow ty (.int x) = .int x) (hfit : fits ty (.int x) = true) (hl0 : j < fs.length) (hset : xf S k (upd (M k) j x) = .inr (ci, fs.set j (.int x))) (d : decode cc pc = .ok (.putfield index, 3))
    (kk : wx G S nL Q (mp M k j x) (pc + 3) lv rest) : wx G S nL Q M pc lv (.int x :: .ref (xa S k) :: rest) := fun H locs ls hP hS hl =>
  va_put F.1.1 F.1.2.1 F.1.2.2.2.2 hin ty0 hty hnm F.1.2.2.2.1 F.2.1 hP (wl_D F.2.2.2.2 M _) hS k (by rw [wl_at hk, hc]) hcl j hj (F.1.2.2.2.2 _ hlink) (fun x h => by rw [hT] at h; exact h) hfin hd hn hfit hl0 d (fun H1 locs1 hP1 _ hS1 => by
    rw [← hset, wl_set] at hP1
    exact kk H1 locs1 ls hP1 hS1 hl)
-- arrays: the index is a number below the length
theorem wx_iald (F : FX G S cc nL own ret) {cA : ClassId} {N i : Nat} {ix : Int32} (k : Nat) (hk : k < xn S) (hc : xf S k (M k) = .inl (cA, N, .inl (M k))) (t0 : Nat) (ht : (xT S)[t0]? = some (cA, .int)) (hi : ix = nI i) (hin : i < N) (hN : N < 2 ^ 31) (d : decode cc pc = .ok (.iaload, 1)) (kk : wx G S nL Q M (pc + 1) lv (.int (M k i) :: rest)) : wx G S nL Q M pc lv (.int ix :: .ref (xa S k) :: rest) := fun H locs ls hP hS hl => by
  subst hi
  refine va_iald F.1.1 F.1.2.1 F.2.1 hP k t0 (by rw [wl_at hk, hc]) ht (vp_in_nI hin hN) d ?_
  rw [nI_clamp (Nat.lt_trans hin hN)]
  exact kk H locs ls hP hS hl
theorem wx_zald (F : FX G S cc nL own ret) {cA : ClassId} {N i : Nat} {ix : Int32} (k : Nat) (hk : k < xn S) (hc : xf S k (M k) = .inl (cA, N, .inl (M k))) (t0 : Nat) (ht : (xT S)[t0]? = some (cA, .boolean)) (hi : ix = nI i) (hin : i < N) (hN : N < 2 ^ 31) (d : decode cc pc = .ok (.baload, 1)) (kk : wx G S nL Q M (pc + 1) lv (.int (M k i) :: rest)) : wx G S nL Q M pc lv (.int ix :: .ref (xa S k) :: rest) := fun H locs ls hP hS hl => by
  subst hi
  refine va_zald F.1.1 F.1.2.1 F.2.1 hP k t0 (by rw [wl_at hk, hc]) ht (vp_in_nI hin hN) d ?_
  rw [nI_clamp (Nat.lt_trans hin hN)]
  exact kk H locs ls hP hS hl
theorem wx_iast (F : FX G S cc nL own ret) {cA : ClassId} {N i : Nat} {ix x : Int32} (k : Nat) (hk : k < xn S) (hc : ∀ f, xf S k f = .inl (cA, N, .inl f)) (t0 : Nat) (ht : (xT S)[t0]? = some (cA, .int)) (hi : ix = nI i) (hin : i < N) (hN : N < 2 ^ 31) (d : decode cc pc = .ok (.iastore, 1)) (kk : wx G S nL Q (mp M k i x) (pc + 1) lv rest) : wx G S nL Q M pc lv (.int x :: .int ix :: .ref (xa S k) :: rest) := fun H locs ls hP hS hl => by
  subst hi
  refine va_iast F.1.1 F.1.2.1 F.2.1 hP (wl_D F.2.2.2.2 M _) hS k t0 (by rw [wl_at hk, hc]) ht (vp_in_nI hin hN) d (fun H1 locs1 hP1 _ hS1 => ?_)
  rw [nI_clamp (Nat.lt_trans hin hN), ← hc, wl_set] at hP1
  exact kk H1 locs1 ls hP1 hS1 hl
theorem wx_zast (F : FX G S cc nL own ret) {cA : ClassId} {N i : Nat} {ix x : Int32} (k : Nat) (hk : k < xn S) (hc : ∀ f, xf S k f = .inl (cA, N, .inl f)) (t0 : Nat) (ht : (xT S)[t0]? = some (cA, .boolean)) (hi : ix = nI i) (hin : i < N) (hN : N < 2 ^ 31) (hx : vp_nar .boolean x = x) (d : decode cc pc = .ok (.bastore, 1)) (kk : wx G S nL Q (mp M k i x) (pc + 1) lv rest) : wx G S nL Q M pc lv (.int x :: .int ix :: .ref (xa S k) :: rest) := fun H locs ls hP hS hl => by
  subst hi
  refine va_zast F.1.1 F.1.2.1 F.2.1 hP (wl_D F.2.2.2.2 M _) hS k t0 (by rw [wl_at hk, hc]) ht (vp_in_nI hin hN) d (fun H1 locs1 hP1 _ hS1 => ?_)
  rw [hx, nI_clamp (Nat.lt_trans hin hN), ← hc, wl_set] at hP1
  exact kk H1 locs1 ls hP1 hS1 hl
theorem wx_alen (F : FX G S cc nL own ret) {cA : ClassId} {N : Nat} {f : Nat → Int32} {ty : FieldType} {v : Int32} (k : Nat) (hk : k < xn S) (hc : xf S k (M k) = .inl (cA, N, .inl f)) (t0 : Nat) (ht : (xT S)[t0]? = some (cA, ty)) (hv : Int32.ofNat N = v) (d : decode cc pc = .ok (.arraylength, 1)) (kk : wx G S nL Q M (pc + 1) lv (.int v :: rest)) : wx G S nL Q M pc lv (.ref (xa S k) :: rest) := fun H locs ls hP hS hl =>
  va_alen F.1.1 F.1.2.1 F.2.1 hP k t0 (by rw [wl_at hk, hc]) ht hv d (kk H locs ls hP hS hl)
theorem wx_aald (F : FX G S cc nL own ret) {cA : ClassId} {N b i : Nat} {f : Nat → Option Nat} {ty : FieldType} {ix : Int32} (k : Nat) (hk : k < xn S) (hc : xf S k (M k) = .inl (cA, N, .inr (.inr (.inr (.inr f))))) (t0 : Nat) (ht : (xT S)[t0]? = some (cA, ty)) (hr : ty.isReference = true) (hi : ix = nI i) (hin : i < N) (hN : N < 2 ^ 31) (hb : f i = some b) (d : decode cc pc = .ok (.aaload, 1)) (kk : wx G S nL Q M (pc + 1) lv (.ref b :: rest)) : wx G S nL Q M pc lv (.int ix :: .ref (xa S k) :: rest) := fun H locs ls hP hS hl => by
  subst hi
  have hcell := hP k _ (wl_at hk)
  rw [hc] at hcell
  refine W.aald (v := .ref b) (ty := ty) F.1.1 F.1.2.1 hcell ((F.2.1.2 t0 _ ht).1 N (fun j => va_rf (f j))) hr (fun q => by cases q) (by show ¬ (nI i < 0 ∨ (arrV _ _ _).slots.size ≤ _); rw [arrV_size]; exact vp_in_nI hin hN) (by show (arrV _ _ _).slots[_]? = _; rw [nI_clamp (Nat.lt_trans hin hN), arrV_read _ _ hin, hb]; rfl) rfl rfl d (kk H locs ls hP hS hl)
-- calls: the callee's world is the whole one
theorem AS_call {H : Heap} {locs : List Loc} {sz : Nat} {H0 : Heap} (h0 : H0.size = sz) (hS : va_S (AS S sz) H0 H locs) : (∀ q, q < H.size → AS S H.size q → AS S sz q) ∧ ∀ q, AS S H.size q → AS S sz q := by
  refine ⟨fun q h1 h2 => ?_, fun q h2 => ?_⟩
  · rcases h2 with h | h
    · exact Or.inl h
    · omega
  · rcases h2 with h | h
    · exact Or.inl h
    · exact Or.inr (by have := hS.1; omega)
theorem wx_calli (F : FX G S cc nL own ret) {y : MethodName} {wsC : List Cond} {rm : Room} {As st : List Value} {post : Int32 → MM → Prop} {C : String} {T : u_T} {N ci index n maxL : Nat} {fs : List Value} {bytes : ByteArray} {rt : Option FieldType} (k : Nat) (hM : Ci (gl G) S y wsC rm (.ref (xa S k) :: As) M post) (hk : k < xn S) (hc : xf S k (M k) = .inr (ci, fs)) (hcl : (xC S)[ci]? = some (C, T, N))
    (cw : CallW (gR G) (gs G) (gA G) own C index y bytes maxL rt wsC rm 0 0 n) (hn : As.length = n) (hst : st = As.reverse ++ .ref (xa S k) :: rest) (hrm : (rest.map fun v => v.category).sum ≤ 8) (d : decode cc pc = .ok (.invokevirtual index, 3))
    (kk : ∀ (r : Int32) (M' : MM), post r M' → wx G S nL Q M' (pc + 3) lv (.int r :: rest)) : wx G S nL Q M pc lv st := fun H locs ls hP hS hl => by
  obtain ⟨h1, h2⟩ := AS_call rfl hS
  refine va_calli (va_runV F.1 (hM H.size) cw ⟨Pc1.blind, va_recv F.2.1 hP hcl (by rw [wl_at hk, hc]), fun U hU hW => ⟨rfl, by rw [hU], by rw [hU]; exact hP, va_K.moved hW.alike F.2.1⟩⟩ rfl hn hl.1 hst (lv_room hrm) d ⟨Nat.zero_le _, Nat.zero_le _⟩) hS h1 h2 (fun r M' t H1 locs1 ht _ hp hB _ _ hS1 => ?_)
  exact kk r M' hp H1 locs1 ls (by rw [← ht]; exact hB.1) hS1 hl
theorem wx_callv (F : FX G S cc nL own ret) {y : MethodName} {wsC : List Cond} {rm : Room} {As st : List Value} {post : MM → Prop} {C : String} {T : u_T} {N ci index n maxL : Nat} {fs : List Value} {bytes : ByteArray} (k : Nat) (hM : Cv (gl G) S y wsC rm (.ref (xa S k) :: As) M post) (hk : k < xn S) (hc : xf S k (M k) = .inr (ci, fs)) (hcl : (xC S)[ci]? = some (C, T, N))
    (cw : CallW (gR G) (gs G) (gA G) own C index y bytes maxL none wsC rm 0 0 n) (hn : As.length = n) (hst : st = As.reverse ++ .ref (xa S k) :: rest) (hrm : (rest.map fun v => v.category).sum ≤ 8) (d : decode cc pc = .ok (.invokevirtual index, 3))
    (kk : ∀ M' : MM, post M' → wx G S nL Q M' (pc + 3) lv rest) : wx G S nL Q M pc lv st := fun H locs ls hP hS hl => by
  obtain ⟨h1, h2⟩ := AS_call rfl hS
  refine va_callv (va_runV F.1 (hM H.size) cw ⟨Pc1.blind, va_recv F.2.1 hP hcl (by rw [wl_at hk, hc]), fun U hU hW => ⟨rfl, by rw [hU], by rw [hU]; exact hP, va_K.moved hW.alike F.2.1⟩⟩ rfl hn hl.1 hst (lv_room hrm) d ⟨Nat.zero_le _, Nat.zero_le _⟩) hS h1 h2 (fun M' t H1 locs1 ht _ hp hB _ _ hS1 => ?_)
  exact kk M' hp H1 locs1 ls (by rw [← ht]; exact hB.1) hS1 hl
theorem wx_callsi (F : FX G S cc nL own ret) {y : MethodName} {wsC : List Cond} {rm : Room} {As st : List Value} {post : Int32 → MM → Prop} {index n maxL : Nat} {bytes : ByteArray} {rt : Option FieldType} (hM : Ci (gl G) S y wsC rm As M post)
    (cw : CallB (gR G) (gs G) (gA G) own index y bytes maxL rt wsC rm 0 0 n ∧ (Cond.static y).before (gA G) (gs G) = true) (hn : As.length = n) (hst : st = As.reverse ++ rest) (hrm : (rest.map fun v => v.category).sum ≤ 8) (d : decode cc pc = .ok (.invokestatic index, 3))
    (kk : ∀ (r : Int32) (M' : MM), post r M' → wx G S nL Q M' (pc + 3) lv (.int r :: rest)) : wx G S nL Q M pc lv st := fun H locs ls hP hS hl => by
  obtain ⟨h1, h2⟩ := AS_call rfl hS
  refine va_calli (va_runS F.1 (hM H.size) cw ⟨Pc1.blind, fun U hU hW => ⟨rfl, by rw [hU], by rw [hU]; exact hP, va_K.moved hW.alike F.2.1⟩⟩ rfl hn hl.1 hst (lv_room hrm) d ⟨Nat.zero_le _, Nat.zero_le _⟩) hS h1 h2 (fun r M' t H1 locs1 ht _ hp hB _ _ hS1 => ?_)
  exact kk r M' hp H1 locs1 ls (by rw [← ht]; exact hB.1) hS1 hl
theorem wx_callsv (F : FX G S cc nL own ret) {y : MethodName} {wsC : List Cond} {rm : Room} {As st : List Value} {post : MM → Prop} {index n maxL : Nat} {bytes : ByteArray} (hM : Cv (gl G) S y wsC rm As M post)
    (cw : CallB (gR G) (gs G) (gA G) own index y bytes maxL none wsC rm 0 0 n ∧ (Cond.static y).before (gA G) (gs G) = true) (hn : As.length = n) (hst : st = As.reverse ++ rest) (hrm : (rest.map fun v => v.category).sum ≤ 8) (d : decode cc pc = .ok (.invokestatic index, 3))
    (kk : ∀ M' : MM, post M' → wx G S nL Q M' (pc + 3) lv rest) : wx G S nL Q M pc lv st := fun H locs ls hP hS hl => by
  obtain ⟨h1, h2⟩ := AS_call rfl hS
  refine va_callv (va_runS F.1 (hM H.size) cw ⟨Pc1.blind, fun U hU hW => ⟨rfl, by rw [hU], by rw [hU]; exact hP, va_K.moved hW.alike F.2.1⟩⟩ rfl hn hl.1 hst (lv_room hrm) d ⟨Nat.zero_le _, Nat.zero_le _⟩) hS h1 h2 (fun M' t H1 locs1 ht _ hp hB _ _ hS1 => ?_)
  exact kk M' hp H1 locs1 ls (by rw [← ht]; exact hB.1) hS1 hl
end WX
