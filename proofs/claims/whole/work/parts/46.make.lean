/-- f, but v at every address of l -/
def vr_up {α : Type} (f : Nat → α) (l : List Nat) (v : α) : Nat → α := fun a => if a ∈ l then v else f a
theorem vr_up_in {α : Type} {f : Nat → α} {l : List Nat} {v : α} {a : Nat} (h : a ∈ l) : vr_up f l v a = v := if_pos h
theorem vr_up_ne {α : Type} {f : Nat → α} {l : List Nat} {v : α} {a : Nat} (h : a ∉ l) : vr_up f l v a = f a := if_neg h
theorem vr_rows {L l : List Nat} {f : Nat → va_E} {e : va_E} (h : ∀ a, a ∈ l → a ∉ L) : va_pl L f ++ l.map (fun a => (a, e)) = va_pl (L ++ l) (vr_up f l e) := by
  unfold va_pl
  rw [List.map_append]
  congr 1
  · apply List.map_congr_left
    intro a ha
    rw [vr_up_ne (fun q => h a q ha)]
  · apply List.map_congr_left
    intro a ha
    rw [vr_up_in ha]
theorem vr_lay {X rows : va_W} {x : Nat × va_E} {pl : va_W} {D : va_G} {cl : List vw_C} {H : Heap} (hP : va_P D cl (((X ++ pl) ++ [x]) ++ rows) H) : va_P D cl ((X ++ [x]) ++ (pl ++ rows)) H := by
  rw [List.append_assoc (X ++ pl)] at hP
  have h := va_P.swap hP
  rw [← List.append_assoc X] at h
  have h2 := va_P.swap h
  rw [List.append_assoc (X ++ [x])] at h2
  exact h2
theorem vr_layD {X rows : va_W} {x : Nat × va_E} {pl : va_W} {A : Nat → Prop} (hD : va_D A (((X ++ pl) ++ [x]) ++ rows)) : va_D A ((X ++ [x]) ++ (pl ++ rows)) := by
  rw [List.append_assoc (X ++ pl)] at hD
  have h := va_D.swap hD
  rw [← List.append_assoc X] at h
  have h2 := va_D.swap h
  rw [List.append_assoc (X ++ [x])] at h2
  exact h2
theorem vr_outer (c : ClassId) (N h0 : Nat) : ∀ i : Nat, Jvm.Free.Multi.outerC c N h0 i = arrV c N (fun j => va_rf (if j < i then some (h0 + 1 + j) else none))
  | 0 => by
    show ({ cls := c, slots := Array.replicate N .null, vm := .none } : Cell) = _
    rw [arrV_new]
    refine congrArg (arrV c N) (funext fun j => ?_)
    simp [va_rf]
  | i + 1 => by
    show (Jvm.Free.Multi.outerC c N h0 i).setSlot i (.ref (h0 + 1 + i)) = _
    rw [vr_outer c N h0 i, arrV_store]
    refine congrArg (arrV c N) (funext fun j => ?_)
    by_cases e : j = i
    · subst e
      simp [updV, va_rf]
    · by_cases h : j < i
      · simp [updV, e, h, Nat.lt_succ_of_lt h]
      · simp [updV, e, h, show ¬ j < i + 1 by omega]
section VGM
variable {p : Program} {l : Launch} {e : Env} {R : Room} {s : State} {m : MethodId} {args : Array Value} {below : List Frame} {meth : Method} {c : Code} {H : Heap} {locs : List Loc} {cells slots : Nat} {Q : State → Prop}
variable {cc : ByteArray} {pc : Nat} {ls : Array Slot} {rest : List Value} {D : va_G} {cl : List vw_C} {A : Nat → Prop} {a : Nat} {tys : List (ClassId × FieldType)} {ws : va_W} {H0 : Heap}
theorem va_mna {X : va_W} {L : List Nat} {f : Nat → va_E} {cc : ByteArray} (hexec : p.tables.exec = Jvm.exec) (hb : c.code = cc) {own : String} {index : Nat} {ty : FieldType} {cy : ClassId} (hown : s.vm.findClass own = some m.cls) (hclink : (Cond.classLink own index ("[" ++ (FieldType.array ty).toString)).before args s = true) (hover : (Cond.arrayOver (.array ty)).before args s = true) (harr : (Cond.arrayClass ty).before args s = true) (hcy : s.vm.findClass (FieldType.array ty).toString = some cy)
    (hK : va_K D cl tys s) (hP : va_P D cl (X ++ va_pl L f) H) (hD : va_D A (X ++ va_pl L f)) (hS : va_S A H0 H locs) (hA : ∀ q, H0.size ≤ q → A q) {n k : Int32} {N' K' : Nat} {z : vp_A} (hn : ¬ n < 0) (hk : ¬ k < 0) (hN : n.toNatClampNeg = N') (hM : k.toNatClampNeg = K')
    (hb1 : N' * 4 ≤ 536870912) (hb2 : K' * componentBytes ty ≤ 536870912) (hb3 : K' ≤ 536870912) (hdf : fits ty (defaultValue ty) = true) (hdd : (defaultValue ty).isDefault = true) (hcells : cells + (1 + N') ≤ R.cells) (hslots : slots + (N' + N' * K') ≤ R.slots) (hz : ∀ c : ClassId, Jvm.Free.Multi.innerC c K' (defaultValue ty) = vp_cell c z) (hdg : decode cc pc = .ok (.multianewarray index 2, 4))
    (kk : ∀ (q : Nat) (r : Nat → Nat) (cA : ClassId) (H1 : Heap), (∀ i j : Nat, i < N' → j < N' → r i = r j → i = j) → (∀ i : Nat, i < N' → r i ∉ L) → va_K D cl (tys ++ [(cA, .array ty)]) s →
      va_P D cl ((X ++ [(q, .inl (cA, N', .inr (.inr (.inr (.inr (fun i => if i < N' then some (r i) else none))))))]) ++ va_pl (L ++ (List.range N').map r) (vr_up f ((List.range N').map r) (.inl (cy, z)))) H1 → va_D A ((X ++ [(q, .inl (cA, N', .inr (.inr (.inr (.inr (fun i => if i < N' then some (r i) else none))))))]) ++ va_pl (L ++ (List.range N').map r) (vr_up f ((List.range N').map r) (.inl (cy, z)))) → va_S A H0 H1 locs →
      W p l e R s m args below meth c H1 locs (cells + 1 + N') (slots + N' + N' * K') Q (F0 m (pc + 4) ls (.ref q :: rest))) : W p l e R s m args below meth c H locs cells slots Q (F0 m pc ls (.int k :: .int n :: rest)) := by
  subst hN
  subst hM
  intro T hT Xs
  obtain ⟨vm₁, cA, comp, -, fA, fC, hO, -, X', step⟩ := Xs.multianewarray2F hexec hown hclink hover harr (g := F0 m pc ls (.int k :: .int n :: rest)) rfl (by rw [hb]; exact hdg) rfl hn hk hb1 hb2 hb3 hdf hdd hcells hslots
  have ec : some cy = some comp := hcy.symm.trans fC
  cases ec
  generalize hF : Jvm.Free.Multi.fill (T.setVm vm₁) cA cy n.toNatClampNeg k.toNatClampNeg (defaultValue ty) n.toNatClampNeg = F at X' step
  have hTh : (T.setVm vm₁).heap = H := hT
  obtain ⟨f1, f2, -, -⟩ := Jvm.Free.Multi.fill_facts (T.setVm vm₁) cA cy n.toNatClampNeg k.toNatClampNeg (defaultValue ty) n.toNatClampNeg
  rw [hF, hTh] at f1 f2
  have hold : ∀ x : Nat, x < H.size → F.heap[x]? = H[x]? := fun x hx => by
    have := Jvm.Free.Multi.fill_old (T.setVm vm₁) cA cy n.toNatClampNeg k.toNatClampNeg (defaultValue ty) (a := x) (by rw [hTh]; exact hx) n.toNatClampNeg
    rw [hF, hTh] at this
    exact this
  have hrow : ∀ j : Nat, j < n.toNatClampNeg → F.heap[H.size + 1 + j]? = some (vp_cell cy z) := fun j hj => by
    have := Jvm.Free.Multi.fill_inner (T.setVm vm₁) cA cy n.toNatClampNeg k.toNatClampNeg (defaultValue ty) n.toNatClampNeg j hj
    rw [hF, hTh, hz] at this
    exact this
  have hout : Jvm.Free.Multi.outerC cA n.toNatClampNeg H.size n.toNatClampNeg = vp_cell cA (n.toNatClampNeg, .inr (.inr (.inr (.inr (fun i => if i < n.toNatClampNeg then some (H.size + 1 + i) else none))))) := by
    rw [vp_cell_q]
    exact vr_outer cA n.toNatClampNeg H.size n.toNatClampNeg
  rw [hout] at f2
  have hlt : ∀ a, a ∈ L → a < H.size := fun a ha => by
    obtain ⟨k9, hk9⟩ := va_pl_get (X := X) (f := f) ha
    exact (hP k9 _ hk9).lt
  have hnl : ∀ i : Nat, i < n.toNatClampNeg → H.size + 1 + i ∉ L := fun i _ h => by
    have := hlt _ h
    omega
  have hnm : ∀ a, a ∈ (List.range n.toNatClampNeg).map (fun i => H.size + 1 + i) → a ∉ L := fun a ha h => by
    obtain ⟨i, -, rfl⟩ := List.mem_map.mp ha
    have := hlt _ h
    omega
  have hP0 : va_P D cl (X ++ va_pl L f) F.heap := hP.kept (fun k9 x hx => hold x.1 ((hP k9 x hx).lt))
  have hP1 : va_P D cl ((X ++ va_pl L f) ++ [(H.size, .inl (cA, n.toNatClampNeg, .inr (.inr (.inr (.inr (fun i => if i < n.toNatClampNeg then some (H.size + 1 + i) else none))))))]) F.heap := hP0.app (fun k9 x hx => by
    have h0 : k9 < 1 := (List.getElem?_eq_some_iff.mp hx).1
    rw [show k9 = 0 by omega] at hx
    cases hx
    exact f2)
  have hP2 : va_P D cl (((X ++ va_pl L f) ++ [(H.size, .inl (cA, n.toNatClampNeg, .inr (.inr (.inr (.inr (fun i => if i < n.toNatClampNeg then some (H.size + 1 + i) else none))))))]) ++ ((List.range n.toNatClampNeg).map (fun i => H.size + 1 + i)).map (fun a => (a, .inl (cy, z)))) F.heap := hP1.app (fun k9 x hx => by
    obtain ⟨a, ha, rfl⟩ := List.mem_map.mp (List.mem_of_getElem? hx)
    obtain ⟨i, hi, rfl⟩ := List.mem_map.mp ha
    exact hrow i (List.mem_range.mp hi))
  have hD2 : va_D A (((X ++ va_pl L f) ++ [(H.size, .inl (cA, n.toNatClampNeg, .inr (.inr (.inr (.inr (fun i => if i < n.toNatClampNeg then some (H.size + 1 + i) else none))))))]) ++ ((List.range n.toNatClampNeg).map (fun i => H.size + 1 + i)).map (fun a => (a, .inl (cy, z)))) := by
    have hD1 := hD.push (e := .inl (cA, n.toNatClampNeg, .inr (.inr (.inr (.inr (fun i => if i < n.toNatClampNeg then some (H.size + 1 + i) else none)))))) hP rfl (hA _ hS.1)
    generalize hW1 : (X ++ va_pl L f) ++ [(H.size, .inl (cA, n.toNatClampNeg, .inr (.inr (.inr (.inr (fun i => if i < n.toNatClampNeg then some (H.size + 1 + i) else none))))))] = W1 at hD1 hP1 ⊢
    have hle : ∀ (k9 : Nat) (x : Nat × va_E), W1[k9]? = some x → x.1 ≤ H.size := fun k9 x hx => by
      rw [← hW1] at hx
      by_cases hl : k9 < (X ++ va_pl L f).length
      · rw [List.getElem?_append_left hl] at hx
        exact Nat.le_of_lt ((hP k9 x hx).lt)
      · rw [List.getElem?_append_right (by omega)] at hx
        have h0 : k9 - (X ++ va_pl L f).length < 1 := (List.getElem?_eq_some_iff.mp hx).1
        rw [show k9 - (X ++ va_pl L f).length = 0 by omega] at hx
        cases hx
        exact Nat.le_refl _
    have hr : ∀ (k9 : Nat) (x : Nat × va_E), (((List.range n.toNatClampNeg).map (fun i => H.size + 1 + i)).map (fun a => ((a, .inl (cy, z)) : Nat × va_E)))[k9]? = some x → x.1 = H.size + 1 + k9 := fun k9 x hx => by
      rw [List.getElem?_map, List.getElem?_map] at hx
      by_cases h9 : k9 < n.toNatClampNeg
      · rw [List.getElem?_range h9] at hx
        cases hx
        rfl
      · have hn0 : (List.range n.toNatClampNeg)[k9]? = none := List.getElem?_eq_none (by rw [List.length_range]; omega)
        rw [hn0] at hx
        cases hx
    refine ⟨fun i j x y hi hj hxy => ?_, fun k9 x hx => ?_⟩
    · by_cases h1 : i < W1.length <;> by_cases h2 : j < W1.length
      · rw [List.getElem?_append_left h1] at hi
        rw [List.getElem?_append_left h2] at hj
        exact hD1.1 i j x y hi hj hxy
      · rw [List.getElem?_append_left h1] at hi
        rw [List.getElem?_append_right (by omega)] at hj
        have := hle _ _ hi
        have := hr _ _ hj
        omega
      · rw [List.getElem?_append_right (by omega)] at hi
        rw [List.getElem?_append_left h2] at hj
        have := hle _ _ hj
        have := hr _ _ hi
        omega
      · rw [List.getElem?_append_right (by omega)] at hi hj
        have := hr _ _ hi
        have := hr _ _ hj
        omega
    · by_cases h1 : k9 < W1.length
      · rw [List.getElem?_append_left h1] at hx
        exact hD1.2 k9 x hx
      · rw [List.getElem?_append_right (by omega)] at hx
        have := hr _ _ hx
        exact hA _ (by have := hS.1; omega)
  have hAr : ArrOfT s cA (.array ty) := fun N9 z9 => by
    obtain ⟨-, k9, hk9, cm9, hkk9⟩ := (hO 0 0 0).1
    exact ⟨(fun q hq => by cases hq), k9, hk9, cm9, hkk9⟩
  have hK2 : va_K D cl (tys ++ [(cA, .array ty)]) s := ⟨hK.1, fun k9 x hx => by
    by_cases hl : k9 < tys.length
    · rw [List.getElem?_append_left hl] at hx
      exact hK.2 k9 x hx
    · rw [List.getElem?_append_right (by omega)] at hx
      have h0 : k9 - tys.length < 1 := (List.getElem?_eq_some_iff.mp hx).1
      rw [show k9 - tys.length = 0 by omega] at hx
      cases hx
      exact ⟨hAr, fA⟩⟩
  obtain ⟨t, a1, b1⟩ := kk H.size (fun i => H.size + 1 + i) cA F.heap (fun i j _ _ h => by have h9 : H.size + 1 + i = H.size + 1 + j := h; omega) hnl hK2 (by rw [← vr_rows hnm]; exact vr_lay hP2) (by rw [← vr_rows hnm]; exact vr_layD hD2) ⟨by rw [f1]; have := hS.1; omega, fun x h1 h2 => (hold x (Nat.lt_of_lt_of_le h1 hS.1)).trans (hS.2.1 x h1 h2), hS.2.2⟩ F rfl X'
  refine ⟨t, step t ?_, b1⟩
  have e : T.heap.size = H.size := by rw [hT]
  rw [e]
  exact a1
end VGM

/-! Makers: contracts, calls, a grid of numbers -/
theorem D_ust {A : Nat → Prop} {U : UU} {k : Nat} {e : va_E} (h : va_D A (wu U)) : va_D A (wu (ust U k e)) := by
  refine ⟨fun i j p q hi hj e => ?_, fun i q hi => ?_⟩
  · obtain ⟨h1, rfl⟩ := wu_of hi
    obtain ⟨h2, rfl⟩ := wu_of hj
    exact h.1 i j _ _ (wu_at (U := U) h1) (wu_at (U := U) h2) e
  · obtain ⟨h1, rfl⟩ := wu_of hi
    exact (show A (U.2.1 i) from h.2 i _ (wu_at (U := U) h1))
def upsN (U : UU) (N : Nat) (r : Nat → Nat) (e : va_E) : UU := (U.1 + N, (fun k => if U.1 ≤ k then r (k - U.1) else U.2.1 k), fun k => if U.1 ≤ k then e else U.2.2 k)
theorem wu_upsN (U : UU) (N : Nat) (r : Nat → Nat) (e : va_E) : wu (upsN U N r e) = wu U ++ (List.range N).map (fun i => (r i, e)) := by
  apply List.ext_getElem?
  intro i
  by_cases h : i < U.1
  · rw [wu_at (U := upsN U N r e) (show i < U.1 + N by omega), List.getElem?_append_left (by rw [wu_len]; exact h), wu_at h]
    show some ((if U.1 ≤ i then r (i - U.1) else U.2.1 i), (if U.1 ≤ i then e else U.2.2 i)) = _
    rw [if_neg (by omega), if_neg (by omega)]
  · rw [List.getElem?_append_right (by rw [wu_len]; omega), wu_len, List.getElem?_map]
    by_cases h2 : i < U.1 + N
    · rw [wu_at (U := upsN U N r e) h2, List.getElem?_range (by omega)]
      show some ((if U.1 ≤ i then r (i - U.1) else U.2.1 i), (if U.1 ≤ i then e else U.2.2 i)) = _
      rw [if_pos (by omega), if_pos (by omega)]
      rfl
    · rw [List.getElem?_eq_none (by rw [wu_len]; show U.1 + N ≤ i; omega), List.getElem?_eq_none (by rw [List.length_range]; omega)]
      rfl
abbrev AG (U : UU) (sz : Nat) : Nat → Prop := fun q => (∃ k, k < U.1 ∧ U.2.1 k = q) ∨ sz ≤ q
def XM (X : State → Prop) : Prop := (∀ u V : State, u.vm = V.vm → X u → X V) ∧ ∀ u V : State, u.WarmedH V.vm → X u → X V
def Xc (D : va_G) (U : UU) (tys : List (ClassId × FieldType)) (X : State → Prop) (sz : Nat) : State → Prop := fun V => V.heap.size = sz ∧ va_P D vwC (wu U) V.heap ∧ va_D (fun _ => True) (wu U) ∧ va_K D vwC tys V ∧ X V
def Bg (D : va_G) (U : UU) (tf : ClassId → ClassId → List (ClassId × FieldType)) (sz : Nat) : UU × ClassId × ClassId → State → Prop := fun u t => va_P D vwC (wu u.1) t.heap ∧ va_D (AG U sz) (wu u.1) ∧ va_K D vwC (tf u.2.1 u.2.2) t
def Cg (l : Launch) (D : va_G) (y : MethodName) (ws : List Cond) (rm : Room) (av : List Value) (U : UU) (tys : List (ClassId × FieldType)) (X : State → Prop) (mc ms : Nat) (tf : ClassId → ClassId → List (ClassId × FieldType)) (post : UU × ClassId × ClassId → Prop) : Prop :=
  ∀ sz : Nat, Met l y ws rm (va_Pc av (Xc D U tys X sz)) (va_Qv post (Bg D U tf sz) (AG U sz)) mc ms (AG U sz)
abbrev Qg (G : CX) (D : va_G) (U : UU) (tf : ClassId → ClassId → List (ClassId × FieldType)) (post : UU × ClassId × ClassId → Prop) (mc ms : Nat) : State → Prop := MQ (gb G) (va_Qv post (Bg D U tf (gs G).heap.size) (AG U (gs G).heap.size)) (gA G) (gs G) mc ms (AG U (gs G).heap.size)
theorem Xc.blind {D : va_G} {av : List Value} {U : UU} {tys : List (ClassId × FieldType)} {X : State → Prop} {sz : Nat} (hX : XM X) : FrameBlind (va_Pc av (Xc D U tys X sz)) := fun a V g mk q => by
  obtain ⟨q0, q1, qP, qD, qK, qX⟩ := q
  exact ⟨q0, q1, qP, qD, va_K.moved (u := V) (U := V.calling g mk a) (Vm.Alike.refl V.vm) qK, hX.1 V (V.calling g mk a) rfl qX⟩
theorem Cg.of {l : Launch} {D : va_G} {y : MethodName} {ws : List Cond} {rm : Room} {av : List Value} {U : UU} {tys : List (ClassId × FieldType)} {X : State → Prop} {mc ms : Nat} {tf : ClassId → ClassId → List (ClassId × FieldType)} {post : UU × ClassId × ClassId → Prop} {cc : ByteArray} {nL : Nat}
    (hy : plainName y.cls = true) (hy1 : y.name = "<init>") (hw : ws = Cond.code y cc nL none :: lw_g) (hlen : (lg_sl av).length ≤ nL)
    (body : ∀ G : CX, gl G = l → gR G = (headSpec ws rm).room → (gme G).name = "<init>" → FH G cc nL y.cls → va_K D vwC tys (gs G) → X (gs G) → (gme G).locks = false → (gme G).sig.returnType = none → wh G (AG U (gs G).heap.size) nL (Qg G D U tf post mc ms) (pwu D (AG U (gs G).heap.size) U) 0 0 0 (lv_args 0 av) []) : Cg l D y ws rm av U tys X mc ms tf post := by
  intro sz
  refine Met.ofW (cc := cc) (maxL := nL) (ret := none) hy hw ?_
  intro p e s m args below meth c s₁ B hml hv
  obtain ⟨rfl, hsz, hP, hD, hK, hX⟩ := hv
  subst hsz
  have hin : meth.name = "<init>" := by rw [← hy1]; exact (name_of_methodNamed B.named B.method).1
  rw [lg_entry_eq]
  exact body (p, l, e, (headSpec ws rm).room, s, m, av.toArray, below, meth, c) rfl rfl hin ⟨B.exec, B.bytes, hml, findClass_of_methodNamed B.named, fun w h => atoms_spec (ws := ws) B.pre w (by rw [hw]; exact List.mem_cons_of_mem _ h)⟩ hK hX B.notSynchronized B.returns s.heap [] _ ⟨hP, hD.1, fun k q hk => by
    obtain ⟨h1, rfl⟩ := wu_of hk
    exact Or.inl ⟨k, h1, rfl⟩⟩ va_S.rf (lv_entry av hlen)
section WC
variable {G : CX} {D : va_G} {A : Nat → Prop} {cc : ByteArray} {nL : Nat} {own : String} {Q : State → Prop} {U : UU} {cl sl pc : Nat} {lv : List (Nat × Value)} {rest : List Value} {tys : List (ClassId × FieldType)}
theorem wh_vret {U0 : UU} {tf : ClassId → ClassId → List (ClassId × FieldType)} {post : UU × ClassId × ClassId → Prop} {c1 c2 : ClassId} (F : FH G cc nL own) (hr : (gme G).sig.returnType = none) (hlo : (gme G).locks = false) (hK : va_K D vwC (tf c1 c2) (gs G)) (hp : post (U, c1, c2)) (d : decode cc pc = .ok (.return_, 1)) : wh G (AG U0 (gs G).heap.size) nL (Qg G D U0 tf post cl sl) (pwu D (AG U0 (gs G).heap.size) U) cl sl pc lv [] := fun H locs ls hP hS hl =>
  W.vret F.1 F.2.1 hr (fun t ht hW => ⟨⟨(U, c1, c2), rfl, hp, by rw [ht]; exact hP.1, hP.2, va_K.moved hW.alike hK⟩, hS.F ht⟩) hS.2.2 d hlo
theorem AG_sub {H : Heap} {locs : List Loc} (hA : ∀ q, (gs G).heap.size ≤ q → A q) (hD : va_D A (wu U)) (hS : va_S A (gs G).heap H locs) : ∀ q, AG U H.size q → A q := fun q h => by
  rcases h with ⟨k, hk, e⟩ | h
  · rw [← e]; exact hD.2 k _ (wu_at hk)
  · exact hA q (Nat.le_trans hS.1 h)
theorem wh_ctor (F : FH G cc nL own) (hA : ∀ q, (gs G).heap.size ≤ q → A q) {tysC : List (ClassId × FieldType)} (hK : va_K D vwC tysC (gs G)) {X : State → Prop} (hXs : X (gs G)) (hXm : XM X) {y : MethodName} {wsC : List Cond} {rm : Room} {As st : List Value} {b mc ms index n maxL : Nat} {bytes : ByteArray} {tf : ClassId → ClassId → List (ClassId × FieldType)} {post : UU × ClassId × ClassId → Prop} (hM : Cg (gl G) D y wsC rm (.ref b :: As) U tysC X mc ms tf post)
    (cw : CallB (gR G) (gs G) (gA G) own index y bytes maxL none wsC rm mc ms n ∧ y.name = "<init>" ∧ (Cond.instanceMethod y).before (gA G) (gs G) = true) (hn : As.length = n) (hst : st = As.reverse ++ .ref b :: rest) (hrm : (rest.map fun v => v.category).sum ≤ 8) (d : decode cc pc = .ok (.invokespecial index, 3)) (hf : cl + mc ≤ (gR G).cells ∧ sl + ms ≤ (gR G).slots)
    (kk : ∀ U' c1 c2, post (U', c1, c2) → va_K D vwC (tf c1 c2) (gs G) → wh G A nL Q (pwu D A U') (cl + mc) (sl + ms) (pc + 3) lv rest) : wh G A nL Q (pwu D A U) cl sl pc lv st := fun H locs ls hP hS hl => by
  have hAG := AG_sub hA hP.2 hS
  refine va_callv (va_runI F (hM H.size) cw ⟨Xc.blind hXm, fun V hV hW => ⟨rfl, by rw [hV], by rw [hV]; exact hP.1, hP.2.weaken (fun _ _ _ _ => trivial), va_K.moved hW.alike hK, hXm.2 _ _ hW hXs⟩⟩ rfl hn hl.1 hst (lv_room hrm) d hf) hS (fun q _ h => hAG q h) hAG (fun u t H1 locs1 ht hvm hp hB _ _ hS1 => ?_)
  obtain ⟨U', c1, c2⟩ := u
  obtain ⟨hP1, hD1, hK1⟩ := hB
  exact kk U' c1 c2 hp (va_K.moved hvm.symm hK1) H1 locs1 ls ⟨by rw [← ht]; exact hP1, hD1.weaken (fun _ _ _ h => hAG _ h)⟩ hS1 hl
theorem wh_ctorN (F : FH G cc nL own) (hA : ∀ q, (gs G).heap.size ≤ q → A q) {tysC : List (ClassId × FieldType)} (hK : va_K D vwC tysC (gs G)) {X : State → Prop} (hXs : X (gs G)) (hXm : XM X) {y : MethodName} {wsC : List Cond} {rm : Room} {As st : List Value} {b mc ms index n maxL : Nat} {host : String} {bytes : ByteArray} {tf : ClassId → ClassId → List (ClassId × FieldType)} {post : UU × ClassId × ClassId → Prop} (hM : Cg (gl G) D y wsC rm (.ref b :: As) U tysC X mc ms tf post)
    (cw : va_CN (gR G) (gs G) (gA G) own index y host bytes maxL none wsC rm mc ms n ∧ y.name = "<init>" ∧ (Cond.instanceMethod y).before (gA G) (gs G) = true) (hn : As.length = n) (hst : st = As.reverse ++ .ref b :: rest) (hrm : (rest.map fun v => v.category).sum ≤ 8) (d : decode cc pc = .ok (.invokespecial index, 3)) (hf : cl + mc ≤ (gR G).cells ∧ sl + ms ≤ (gR G).slots)
    (kk : ∀ U' c1 c2, post (U', c1, c2) → va_K D vwC (tf c1 c2) (gs G) → wh G A nL Q (pwu D A U') (cl + mc) (sl + ms) (pc + 3) lv rest) : wh G A nL Q (pwu D A U) cl sl pc lv st := fun H locs ls hP hS hl => by
  have hAG := AG_sub hA hP.2 hS
  refine va_callv (va_runIN F (hM H.size) cw ⟨Xc.blind hXm, fun V hV hW => ⟨rfl, by rw [hV], by rw [hV]; exact hP.1, hP.2.weaken (fun _ _ _ _ => trivial), va_K.moved hW.alike hK, hXm.2 _ _ hW hXs⟩⟩ rfl hn hl.1 hst (lv_room hrm) d hf) hS (fun q _ h => hAG q h) hAG (fun u t H1 locs1 ht hvm hp hB _ _ hS1 => ?_)
  obtain ⟨U', c1, c2⟩ := u
  obtain ⟨hP1, hD1, hK1⟩ := hB
  exact kk U' c1 c2 hp (va_K.moved hvm.symm hK1) H1 locs1 ls ⟨by rw [← ht]; exact hP1, hD1.weaken (fun _ _ _ h => hAG _ h)⟩ hS1 hl
theorem wh_fill (F : FH G cc nL own) (hA : ∀ q, (gs G).heap.size ≤ q → A q) (hK : va_K D vwC tys (gs G)) (k0 : Nat) (hk0 : k0 < U.1) {cI : ClassId} {N : Nat} {f0 : Nat → Int32} (he : U.2.2 k0 = .inl (cI, N, .inl f0)) (hN : N < 1000) (t0 : Nat) (ht : tys[t0]? = some (cI, .int)) {index : Nat} (hl0 : Cond.methodLink own index yA_fill ∈ lw_g) (hR : 1 ≤ (gR G).frames ∧ 23 ≤ (gR G).locals) (d : decode cc pc = .ok (.invokestatic index, 3)) {a : Nat} (ha : a = U.2.1 k0) {x : Int32} (hrm : (rest.map fun v => v.category).sum ≤ 8) (hcs : cl ≤ (gR G).cells ∧ sl ≤ (gR G).slots)
    (kk : wh G A nL Q (pwu D A (ust U k0 (.inl (cI, N, .inl (fun i => if i < N then x else f0 i))))) cl sl (pc + 3) lv rest) : wh G A nL Q (pwu D A U) cl sl pc lv (.int x :: .ref a :: rest) := fun H locs ls hP hS hl => by
  subst ha
  have hg : ∃ S : SX, S = (D, vwC, tys, U.1, U.2.1, fun k f => if k = k0 then .inl (cI, N, .inl f) else U.2.2 k) := ⟨_, rfl⟩
  obtain ⟨S, eS⟩ := hg
  have ewl : ∀ f : Nat → Int32, wl S (fun _ => f) = wu (ust U k0 (.inl (cI, N, .inl f))) := fun f => by rw [eS]; rfl
  have e0 : wu (ust U k0 (.inl (cI, N, .inl f0))) = wu U := by
    unfold wu ust
    refine List.map_congr_left (fun k _ => ?_)
    show (U.2.1 k, if k = k0 then _ else U.2.2 k) = _
    by_cases q : k = k0
    · rw [if_pos q, q, he]
    · rw [if_neg q]
  have hJ : IJ S := fun i j h1 h2 e => by
    rw [eS] at h1 h2 e
    exact hP.2.1 i j _ _ (wu_at h1) (wu_at h2) e
  have hM := kA_fillS (l := gl G) hJ hN k0 (by rw [eS]; exact hk0) (fun f => by rw [eS]; exact if_pos rfl) t0 (by rw [eS]; exact ht) (fun _ => f0) x
  have hxa : xa S k0 = U.2.1 k0 := by rw [eS]
  have hxD : xD S = D := by rw [eS]
  have hxC : xC S = vwC := by rw [eS]
  have hxT : xT S = tys := by rw [eS]
  rw [hxa] at hM
  have hAS : ∀ q, AS S H.size q → A q := fun q h => by
    refine AG_sub hA hP.2 hS q ?_
    rw [eS] at h
    exact h
  have hKS : va_K (xD S) (xC S) (xT S) (gs G) := by rw [hxD, hxC, hxT]; exact hK
  have cw := cw_S (R := gR G) (n := 2) F.2.2.2.2 hl0 cbA_fill (rm := rmA_fill) rfl rfl ⟨hR.1, hR.2⟩
  refine va_callv (va_runS F (hM H.size) cw ⟨Pc1.blind, fun V hV hW => ⟨rfl, by rw [hV], by rw [hV, hxD, hxC, ewl, e0]; exact hP.1, va_K.moved hW.alike hKS⟩⟩ rfl rfl hl.1 (As := [.ref (U.2.1 k0), .int x]) rfl (lv_room hrm) d ⟨hcs.1, hcs.2⟩) hS (fun q _ h => hAS q h) hAS (fun M' t H1 locs1 ht1 _ hp hB _ _ hS1 => ?_)
  have e2 : wl S M' = wu (ust U k0 (.inl (cI, N, .inl (fun i => if i < N then x else f0 i)))) := by
    rw [hp, eS]
    unfold wl wu ust
    refine List.map_congr_left (fun k _ => ?_)
    show (U.2.1 k, if k = k0 then _ else U.2.2 k) = (U.2.1 k, if k = k0 then _ else U.2.2 k)
    by_cases q : k = k0
    · rw [if_pos q, if_pos q]
      unfold va_up
      rw [if_pos q]
    · rw [if_neg q, if_neg q]
  exact kk H1 locs1 ls ⟨by rw [← ht1, ← e2]; have := hB.1; rw [hxD, hxC] at this; exact this, D_ust hP.2⟩ hS1 hl
theorem wh_mna (F : FH G cc nL own) (hA : ∀ q, (gs G).heap.size ≤ q → A q) (hK : va_K D vwC tys (gs G)) {cI : ClassId} (t0 : Nat) (ht : tys[t0]? = some (cI, .int)) (hov : AOA (gs G)) {index : Nat} (hcl : Cond.classLink own index "[[I" ∈ lw_g) {n k : Int32} {N K' : Nat} (hn : ¬ n < 0) (hk : ¬ k < 0) (hN : n.toNatClampNeg = N) (hM : k.toNatClampNeg = K') (hb1 : N * 4 ≤ 536870912) (hb2 : K' * 4 ≤ 536870912) (h1 : cl + (1 + N) ≤ (gR G).cells) (h2 : sl + (N + N * K') ≤ (gR G).slots) (d : decode cc pc = .ok (.multianewarray index 2, 4))
    (kk : ∀ q r cA, va_K D vwC (tys ++ [(cA, .array .int)]) (gs G) → wh G A nL Q (pwu D A (upsN (ups U q (.inl (cA, N, .inr (.inr (.inr (.inr (fun i => if i < N then some (r i) else none))))))) N r (.inl (cI, K', .inl (fun _ => 0))))) (cl + 1 + N) (sl + N + N * K') (pc + 4) lv (.ref q :: rest)) : wh G A nL Q (pwu D A U) cl sl pc lv (.int k :: .int n :: rest) := fun H locs ls hP hS hl => by
  refine va_mna (X := wu U) (L := []) (f := fun _ => .inl (cI, K', .inl (fun _ => 0))) (ty := .int) (cy := cI) (z := (K', .inl (fun _ => 0))) F.1 F.2.1 F.2.2.2.1 (F.2.2.2.2 _ hcl) hov (F.2.2.2.2 _ lw_int) (hK.2 t0 _ ht).2 hK (by rw [show va_pl ([] : List Nat) (fun _ => (.inl (cI, K', .inl (fun _ => 0)) : va_E)) = [] from rfl, List.append_nil]; exact hP.1) (by rw [show va_pl ([] : List Nat) (fun _ => (.inl (cI, K', .inl (fun _ => 0)) : va_E)) = [] from rfl, List.append_nil]; exact hP.2) hS hA hn hk hN hM hb1 hb2 (by omega) rfl rfl h1 h2 (fun c => ?_) d (fun q r cA H1 _ _ hK1 hP1 hD1 hS1 => ?_)
  · rw [vp_cell_i, ← arrV_new]
    rfl
  · have e : (wu U ++ [(q, (.inl (cA, N, .inr (.inr (.inr (.inr (fun i => if i < N then some (r i) else none))))) : va_E))]) ++ va_pl ([] ++ (List.range N).map r) (vr_up (fun _ => (.inl (cI, K', .inl (fun _ => 0)) : va_E)) ((List.range N).map r) (.inl (cI, K', .inl (fun _ => 0)))) = wu (upsN (ups U q (.inl (cA, N, .inr (.inr (.inr (.inr (fun i => if i < N then some (r i) else none))))))) N r (.inl (cI, K', .inl (fun _ => 0)))) := by
      rw [wu_upsN, wu_ups, List.nil_append]
      congr 1
      unfold va_pl vr_up
      rw [List.map_map]
      refine List.map_congr_left (fun i hi => ?_)
      show (r i, _) = _
      rw [if_pos (List.mem_map_of_mem hi)]
    rw [e] at hP1 hD1
    exact kk q r cA hK1 H1 locs ls ⟨hP1, hD1⟩ hS1 hl
end WC
