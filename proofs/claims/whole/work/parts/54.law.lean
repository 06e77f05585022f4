/-! The law's walk: a call beside another system, the script, the cases -/
def AL (G : CX) : Nat → Prop := fun q => (gs G).heap.size ≤ q
theorem wh_know {G : CX} {A : Nat → Prop} {nL : Nat} {Q : State → Prop} {P : Heap → Prop} {cl sl pc : Nat} {lv : List (Nat × Value)} {st : List Value} {φ : Prop} (h : ∀ H, P H → φ) (k : φ → wh G A nL Q P cl sl pc lv st) : wh G A nL Q P cl sl pc lv st := fun H locs ls hP hS hl => k (h H hP) H locs ls hP hS hl
theorem wh_call2 {G : CX} {A : Nat → Prop} {cc : ByteArray} {nL : Nat} {own : String} {Q : State → Prop} {cl sl pc : Nat} {lv : List (Nat × Value)} {rest : List Value} {S : SX} {M : MM} {P2 : Heap → Prop} (F : FH G cc nL own) (hK : va_K (xD S) (xC S) (xT S) (gs G)) (hA0 : ∀ k, k < xn S → A (xa S k)) (hA : ∀ q, (gs G).heap.size ≤ q → A q) (hP2 : ∀ H H1 : Heap, P2 H → (∀ q, q < H.size → ¬ (∃ k, k < xn S ∧ xa S k = q) → H1[q]? = H[q]?) → P2 H1)
    {y : MethodName} {wsC : List Cond} {rm : Room} {As st : List Value} {post : Int32 → MM → Prop} {C : String} {T : u_T} {N ci index n maxL : Nat} {fs : List Value} {bytes : ByteArray} {rt : Option FieldType} (k : Nat) (hM : Ci (gl G) S y wsC rm (.ref (xa S k) :: As) M post) (hk : k < xn S) (hc : xf S k (M k) = .inr (ci, fs)) (hcl : (xC S)[ci]? = some (C, T, N))
    (cw : CallW (gR G) (gs G) (gA G) own C index y bytes maxL rt wsC rm 0 0 n) (hn : As.length = n) (hst : st = As.reverse ++ .ref (xa S k) :: rest) (hrm : (rest.map fun v => v.category).sum ≤ 8) (d : decode cc pc = .ok (.invokevirtual index, 3)) (hcs : cl ≤ (gR G).cells ∧ sl ≤ (gR G).slots)
    (kk : ∀ (r : Int32) (M' : MM), post r M' → wh G A nL Q (fun H => va_P (xD S) (xC S) (wl S M') H ∧ P2 H) cl sl (pc + 3) lv (.int r :: rest)) : wh G A nL Q (fun H => va_P (xD S) (xC S) (wl S M) H ∧ P2 H) cl sl pc lv st := fun H locs ls hP hS hl => by
  have hAS : ∀ q, AS S H.size q → A q := fun q h => by
    rcases h with ⟨k, hk, e⟩ | h
    · rw [← e]; exact hA0 k hk
    · exact hA q (Nat.le_trans hS.1 h)
  refine va_calli (va_runV F (hM H.size) cw ⟨Pc1.blind, va_recv hK hP.1 hcl (by rw [wl_at hk, hc]), fun U hU hW => ⟨rfl, by rw [hU], by rw [hU]; exact hP.1, va_K.moved hW.alike hK⟩⟩ rfl hn hl.1 hst (lv_room hrm) d ⟨hcs.1, hcs.2⟩) hS (fun q _ h => hAS q h) hAS (fun r M' t H1 locs1 ht _ hp hB _ hfr hS1 => ?_)
  exact kk r M' hp H1 locs1 ls ⟨by rw [← ht]; exact hB.1, hP2 H H1 hP.2 (fun q h1 h2 => hfr q h1 (fun z => by
    rcases z with z | z
    · exact h2 z
    · omega))⟩ hS1 hl
theorem P2_wl {S S2 : SX} {M2 : MM} (hap : ∀ i, i < xn S → ∀ j, j < xn S2 → xa S i ≠ xa S2 j) : ∀ H H1 : Heap, va_P (xD S2) (xC S2) (wl S2 M2) H → (∀ q, q < H.size → ¬ (∃ k, k < xn S ∧ xa S k = q) → H1[q]? = H[q]?) → va_P (xD S2) (xC S2) (wl S2 M2) H1 := fun H H1 h hq => va_P.kept h (fun k q hk => by
  obtain ⟨h1, rfl⟩ := wl_of hk
  exact hq _ (va_at.lt (h k _ hk)) (fun ⟨i, hi, e⟩ => hap i hi k h1 e))
/-- what the law's walk leans on -/
def ZF (G : CX) (b L : Nat) (xs : Nat → Int32) : Prop := FH G cZ_law 4 qnZ ∧ gR G = room_1 ∧ va_X b L xs (gs G) (gs G).heap ∧ b < (gs G).heap.size ∧ L ≤ 2049
def ZC (G : CX) (D : va_G) (cI cZ cL cE : ClassId) (ax am : Nat → Nat) (w : Nat) : Prop := va_K D vwC [(cI, .int), (cZ, .boolean), (cL, .object qnL), (cE, .array .int)] (gs G) ∧ va_K D vwC [(cI, .int), (cZ, .boolean)] (gs G) ∧ IJ (sX D cI cZ cL cE ax w) ∧ IJ (sM D cI cZ am) ∧ (∀ k, k < 43 + 2 * (w + 2) → AL G (ax k)) ∧ (∀ k, k < 15 → AL G (am k)) ∧ ∀ i, i < 43 + 2 * (w + 2) → ∀ j, j < 15 → ax i ≠ am j
abbrev zl (b x0 m0 i : Nat) : List (Nat × Value) := [(3, .int (nI i)), (0, .ref b), (1, .ref x0), (2, .ref m0)]
def PZ (D : va_G) (cI cZ cL cE : ClassId) (ax am : Nat → Nat) (w : Nat) (Mx Mr : MM) (H : Heap) : Prop := va_P D vwC (wl (sX D cI cZ cL cE ax w) Mx) H ∧ va_P D vwC (wl (sM D cI cZ am) Mr) H
def IZ (w n : Nat) (S : SS) (Mx Mr : MM) (c : Nat) : Prop := RX w S Mx ∧ RM w n S Mr none c ∧ IA w n S
section ZW
variable {G : CX} {Q : State → Prop} {P : Heap → Prop} {cl sl pc b L : Nat} {xs : Nat → Int32} {lv : List (Nat × Value)} {rest : List Value}
theorem wh_sld (Z : ZF G b L xs) {i : Nat} (hi : i < L) (d : decode cZ_law pc = .ok (.iaload, 1)) (k : wh G (AL G) 4 Q P cl sl (pc + 1) lv (.int (xs i) :: rest)) : wh G (AL G) 4 Q P cl sl pc lv (.int (nI i) :: .ref b :: rest) := fun H locs ls hP hS hl => by
  obtain ⟨F, _, hX, hb, hL⟩ := Z
  refine va_sld F.1 F.2.1 hX hb (fun q => by unfold AL at q; omega) hS (vp_in_nI hi (by omega)) d ?_
  rw [nI_clamp (by omega)]
  exact k H locs ls hP hS hl
theorem wh_slen (Z : ZF G b L xs) (d : decode cZ_law pc = .ok (.arraylength, 1)) (k : wh G (AL G) 4 Q P cl sl (pc + 1) lv (.int (nI L) :: rest)) : wh G (AL G) 4 Q P cl sl pc lv (.ref b :: rest) := fun H locs ls hP hS hl => by
  obtain ⟨F, _, hX, hb, hL⟩ := Z
  exact va_slen F.1 F.2.1 hX hb (fun q => by unfold AL at q; omega) hS d (k H locs ls hP hS hl)
theorem z_arg (Z : ZF G b L xs) {i j x0 m0 : Nat} (hi : i + j < L) {z : Int} (d1 : decode cZ_law pc = .ok (.aload_n 0, 1)) (d2 : decode cZ_law (pc + 1) = .ok (.iload_n 3, 1)) (d3 : decode cZ_law (pc + 2) = .ok (.iconst z, 1)) (d4 : decode cZ_law (pc + 3) = .ok (.iadd, 1)) (d5 : decode cZ_law (pc + 4) = .ok (.iaload, 1)) (hz : Int32.ofInt z = nI j) (k : wh G (AL G) 4 Q P cl sl (pc + 5) (zl b x0 m0 i) (.int (xs (i + j)) :: rest)) : wh G (AL G) 4 Q P cl sl pc (zl b x0 m0 i) rest := by
  refine wh_aload_n Z.1 1 d1 rfl rfl ?_
  refine wh_iload_n Z.1 0 d2 rfl rfl ?_
  refine wh_iconst (v := nI j) Z.1 d3 hz ?_
  refine wh_iadd Z.1 d4 ?_
  rw [nI_add]
  exact wh_sld Z hi d5 k
variable {D : va_G} {cI cZ cL cE : ClassId} {ax am : Nat → Nat} {w : Nat} {Mx Mr : MM}
theorem z_callX (Z : ZF G b L xs) (C : ZC G D cI cZ cL cE ax am w) (hcs : cl ≤ 600000 ∧ sl ≤ 7302250) {y : MethodName} {wsC : List Cond} {rm : Room} {As st : List Value} {post : Int32 → MM → Prop} {index n maxL : Nat} {bytes : ByteArray} {rt : Option FieldType} (hM : Ci (gl G) (sX D cI cZ cL cE ax w) y wsC rm (.ref (ax 0) :: As) Mx post) (cw : CallW (gR G) (gs G) (gA G) qnZ qnE index y bytes maxL rt wsC rm 0 0 n) (hn : As.length = n) (hst : st = As.reverse ++ .ref (ax 0) :: rest) (hrm : (rest.map fun v => v.category).sum ≤ 8) (d : decode cZ_law pc = .ok (.invokevirtual index, 3))
    (kk : ∀ (r : Int32) (M' : MM), post r M' → wh G (AL G) 4 Q (PZ D cI cZ cL cE ax am w M' Mr) cl sl (pc + 3) lv (.int r :: rest)) : wh G (AL G) 4 Q (PZ D cI cZ cL cE ax am w Mx Mr) cl sl pc lv st :=
  wh_call2 (S := sX D cI cZ cL cE ax w) (P2 := fun H => va_P D vwC (wl (sM D cI cZ am) Mr) H) Z.1 C.1 C.2.2.2.2.1 (fun q h => h) (P2_wl (S := sX D cI cZ cL cE ax w) (S2 := sM D cI cZ am) C.2.2.2.2.2.2) 0 hM (x_lt (by decide)) rfl rfl cw hn hst hrm d (by rw [Z.2.1]; exact hcs) kk
theorem z_callM (Z : ZF G b L xs) (C : ZC G D cI cZ cL cE ax am w) (hcs : cl ≤ 600000 ∧ sl ≤ 7302250) {y : MethodName} {wsC : List Cond} {rm : Room} {As st : List Value} {post : Int32 → MM → Prop} {index n maxL : Nat} {bytes : ByteArray} {rt : Option FieldType} (hM : Ci (gl G) (sM D cI cZ am) y wsC rm (.ref (am 0) :: As) Mr post) (cw : CallW (gR G) (gs G) (gA G) qnZ qnR index y bytes maxL rt wsC rm 0 0 n) (hn : As.length = n) (hst : st = As.reverse ++ .ref (am 0) :: rest) (hrm : (rest.map fun v => v.category).sum ≤ 8) (d : decode cZ_law pc = .ok (.invokevirtual index, 3))
    (kk : ∀ (r : Int32) (M' : MM), post r M' → wh G (AL G) 4 Q (PZ D cI cZ cL cE ax am w Mx M') cl sl (pc + 3) lv (.int r :: rest)) : wh G (AL G) 4 Q (PZ D cI cZ cL cE ax am w Mx Mr) cl sl pc lv st := by
  refine wh_P (P' := fun H => va_P D vwC (wl (sM D cI cZ am) Mr) H ∧ va_P D vwC (wl (sX D cI cZ cL cE ax w) Mx) H) (fun H h => ⟨h.2, h.1⟩) ?_
  refine wh_call2 (S := sM D cI cZ am) (P2 := fun H => va_P D vwC (wl (sX D cI cZ cL cE ax w) Mx) H) Z.1 C.2.1 C.2.2.2.2.2.1 (fun q h => h) (P2_wl (S := sM D cI cZ am) (S2 := sX D cI cZ cL cE ax w) (fun i hi j hj e => C.2.2.2.2.2.2 j hj i hi e.symm)) 0 hM (show 0 < 15 by decide) rfl rfl cw hn hst hrm d (by rw [Z.2.1]; exact hcs) (fun r M' hp => ?_)
  exact wh_P (P' := PZ D cI cZ cL cE ax am w Mx M') (fun H h => ⟨h.2, h.1⟩) (kk r M' hp)
end ZW
