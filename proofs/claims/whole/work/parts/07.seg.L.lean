set_option maxRecDepth 20000 in
theorem sL_taskAt_0 {G : CX} {D : va_G} {cI cZ cL cE : ClassId} {a : Nat → Nat} {w : Nat} {post : Int32 → MM → Prop} (F : FX G (sX D cI cZ cL cE a w) cL_taskAt 2 qnL (some .int)) (hw : w ≤ 4) {i : Nat} (hi : i < w + 2) (hR : gR G = rmL_taskAt) {M : MM} {x1 : Int32} (h : (x1 < 0 → (post (-1) M)) ∧ (¬ x1 < 0 → ((x1 < (M (43 + 2 * i) 1) → (∃ j3 : Nat, x1 = nI j3 ∧ j3 < 24 ∧ (post (M ((43 + 2 * i) + 1) j3) M))) ∧ (¬ x1 < (M (43 + 2 * i) 1) → (post (-1) M))))) : wx G (sX D cI cZ cL cE a w) 2 (Qxi G (sX D cI cZ cL cE a w) post) M 0 [(0, .ref (a (43 + 2 * i))), (1, .int x1)] [] := by
  refine wx_iload_n F 1 dL_taskAt_0 rfl rfl ?_
  refine wx_if_lt (tgt := 12) F dL_taskAt_1 (by decide) (fun g1 => ?_) (fun g1 => ?_)
  · refine wx_iconst (v := (-1)) F dL_taskAt_12 (by decide) ?_
    refine wx_goto (tgt := 22) F dL_taskAt_13 (by decide) ?_
    exact wx_iret F dL_taskAt_22 ((h).1 g1)
  · refine wx_iload_n F 1 dL_taskAt_4 rfl rfl ?_
    refine wx_aload_n F 0 dL_taskAt_5 rfl rfl ?_
    refine wx_get (ci := 2) (C := qnL) (T := TL) (N := 2) (v := .int (M (43 + 2 * i) 1)) F (43 + 2 * i) (x_ltL (i := i) (by omega)) (x_cL i _) rfl hiL 1 (by decide) rfl lfL_15 rfl dL_taskAt_6 ?_
    refine wx_icmp_lt (tgt := 16) F dL_taskAt_9 (by decide) (fun g2 => ?_) (fun g2 => ?_)
    · refine wx_aload_n F 0 dL_taskAt_16 rfl rfl ?_
      refine wx_get (ci := 2) (C := qnL) (T := TL) (N := 2) (v := .ref (a ((43 + 2 * i) + 1))) F (43 + 2 * i) (x_ltL (i := i) (by omega)) (x_cL i _) rfl hiL 0 (by decide) rfl lfL_9 rfl dL_taskAt_17 ?_
      refine wx_iload_n F 1 dL_taskAt_20 rfl rfl ?_
      obtain ⟨j3, e4, b5, h6⟩ := ((h).2 g1).1 g2
      refine wx_iald (N := 24) F ((43 + 2 * i) + 1) (x_ltT (i := i) (by omega)) (x_cT i _) 0 rfl e4 b5 (by omega) dL_taskAt_21 ?_
      exact wx_iret F dL_taskAt_22 (h6)
    · refine wx_iconst (v := (-1)) F dL_taskAt_12 (by decide) ?_
      refine wx_goto (tgt := 22) F dL_taskAt_13 (by decide) ?_
      exact wx_iret F dL_taskAt_22 (((h).2 g1).2 g2)
theorem oL_taskAt {l : Launch} {D : va_G} {cI cZ cL cE : ClassId} {a : Nat → Nat} {w : Nat} {post : Int32 → MM → Prop} (hJ : IJ (sX D cI cZ cL cE a w)) (hw : w ≤ 4) {i : Nat} (hi : i < w + 2) {M : MM} {x1 : Int32} (h : (x1 < 0 → (post (-1) M)) ∧ (¬ x1 < 0 → ((x1 < (M (43 + 2 * i) 1) → (∃ j3 : Nat, x1 = nI j3 ∧ j3 < 24 ∧ (post (M ((43 + 2 * i) + 1) j3) M))) ∧ (¬ x1 < (M (43 + 2 * i) 1) → (post (-1) M))))) : Ci l (sX D cI cZ cL cE a w) yL_taskAt wL_taskAt rmL_taskAt [.ref (a (43 + 2 * i)), .int x1] M post := Ci.of (cc := cL_taskAt) (nL := 2) rfl rfl (Nat.le_of_ble_eq_true rfl) hJ (fun G hl hR F => by subst hl; exact sL_taskAt_0 F hw hi hR h)
set_option maxRecDepth 20000 in
theorem sL_append_0 {G : CX} {D : va_G} {cI cZ cL cE : ClassId} {a : Nat → Nat} {w : Nat} {post : MM → Prop} (F : FX G (sX D cI cZ cL cE a w) cL_append 2 qnL none) (hw : w ≤ 4) {i : Nat} (hi : i < w + 2) (hR : gR G = rmL_append) {M : MM} {x1 : Int32} (h : (24 ≤ (M (43 + 2 * i) 1) → (post M)) ∧ (¬ 24 ≤ (M (43 + 2 * i) 1) → (∃ j4 : Nat, (M (43 + 2 * i) 1) = nI j4 ∧ j4 < 24 ∧ (∀ M2 : MM, M2 = mp M ((43 + 2 * i) + 1) j4 x1 → (∀ M8 : MM, M8 = mp M2 (43 + 2 * i) 1 ((M2 (43 + 2 * i) 1) + 1) → (post M8)))))) : wx G (sX D cI cZ cL cE a w) 2 (Qxv G (sX D cI cZ cL cE a w) post) M 0 [(0, .ref (a (43 + 2 * i))), (1, .int x1)] [] := by
  refine wx_aload_n F 0 dL_append_0 rfl rfl ?_
  refine wx_get (ci := 2) (C := qnL) (T := TL) (N := 2) (v := .int (M (43 + 2 * i) 1)) F (43 + 2 * i) (x_ltL (i := i) (by omega)) (x_cL i _) rfl hiL 1 (by decide) rfl lfL_15 rfl dL_append_1 ?_
  refine wx_aload_n F 0 dL_append_4 rfl rfl ?_
  refine wx_get (ci := 2) (C := qnL) (T := TL) (N := 2) (v := .ref (a ((43 + 2 * i) + 1))) F (43 + 2 * i) (x_ltL (i := i) (by omega)) (x_cL i _) rfl hiL 0 (by decide) rfl lfL_9 rfl dL_append_5 ?_
  refine wx_alen (N := 24) (v := 24) F ((43 + 2 * i) + 1) (x_ltT (i := i) (by omega)) (x_cT i _) 0 rfl (by decide) dL_append_8 ?_
  refine wx_icmp_ge (tgt := 32) F dL_append_9 (by decide) (fun g1 => ?_) (fun g1 => ?_)
  · exact wx_vret F dL_append_32 ((h).1 g1)
  · refine wx_aload_n F 0 dL_append_12 rfl rfl ?_
    refine wx_get (ci := 2) (C := qnL) (T := TL) (N := 2) (v := .ref (a ((43 + 2 * i) + 1))) F (43 + 2 * i) (x_ltL (i := i) (by omega)) (x_cL i _) rfl hiL 0 (by decide) rfl lfL_9 rfl dL_append_13 ?_
    refine wx_aload_n F 0 dL_append_16 rfl rfl ?_
    refine wx_get (ci := 2) (C := qnL) (T := TL) (N := 2) (v := .int (M (43 + 2 * i) 1)) F (43 + 2 * i) (x_ltL (i := i) (by omega)) (x_cL i _) rfl hiL 1 (by decide) rfl lfL_15 rfl dL_append_17 ?_
    refine wx_iload_n F 1 dL_append_20 rfl rfl ?_
    obtain ⟨j4, e5, b6, h7⟩ := (h).2 g1
    refine wx_iast (N := 24) F ((43 + 2 * i) + 1) (x_ltT (i := i) (by omega)) (fun _ => (x_cT i _)) 0 rfl e5 b6 (by omega) dL_append_21 (wx_nm (fun M2 e3 => ?_))
    refine wx_aload_n F 0 dL_append_22 rfl rfl ?_
    refine wx_dup F dL_append_23 rfl ?_
    refine wx_get (ci := 2) (C := qnL) (T := TL) (N := 2) (v := .int (M2 (43 + 2 * i) 1)) F (43 + 2 * i) (x_ltL (i := i) (by omega)) (x_cL i _) rfl hiL 1 (by decide) rfl lfL_15 rfl dL_append_24 ?_
    refine wx_iconst (v := 1) F dL_append_27 (by decide) ?_
    refine wx_iadd F dL_append_28 ?_
    refine wx_put (ci := 2) (C := qnL) (T := TL) (N := 2) (ty := .int) F (43 + 2 * i) (x_ltL (i := i) (by omega)) (x_cL i _) rfl hiL tyL tyL_ok nmL 1 (by decide) rfl lfL_15 rfl (by decide +kernel) rfl rfl (Nat.le_of_ble_eq_true rfl) (x_cL i _) dL_append_29 (wx_nm (fun M8 e9 => ?_))
    exact wx_vret F dL_append_32 ((h7 M2 e3) M8 e9)
theorem oL_append {l : Launch} {D : va_G} {cI cZ cL cE : ClassId} {a : Nat → Nat} {w : Nat} {post : MM → Prop} (hJ : IJ (sX D cI cZ cL cE a w)) (hw : w ≤ 4) {i : Nat} (hi : i < w + 2) {M : MM} {x1 : Int32} (h : (24 ≤ (M (43 + 2 * i) 1) → (post M)) ∧ (¬ 24 ≤ (M (43 + 2 * i) 1) → (∃ j4 : Nat, (M (43 + 2 * i) 1) = nI j4 ∧ j4 < 24 ∧ (∀ M2 : MM, M2 = mp M ((43 + 2 * i) + 1) j4 x1 → (∀ M8 : MM, M8 = mp M2 (43 + 2 * i) 1 ((M2 (43 + 2 * i) 1) + 1) → (post M8)))))) : Cv l (sX D cI cZ cL cE a w) yL_append wL_append rmL_append [.ref (a (43 + 2 * i)), .int x1] M post := Cv.of (cc := cL_append) (nL := 2) rfl rfl (Nat.le_of_ble_eq_true rfl) hJ (fun G hl hR F => by subst hl; exact sL_append_0 F hw hi hR h)
set_option maxRecDepth 20000 in
theorem sL_takeOut_0 {G : CX} {D : va_G} {cI cZ cL cE : ClassId} {a : Nat → Nat} {w : Nat} {post : Int32 → MM → Prop} (F : FX G (sX D cI cZ cL cE a w) cL_takeOut 4 qnL (some .int)) (hw : w ≤ 4) {i : Nat} (hi : i < w + 2) (hR : gR G = rmL_takeOut) {K25 : MM → Int32 → Int32 → Int32 → Prop} (hK25 : ∀ (M : MM) (x1 x2 x3 : Int32), K25 M x1 x2 x3 → wx G (sX D cI cZ cL cE a w) 4 (Qxi G (sX D cI cZ cL cE a w) post) M 25 [(0, .ref (a (43 + 2 * i))), (1, .int x1), (2, .int x2), (3, .int x3)] []) {M : MM} {x1 : Int32} (h : ∃ po1 : Int32 → MM → Prop, Ci (gl G) (sX D cI cZ cL cE a w) yL_taskAt wL_taskAt rmL_taskAt [.ref (a (43 + 2 * i)), .int x1] M po1 ∧ ∀ (r4 : Int32) (M5 : MM), po1 r4 M5 → ((¬ r4 = (-1) → (∀ M8 : MM, M8 = mp M5 (43 + 2 * i) 1 ((M5 (43 + 2 * i) 1) - 1) → (K25 M8 x1 r4 x1))) ∧ (r4 = (-1) → (post (-1) M5)))) : wx G (sX D cI cZ cL cE a w) 4 (Qxi G (sX D cI cZ cL cE a w) post) M 0 [(0, .ref (a (43 + 2 * i))), (1, .int x1)] [] := by
  refine wx_aload_n F 0 dL_takeOut_0 rfl rfl ?_
  refine wx_iload_n F 1 dL_takeOut_1 rfl rfl ?_
  obtain ⟨po1, c2, h3⟩ := h
  refine wx_calli F (43 + 2 * i) c2 (x_ltL (i := i) (by omega)) (x_cL i _) rfl (cw_V F.1.2.2.2.2 lmL_19 cbL_taskAt rfl rfl ⟨by rw [hR]; exact Nat.le_of_ble_eq_true rfl, by rw [hR]; exact Nat.le_of_ble_eq_true rfl⟩) rfl rfl (Nat.le_of_ble_eq_true rfl) dL_takeOut_2 (fun r4 M5 p6 => ?_)
  refine wx_istore_n (lv' := [(2, .int r4), (0, .ref (a (43 + 2 * i))), (1, .int x1)]) F dL_takeOut_5 rfl (by decide) rfl ?_
  refine wx_iload_n F 0 dL_takeOut_6 rfl rfl ?_
  refine wx_iconst (v := (-1)) F dL_takeOut_7 (by decide) ?_
  refine wx_icmp_ne (tgt := 13) F dL_takeOut_8 (by decide) (fun g7 => ?_) (fun g7 => ?_)
  · refine wx_aload_n F 1 dL_takeOut_13 rfl rfl ?_
    refine wx_dup F dL_takeOut_14 rfl ?_
    refine wx_get (ci := 2) (C := qnL) (T := TL) (N := 2) (v := .int (M5 (43 + 2 * i) 1)) F (43 + 2 * i) (x_ltL (i := i) (by omega)) (x_cL i _) rfl hiL 1 (by decide) rfl lfL_15 rfl dL_takeOut_15 ?_
    refine wx_iconst (v := 1) F dL_takeOut_18 (by decide) ?_
    refine wx_isub F dL_takeOut_19 ?_
    refine wx_put (ci := 2) (C := qnL) (T := TL) (N := 2) (ty := .int) F (43 + 2 * i) (x_ltL (i := i) (by omega)) (x_cL i _) rfl hiL tyL tyL_ok nmL 1 (by decide) rfl lfL_15 rfl (by decide +kernel) rfl rfl (Nat.le_of_ble_eq_true rfl) (x_cL i _) dL_takeOut_20 (wx_nm (fun M8 e9 => ?_))
    refine wx_iload_n F 2 dL_takeOut_23 rfl rfl ?_
    refine wx_istore_n (lv' := [(3, .int x1), (2, .int r4), (0, .ref (a (43 + 2 * i))), (1, .int x1)]) F dL_takeOut_24 rfl (by decide) rfl ?_
    exact wx_lv [2, 3, 1, 0] rfl (hK25 _ _ _ _ (((h3 r4 M5 p6).1 g7) M8 e9))
  · refine wx_iconst (v := (-1)) F dL_takeOut_11 (by decide) ?_
    exact wx_iret F dL_takeOut_12 ((h3 r4 M5 p6).2 g7)
set_option maxRecDepth 20000 in
theorem sL_takeOut_25 {G : CX} {D : va_G} {cI cZ cL cE : ClassId} {a : Nat → Nat} {w : Nat} {post : Int32 → MM → Prop} (F : FX G (sX D cI cZ cL cE a w) cL_takeOut 4 qnL (some .int)) (hw : w ≤ 4) {i : Nat} (hi : i < w + 2) (hR : gR G = rmL_takeOut) {K25 : MM → Int32 → Int32 → Int32 → Prop} (hK25 : ∀ (M : MM) (x1 x2 x3 : Int32), K25 M x1 x2 x3 → wx G (sX D cI cZ cL cE a w) 4 (Qxi G (sX D cI cZ cL cE a w) post) M 25 [(0, .ref (a (43 + 2 * i))), (1, .int x1), (2, .int x2), (3, .int x3)] []) {M : MM} {x1 x2 x3 : Int32} (h : ((M (43 + 2 * i) 1) ≤ x3 → (post x2 M)) ∧ (¬ (M (43 + 2 * i) 1) ≤ x3 → (∃ j2 : Nat, (x3 + 1) = nI j2 ∧ j2 < 24 ∧ (∃ j8 : Nat, x3 = nI j8 ∧ j8 < 24 ∧ (∀ M6 : MM, M6 = mp M ((43 + 2 * i) + 1) j8 (M ((43 + 2 * i) + 1) j2) → (K25 M6 x1 x2 (x3 + 1))))))) : wx G (sX D cI cZ cL cE a w) 4 (Qxi G (sX D cI cZ cL cE a w) post) M 25 [(0, .ref (a (43 + 2 * i))), (1, .int x1), (2, .int x2), (3, .int x3)] [] := by
  refine wx_iload_n F 3 dL_takeOut_25 rfl rfl ?_
  refine wx_aload_n F 0 dL_takeOut_26 rfl rfl ?_
  refine wx_get (ci := 2) (C := qnL) (T := TL) (N := 2) (v := .int (M (43 + 2 * i) 1)) F (43 + 2 * i) (x_ltL (i := i) (by omega)) (x_cL i _) rfl hiL 1 (by decide) rfl lfL_15 rfl dL_takeOut_27 ?_
  refine wx_icmp_ge (tgt := 53) F dL_takeOut_30 (by decide) (fun g1 => ?_) (fun g1 => ?_)
  · refine wx_iload_n F 2 dL_takeOut_53 rfl rfl ?_
    exact wx_iret F dL_takeOut_54 ((h).1 g1)
  · refine wx_aload_n F 0 dL_takeOut_33 rfl rfl ?_
    refine wx_get (ci := 2) (C := qnL) (T := TL) (N := 2) (v := .ref (a ((43 + 2 * i) + 1))) F (43 + 2 * i) (x_ltL (i := i) (by omega)) (x_cL i _) rfl hiL 0 (by decide) rfl lfL_9 rfl dL_takeOut_34 ?_
    refine wx_iload_n F 3 dL_takeOut_37 rfl rfl ?_
    refine wx_aload_n F 0 dL_takeOut_38 rfl rfl ?_
    refine wx_get (ci := 2) (C := qnL) (T := TL) (N := 2) (v := .ref (a ((43 + 2 * i) + 1))) F (43 + 2 * i) (x_ltL (i := i) (by omega)) (x_cL i _) rfl hiL 0 (by decide) rfl lfL_9 rfl dL_takeOut_39 ?_
    refine wx_iload_n F 3 dL_takeOut_42 rfl rfl ?_
    refine wx_iconst (v := 1) F dL_takeOut_43 (by decide) ?_
    refine wx_iadd F dL_takeOut_44 ?_
    obtain ⟨j2, e3, b4, h5⟩ := (h).2 g1
    refine wx_iald (N := 24) F ((43 + 2 * i) + 1) (x_ltT (i := i) (by omega)) (x_cT i _) 0 rfl e3 b4 (by omega) dL_takeOut_45 ?_
    obtain ⟨j8, e9, b10, h11⟩ := h5
    refine wx_iast (N := 24) F ((43 + 2 * i) + 1) (x_ltT (i := i) (by omega)) (fun _ => (x_cT i _)) 0 rfl e9 b10 (by omega) dL_takeOut_46 (wx_nm (fun M6 e7 => ?_))
    refine wx_iinc (lv' := [(3, .int (x3 + 1)), (0, .ref (a (43 + 2 * i))), (1, .int x1), (2, .int x2)]) F 3 dL_takeOut_47 rfl (ii1 _) (by decide) rfl ?_
    refine wx_goto (tgt := 25) F dL_takeOut_50 (by decide) ?_
    exact wx_lv [1, 2, 3, 0] rfl (hK25 _ _ _ _ (h11 M6 e7))
theorem oL_takeOut {l : Launch} {D : va_G} {cI cZ cL cE : ClassId} {a : Nat → Nat} {w : Nat} {post : Int32 → MM → Prop} (hJ : IJ (sX D cI cZ cL cE a w)) {M : MM} {i : Nat} {x1 : Int32} (h : ∀ G : CX, gl G = l → gR G = rmL_takeOut → FX G (sX D cI cZ cL cE a w) cL_takeOut 4 qnL (some .int) → wx G (sX D cI cZ cL cE a w) 4 (Qxi G (sX D cI cZ cL cE a w) post) M 0 [(0, .ref (a (43 + 2 * i))), (1, .int x1)] []) : Ci l (sX D cI cZ cL cE a w) yL_takeOut wL_takeOut rmL_takeOut [.ref (a (43 + 2 * i)), .int x1] M post := Ci.of (cc := cL_takeOut) (nL := 4) rfl rfl (Nat.le_of_ble_eq_true rfl) hJ h
