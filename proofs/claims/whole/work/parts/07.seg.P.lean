set_option maxRecDepth 20000 in
theorem sP_areFree_0 {G : CX} {D : va_G} {cI cZ cL cE : ClassId} {a : Nat → Nat} {w : Nat} {post : Int32 → MM → Prop} (F : FX G (sX D cI cZ cL cE a w) cP_areFree 3 qnP (some .boolean)) (hw : w ≤ 4) (hR : gR G = rmP_areFree) {K2 : MM → Int32 → Int32 → Prop} (hK2 : ∀ (M : MM) (x1 x2 : Int32), K2 M x1 x2 → wx G (sX D cI cZ cL cE a w) 3 (Qxi G (sX D cI cZ cL cE a w) post) M 2 [(0, .ref (a 34)), (1, .int x1), (2, .int x2)] []) {M : MM} {x1 : Int32} (h : K2 M x1 0) : wx G (sX D cI cZ cL cE a w) 3 (Qxi G (sX D cI cZ cL cE a w) post) M 0 [(0, .ref (a 34)), (1, .int x1)] [] := by
  refine wx_iconst (v := 0) F dP_areFree_0 (by decide) ?_
  refine wx_istore_n (lv' := [(2, .int 0), (0, .ref (a 34)), (1, .int x1)]) F dP_areFree_1 rfl (by decide) rfl ?_
  exact wx_lv [1, 2, 0] rfl (hK2 _ _ _ (h))
set_option maxRecDepth 20000 in
theorem sP_areFree_2 {G : CX} {D : va_G} {cI cZ cL cE : ClassId} {a : Nat → Nat} {w : Nat} {post : Int32 → MM → Prop} (F : FX G (sX D cI cZ cL cE a w) cP_areFree 3 qnP (some .boolean)) (hw : w ≤ 4) (hR : gR G = rmP_areFree) {K2 : MM → Int32 → Int32 → Prop} (hK2 : ∀ (M : MM) (x1 x2 : Int32), K2 M x1 x2 → wx G (sX D cI cZ cL cE a w) 3 (Qxi G (sX D cI cZ cL cE a w) post) M 2 [(0, .ref (a 34)), (1, .int x1), (2, .int x2)] []) {M : MM} {x1 x2 : Int32} (h : (4 ≤ x2 → (post 1 M)) ∧ (¬ 4 ≤ x2 → (∃ po2 : Int32 → MM → Prop, Ci (gl G) (sX D cI cZ cL cE a w) yP_isIn wP_isIn rmP_isIn [.int x1, .int x2] M po2 ∧ ∀ (r5 : Int32) (M6 : MM), po2 r5 M6 → ((r5 = 0 → (K2 M6 x1 (x2 + 1))) ∧ (¬ r5 = 0 → (∃ j9 : Nat, x2 = nI j9 ∧ j9 < 4 ∧ (((M6 36 j9) < (M6 35 j9) → (K2 M6 x1 (x2 + 1))) ∧ (¬ (M6 36 j9) < (M6 35 j9) → (post 0 M6))))))))) : wx G (sX D cI cZ cL cE a w) 3 (Qxi G (sX D cI cZ cL cE a w) post) M 2 [(0, .ref (a 34)), (1, .int x1), (2, .int x2)] [] := by
  refine wx_iload_n F 2 dP_areFree_2 rfl rfl ?_
  refine wx_iconst (v := 4) F dP_areFree_3 (by decide) ?_
  refine wx_icmp_ge (tgt := 38) F dP_areFree_4 (by decide) (fun g1 => ?_) (fun g1 => ?_)
  · refine wx_iconst (v := 1) F dP_areFree_38 (by decide) ?_
    exact wx_zret F dP_areFree_39 rfl ((h).1 g1)
  · refine wx_iload_n F 1 dP_areFree_7 rfl rfl ?_
    refine wx_iload_n F 2 dP_areFree_8 rfl rfl ?_
    obtain ⟨po2, c3, h4⟩ := (h).2 g1
    refine wx_callsi F c3 (cw_S F.1.2.2.2.2 lmP_24 cbP_isIn rfl rfl ⟨by rw [hR]; exact Nat.le_of_ble_eq_true rfl, by rw [hR]; exact Nat.le_of_ble_eq_true rfl⟩) rfl rfl (Nat.le_of_ble_eq_true rfl) dP_areFree_9 (fun r5 M6 p7 => ?_)
    refine wx_if_eq (tgt := 32) F dP_areFree_12 (by decide) (fun g8 => ?_) (fun g8 => ?_)
    · refine wx_iinc (lv' := [(2, .int (x2 + 1)), (0, .ref (a 34)), (1, .int x1)]) F 2 dP_areFree_32 rfl (ii1 _) (by decide) rfl ?_
      refine wx_goto (tgt := 2) F dP_areFree_35 (by decide) ?_
      exact wx_lv [1, 2, 0] rfl (hK2 _ _ _ ((h4 r5 M6 p7).1 g8))
    · refine wx_aload_n F 0 dP_areFree_15 rfl rfl ?_
      refine wx_get (ci := 3) (C := qnP) (T := TP) (N := 2) (v := .ref (a 36)) F 34 (x_lt (by decide)) rfl rfl hiP 1 (by decide) rfl lfP_15 rfl dP_areFree_16 ?_
      refine wx_iload_n F 2 dP_areFree_19 rfl rfl ?_
      obtain ⟨j9, e10, b11, h12⟩ := (h4 r5 M6 p7).2 g8
      refine wx_iald (N := 4) F 36 (x_lt (by decide)) rfl 0 rfl e10 b11 (by omega) dP_areFree_20 ?_
      refine wx_aload_n F 0 dP_areFree_21 rfl rfl ?_
      refine wx_get (ci := 3) (C := qnP) (T := TP) (N := 2) (v := .ref (a 35)) F 34 (x_lt (by decide)) rfl rfl hiP 0 (by decide) rfl lfP_9 rfl dP_areFree_22 ?_
      refine wx_iload_n F 2 dP_areFree_25 rfl rfl ?_
      refine wx_iald (N := 4) F 35 (x_lt (by decide)) rfl 0 rfl e10 b11 (by omega) dP_areFree_26 ?_
      refine wx_icmp_lt (tgt := 32) F dP_areFree_27 (by decide) (fun g13 => ?_) (fun g13 => ?_)
      · refine wx_iinc (lv' := [(2, .int (x2 + 1)), (0, .ref (a 34)), (1, .int x1)]) F 2 dP_areFree_32 rfl (ii1 _) (by decide) rfl ?_
        refine wx_goto (tgt := 2) F dP_areFree_35 (by decide) ?_
        exact wx_lv [1, 2, 0] rfl (hK2 _ _ _ ((h12).1 g13))
      · refine wx_iconst (v := 0) F dP_areFree_30 (by decide) ?_
        exact wx_zret F dP_areFree_31 rfl ((h12).2 g13)
theorem oP_areFree {l : Launch} {D : va_G} {cI cZ cL cE : ClassId} {a : Nat → Nat} {w : Nat} {post : Int32 → MM → Prop} (hJ : IJ (sX D cI cZ cL cE a w)) {M : MM} {x1 : Int32} (h : ∀ G : CX, gl G = l → gR G = rmP_areFree → FX G (sX D cI cZ cL cE a w) cP_areFree 3 qnP (some .boolean) → wx G (sX D cI cZ cL cE a w) 3 (Qxi G (sX D cI cZ cL cE a w) post) M 0 [(0, .ref (a 34)), (1, .int x1)] []) : Ci l (sX D cI cZ cL cE a w) yP_areFree wP_areFree rmP_areFree [.ref (a 34), .int x1] M post := Ci.of (cc := cP_areFree) (nL := 3) rfl rfl (Nat.le_of_ble_eq_true rfl) hJ h
set_option maxRecDepth 20000 in
theorem sP_hold_0 {G : CX} {D : va_G} {cI cZ cL cE : ClassId} {a : Nat → Nat} {w : Nat} {post : MM → Prop} (F : FX G (sX D cI cZ cL cE a w) cP_hold 3 qnP none) (hw : w ≤ 4) (hR : gR G = rmP_hold) {K2 : MM → Int32 → Int32 → Prop} (hK2 : ∀ (M : MM) (x1 x2 : Int32), K2 M x1 x2 → wx G (sX D cI cZ cL cE a w) 3 (Qxv G (sX D cI cZ cL cE a w) post) M 2 [(0, .ref (a 34)), (1, .int x1), (2, .int x2)] []) {M : MM} {x1 : Int32} (h : K2 M x1 0) : wx G (sX D cI cZ cL cE a w) 3 (Qxv G (sX D cI cZ cL cE a w) post) M 0 [(0, .ref (a 34)), (1, .int x1)] [] := by
  refine wx_iconst (v := 0) F dP_hold_0 (by decide) ?_
  refine wx_istore_n (lv' := [(2, .int 0), (0, .ref (a 34)), (1, .int x1)]) F dP_hold_1 rfl (by decide) rfl ?_
  exact wx_lv [1, 2, 0] rfl (hK2 _ _ _ (h))
set_option maxRecDepth 20000 in
theorem sP_hold_2 {G : CX} {D : va_G} {cI cZ cL cE : ClassId} {a : Nat → Nat} {w : Nat} {post : MM → Prop} (F : FX G (sX D cI cZ cL cE a w) cP_hold 3 qnP none) (hw : w ≤ 4) (hR : gR G = rmP_hold) {K2 : MM → Int32 → Int32 → Prop} (hK2 : ∀ (M : MM) (x1 x2 : Int32), K2 M x1 x2 → wx G (sX D cI cZ cL cE a w) 3 (Qxv G (sX D cI cZ cL cE a w) post) M 2 [(0, .ref (a 34)), (1, .int x1), (2, .int x2)] []) {M : MM} {x1 x2 : Int32} (h : (4 ≤ x2 → (post M)) ∧ (¬ 4 ≤ x2 → (∃ po2 : Int32 → MM → Prop, Ci (gl G) (sX D cI cZ cL cE a w) yP_isIn wP_isIn rmP_isIn [.int x1, .int x2] M po2 ∧ ∀ (r5 : Int32) (M6 : MM), po2 r5 M6 → ((r5 = 0 → (K2 M6 x1 (x2 + 1))) ∧ (¬ r5 = 0 → (∃ j9 : Nat, x2 = nI j9 ∧ j9 < 4 ∧ (∀ M13 : MM, M13 = mp M6 36 j9 ((M6 36 j9) + 1) → (K2 M13 x1 (x2 + 1))))))))) : wx G (sX D cI cZ cL cE a w) 3 (Qxv G (sX D cI cZ cL cE a w) post) M 2 [(0, .ref (a 34)), (1, .int x1), (2, .int x2)] [] := by
  refine wx_iload_n F 2 dP_hold_2 rfl rfl ?_
  refine wx_iconst (v := 4) F dP_hold_3 (by decide) ?_
  refine wx_icmp_ge (tgt := 31) F dP_hold_4 (by decide) (fun g1 => ?_) (fun g1 => ?_)
  · exact wx_vret F dP_hold_31 ((h).1 g1)
  · refine wx_iload_n F 1 dP_hold_7 rfl rfl ?_
    refine wx_iload_n F 2 dP_hold_8 rfl rfl ?_
    obtain ⟨po2, c3, h4⟩ := (h).2 g1
    refine wx_callsi F c3 (cw_S F.1.2.2.2.2 lmP_24 cbP_isIn rfl rfl ⟨by rw [hR]; exact Nat.le_of_ble_eq_true rfl, by rw [hR]; exact Nat.le_of_ble_eq_true rfl⟩) rfl rfl (Nat.le_of_ble_eq_true rfl) dP_hold_9 (fun r5 M6 p7 => ?_)
    refine wx_if_eq (tgt := 25) F dP_hold_12 (by decide) (fun g8 => ?_) (fun g8 => ?_)
    · refine wx_iinc (lv' := [(2, .int (x2 + 1)), (0, .ref (a 34)), (1, .int x1)]) F 2 dP_hold_25 rfl (ii1 _) (by decide) rfl ?_
      refine wx_goto (tgt := 2) F dP_hold_28 (by decide) ?_
      exact wx_lv [1, 2, 0] rfl (hK2 _ _ _ ((h4 r5 M6 p7).1 g8))
    · refine wx_aload_n F 0 dP_hold_15 rfl rfl ?_
      refine wx_get (ci := 3) (C := qnP) (T := TP) (N := 2) (v := .ref (a 36)) F 34 (x_lt (by decide)) rfl rfl hiP 1 (by decide) rfl lfP_15 rfl dP_hold_16 ?_
      refine wx_iload_n F 2 dP_hold_19 rfl rfl ?_
      refine wx_dup2 F dP_hold_20 rfl rfl ?_
      obtain ⟨j9, e10, b11, h12⟩ := (h4 r5 M6 p7).2 g8
      refine wx_iald (N := 4) F 36 (x_lt (by decide)) rfl 0 rfl e10 b11 (by omega) dP_hold_21 ?_
      refine wx_iconst (v := 1) F dP_hold_22 (by decide) ?_
      refine wx_iadd F dP_hold_23 ?_
      refine wx_iast (N := 4) F 36 (x_lt (by decide)) (fun _ => rfl) 0 rfl e10 b11 (by omega) dP_hold_24 (wx_nm (fun M13 e14 => ?_))
      refine wx_iinc (lv' := [(2, .int (x2 + 1)), (0, .ref (a 34)), (1, .int x1)]) F 2 dP_hold_25 rfl (ii1 _) (by decide) rfl ?_
      refine wx_goto (tgt := 2) F dP_hold_28 (by decide) ?_
      exact wx_lv [1, 2, 0] rfl (hK2 _ _ _ (h12 M13 e14))
theorem oP_hold {l : Launch} {D : va_G} {cI cZ cL cE : ClassId} {a : Nat → Nat} {w : Nat} {post : MM → Prop} (hJ : IJ (sX D cI cZ cL cE a w)) {M : MM} {x1 : Int32} (h : ∀ G : CX, gl G = l → gR G = rmP_hold → FX G (sX D cI cZ cL cE a w) cP_hold 3 qnP none → wx G (sX D cI cZ cL cE a w) 3 (Qxv G (sX D cI cZ cL cE a w) post) M 0 [(0, .ref (a 34)), (1, .int x1)] []) : Cv l (sX D cI cZ cL cE a w) yP_hold wP_hold rmP_hold [.ref (a 34), .int x1] M post := Cv.of (cc := cP_hold) (nL := 3) rfl rfl (Nat.le_of_ble_eq_true rfl) hJ h
set_option maxRecDepth 20000 in
theorem sP_giveBack_0 {G : CX} {D : va_G} {cI cZ cL cE : ClassId} {a : Nat → Nat} {w : Nat} {post : MM → Prop} (F : FX G (sX D cI cZ cL cE a w) cP_giveBack 3 qnP none) (hw : w ≤ 4) (hR : gR G = rmP_giveBack) {K2 : MM → Int32 → Int32 → Prop} (hK2 : ∀ (M : MM) (x1 x2 : Int32), K2 M x1 x2 → wx G (sX D cI cZ cL cE a w) 3 (Qxv G (sX D cI cZ cL cE a w) post) M 2 [(0, .ref (a 34)), (1, .int x1), (2, .int x2)] []) {M : MM} {x1 : Int32} (h : K2 M x1 0) : wx G (sX D cI cZ cL cE a w) 3 (Qxv G (sX D cI cZ cL cE a w) post) M 0 [(0, .ref (a 34)), (1, .int x1)] [] := by
  refine wx_iconst (v := 0) F dP_giveBack_0 (by decide) ?_
  refine wx_istore_n (lv' := [(2, .int 0), (0, .ref (a 34)), (1, .int x1)]) F dP_giveBack_1 rfl (by decide) rfl ?_
  exact wx_lv [1, 2, 0] rfl (hK2 _ _ _ (h))
set_option maxRecDepth 20000 in
theorem sP_giveBack_2 {G : CX} {D : va_G} {cI cZ cL cE : ClassId} {a : Nat → Nat} {w : Nat} {post : MM → Prop} (F : FX G (sX D cI cZ cL cE a w) cP_giveBack 3 qnP none) (hw : w ≤ 4) (hR : gR G = rmP_giveBack) {K2 : MM → Int32 → Int32 → Prop} (hK2 : ∀ (M : MM) (x1 x2 : Int32), K2 M x1 x2 → wx G (sX D cI cZ cL cE a w) 3 (Qxv G (sX D cI cZ cL cE a w) post) M 2 [(0, .ref (a 34)), (1, .int x1), (2, .int x2)] []) {M : MM} {x1 x2 : Int32} (h : (4 ≤ x2 → (post M)) ∧ (¬ 4 ≤ x2 → (∃ po2 : Int32 → MM → Prop, Ci (gl G) (sX D cI cZ cL cE a w) yP_isIn wP_isIn rmP_isIn [.int x1, .int x2] M po2 ∧ ∀ (r5 : Int32) (M6 : MM), po2 r5 M6 → ((r5 = 0 → (K2 M6 x1 (x2 + 1))) ∧ (¬ r5 = 0 → (∃ j9 : Nat, x2 = nI j9 ∧ j9 < 4 ∧ (∀ M13 : MM, M13 = mp M6 36 j9 ((M6 36 j9) - 1) → (K2 M13 x1 (x2 + 1))))))))) : wx G (sX D cI cZ cL cE a w) 3 (Qxv G (sX D cI cZ cL cE a w) post) M 2 [(0, .ref (a 34)), (1, .int x1), (2, .int x2)] [] := by
  refine wx_iload_n F 2 dP_giveBack_2 rfl rfl ?_
  refine wx_iconst (v := 4) F dP_giveBack_3 (by decide) ?_
  refine wx_icmp_ge (tgt := 31) F dP_giveBack_4 (by decide) (fun g1 => ?_) (fun g1 => ?_)
  · exact wx_vret F dP_giveBack_31 ((h).1 g1)
  · refine wx_iload_n F 1 dP_giveBack_7 rfl rfl ?_
    refine wx_iload_n F 2 dP_giveBack_8 rfl rfl ?_
    obtain ⟨po2, c3, h4⟩ := (h).2 g1
    refine wx_callsi F c3 (cw_S F.1.2.2.2.2 lmP_24 cbP_isIn rfl rfl ⟨by rw [hR]; exact Nat.le_of_ble_eq_true rfl, by rw [hR]; exact Nat.le_of_ble_eq_true rfl⟩) rfl rfl (Nat.le_of_ble_eq_true rfl) dP_giveBack_9 (fun r5 M6 p7 => ?_)
    refine wx_if_eq (tgt := 25) F dP_giveBack_12 (by decide) (fun g8 => ?_) (fun g8 => ?_)
    · refine wx_iinc (lv' := [(2, .int (x2 + 1)), (0, .ref (a 34)), (1, .int x1)]) F 2 dP_giveBack_25 rfl (ii1 _) (by decide) rfl ?_
      refine wx_goto (tgt := 2) F dP_giveBack_28 (by decide) ?_
      exact wx_lv [1, 2, 0] rfl (hK2 _ _ _ ((h4 r5 M6 p7).1 g8))
    · refine wx_aload_n F 0 dP_giveBack_15 rfl rfl ?_
      refine wx_get (ci := 3) (C := qnP) (T := TP) (N := 2) (v := .ref (a 36)) F 34 (x_lt (by decide)) rfl rfl hiP 1 (by decide) rfl lfP_15 rfl dP_giveBack_16 ?_
      refine wx_iload_n F 2 dP_giveBack_19 rfl rfl ?_
      refine wx_dup2 F dP_giveBack_20 rfl rfl ?_
      obtain ⟨j9, e10, b11, h12⟩ := (h4 r5 M6 p7).2 g8
      refine wx_iald (N := 4) F 36 (x_lt (by decide)) rfl 0 rfl e10 b11 (by omega) dP_giveBack_21 ?_
      refine wx_iconst (v := 1) F dP_giveBack_22 (by decide) ?_
      refine wx_isub F dP_giveBack_23 ?_
      refine wx_iast (N := 4) F 36 (x_lt (by decide)) (fun _ => rfl) 0 rfl e10 b11 (by omega) dP_giveBack_24 (wx_nm (fun M13 e14 => ?_))
      refine wx_iinc (lv' := [(2, .int (x2 + 1)), (0, .ref (a 34)), (1, .int x1)]) F 2 dP_giveBack_25 rfl (ii1 _) (by decide) rfl ?_
      refine wx_goto (tgt := 2) F dP_giveBack_28 (by decide) ?_
      exact wx_lv [1, 2, 0] rfl (hK2 _ _ _ (h12 M13 e14))
theorem oP_giveBack {l : Launch} {D : va_G} {cI cZ cL cE : ClassId} {a : Nat → Nat} {w : Nat} {post : MM → Prop} (hJ : IJ (sX D cI cZ cL cE a w)) {M : MM} {x1 : Int32} (h : ∀ G : CX, gl G = l → gR G = rmP_giveBack → FX G (sX D cI cZ cL cE a w) cP_giveBack 3 qnP none → wx G (sX D cI cZ cL cE a w) 3 (Qxv G (sX D cI cZ cL cE a w) post) M 0 [(0, .ref (a 34)), (1, .int x1)] []) : Cv l (sX D cI cZ cL cE a w) yP_giveBack wP_giveBack rmP_giveBack [.ref (a 34), .int x1] M post := Cv.of (cc := cP_giveBack) (nL := 3) rfl rfl (Nat.le_of_ble_eq_true rfl) hJ h
set_option maxRecDepth 20000 in
theorem sP_isIn_0 {G : CX} {D : va_G} {cI cZ cL cE : ClassId} {a : Nat → Nat} {w : Nat} {post : Int32 → MM → Prop} (F : FX G (sX D cI cZ cL cE a w) cP_isIn 2 qnP (some .boolean)) (hw : w ≤ 4) (hR : gR G = rmP_isIn) {M : MM} {x0 x1 : Int32} (h : ((x0 &&& (1 <<< (x1 &&& 31))) = 0 → (post 0 M)) ∧ (¬ (x0 &&& (1 <<< (x1 &&& 31))) = 0 → (post 1 M))) : wx G (sX D cI cZ cL cE a w) 2 (Qxi G (sX D cI cZ cL cE a w) post) M 0 [(0, .int x0), (1, .int x1)] [] := by
  refine wx_iload_n F 0 dP_isIn_0 rfl rfl ?_
  refine wx_iconst (v := 1) F dP_isIn_1 (by decide) ?_
  refine wx_iload_n F 1 dP_isIn_2 rfl rfl ?_
  refine wx_ishl F dP_isIn_3 ?_
  refine wx_iand F dP_isIn_4 ?_
  refine wx_if_eq (tgt := 12) F dP_isIn_5 (by decide) (fun g1 => ?_) (fun g1 => ?_)
  · refine wx_iconst (v := 0) F dP_isIn_12 (by decide) ?_
    exact wx_zret F dP_isIn_13 rfl ((h).1 g1)
  · refine wx_iconst (v := 1) F dP_isIn_8 (by decide) ?_
    refine wx_goto (tgt := 13) F dP_isIn_9 (by decide) ?_
    exact wx_zret F dP_isIn_13 rfl ((h).2 g1)
theorem oP_isIn {l : Launch} {D : va_G} {cI cZ cL cE : ClassId} {a : Nat → Nat} {w : Nat} {post : Int32 → MM → Prop} (hJ : IJ (sX D cI cZ cL cE a w)) (hw : w ≤ 4) {M : MM} {x0 x1 : Int32} (h : ((x0 &&& (1 <<< (x1 &&& 31))) = 0 → (post 0 M)) ∧ (¬ (x0 &&& (1 <<< (x1 &&& 31))) = 0 → (post 1 M))) : Ci l (sX D cI cZ cL cE a w) yP_isIn wP_isIn rmP_isIn [.int x0, .int x1] M post := Ci.of (cc := cP_isIn) (nL := 2) rfl rfl (Nat.le_of_ble_eq_true rfl) hJ (fun G hl hR F => by subst hl; exact sP_isIn_0 F hw hR h)
