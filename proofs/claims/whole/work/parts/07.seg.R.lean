set_option maxRecDepth 20000 in
theorem sR_isTask_0 {G : CX} {D : va_G} {cI cZ : ClassId} {a : Nat → Nat} {post : Int32 → MM → Prop} (F : FX G (sM D cI cZ a) cR_isTask 2 qnR (some .boolean)) (hR : gR G = rmR_isTask) {M : MM} {x1 : Int32} (h : (x1 < 0 → (post 0 M)) ∧ (¬ x1 < 0 → (((M 0 1) ≤ x1 → (post 0 M)) ∧ (¬ (M 0 1) ≤ x1 → (post 1 M))))) : wx G (sM D cI cZ a) 2 (Qxi G (sM D cI cZ a) post) M 0 [(0, .ref (a 0)), (1, .int x1)] [] := by
  refine wx_iload_n F 1 dR_isTask_0 rfl rfl ?_
  refine wx_if_lt (tgt := 16) F dR_isTask_1 (by decide) (fun g1 => ?_) (fun g1 => ?_)
  · refine wx_iconst (v := 0) F dR_isTask_16 (by decide) ?_
    exact wx_zret F dR_isTask_17 rfl ((h).1 g1)
  · refine wx_iload_n F 1 dR_isTask_4 rfl rfl ?_
    refine wx_aload_n F 0 dR_isTask_5 rfl rfl ?_
    refine wx_get (ci := 4) (C := qnR) (T := TR) (N := 25) (v := .int (M 0 1)) F 0 (Nat.le_of_ble_eq_true rfl) rfl rfl hiR 1 (by decide) rfl lfR_60 rfl dR_isTask_6 ?_
    refine wx_icmp_ge (tgt := 16) F dR_isTask_9 (by decide) (fun g2 => ?_) (fun g2 => ?_)
    · refine wx_iconst (v := 0) F dR_isTask_16 (by decide) ?_
      exact wx_zret F dR_isTask_17 rfl (((h).2 g1).1 g2)
    · refine wx_iconst (v := 1) F dR_isTask_12 (by decide) ?_
      refine wx_goto (tgt := 17) F dR_isTask_13 (by decide) ?_
      exact wx_zret F dR_isTask_17 rfl (((h).2 g1).2 g2)
theorem oR_isTask {l : Launch} {D : va_G} {cI cZ : ClassId} {a : Nat → Nat} {post : Int32 → MM → Prop} (hJ : IJ (sM D cI cZ a)) {M : MM} {x1 : Int32} (h : (x1 < 0 → (post 0 M)) ∧ (¬ x1 < 0 → (((M 0 1) ≤ x1 → (post 0 M)) ∧ (¬ (M 0 1) ≤ x1 → (post 1 M))))) : Ci l (sM D cI cZ a) yR_isTask wR_isTask rmR_isTask [.ref (a 0), .int x1] M post := Ci.of (cc := cR_isTask) (nL := 2) rfl rfl (Nat.le_of_ble_eq_true rfl) hJ (fun G hl hR F => by subst hl; exact sR_isTask_0 F hR h)
set_option maxRecDepth 20000 in
theorem sR_add_0 {G : CX} {D : va_G} {cI cZ : ClassId} {a : Nat → Nat} {post : Int32 → MM → Prop} (F : FX G (sM D cI cZ a) cR_add 5 qnR (some .int)) (hR : gR G = rmR_add) {K40 : MM → Int32 → Int32 → Int32 → Int32 → Prop} (hK40 : ∀ (M : MM) (x1 x2 x3 x4 : Int32), K40 M x1 x2 x3 x4 → wx G (sM D cI cZ a) 5 (Qxi G (sM D cI cZ a) post) M 40 [(0, .ref (a 0)), (1, .int x1), (2, .int x2), (3, .int x3), (4, .int x4)] []) {M : MM} {x1 x2 x3 : Int32} (h : (x2 = (-1) → (K40 M x1 x2 x3 1)) ∧ (¬ x2 = (-1) → (∃ po2 : Int32 → MM → Prop, Ci (gl G) (sM D cI cZ a) yR_isTask wR_isTask rmR_isTask [.ref (a 0), .int x2] M po2 ∧ ∀ (r5 : Int32) (M6 : MM), po2 r5 M6 → ((r5 = 0 → (K40 M6 x1 x2 x3 0)) ∧ (¬ r5 = 0 → (∃ j9 : Nat, x2 = nI j9 ∧ j9 < 24 ∧ (((M6 1 j9) < 2 → (K40 M6 x1 x2 x3 0)) ∧ (¬ (M6 1 j9) < 2 → ((3 ≤ (M6 3 j9) → (K40 M6 x1 x2 x3 0)) ∧ (¬ 3 ≤ (M6 3 j9) → (K40 M6 x1 x2 x3 1))))))))))) : wx G (sM D cI cZ a) 5 (Qxi G (sM D cI cZ a) post) M 0 [(0, .ref (a 0)), (1, .int x1), (2, .int x2), (3, .int x3)] [] := by
  refine wx_iload_n F 2 dR_add_0 rfl rfl ?_
  refine wx_iconst (v := (-1)) F dR_add_1 (by decide) ?_
  refine wx_icmp_eq (tgt := 33) F dR_add_2 (by decide) (fun g1 => ?_) (fun g1 => ?_)
  · refine wx_iconst (v := 1) F dR_add_33 (by decide) ?_
    refine wx_goto (tgt := 38) F dR_add_34 (by decide) ?_
    refine wx_istore (lv' := [(4, .int 1), (0, .ref (a 0)), (1, .int x1), (2, .int x2), (3, .int x3)]) F dR_add_38 (by decide) rfl ?_
    exact wx_lv [1, 2, 3, 4, 0] rfl (hK40 _ _ _ _ _ ((h).1 g1))
  · refine wx_aload_n F 0 dR_add_5 rfl rfl ?_
    refine wx_iload_n F 2 dR_add_6 rfl rfl ?_
    obtain ⟨po2, c3, h4⟩ := (h).2 g1
    refine wx_calli F 0 c3 (Nat.le_of_ble_eq_true rfl) rfl rfl (cw_V F.1.2.2.2.2 lmR_63 cbR_isTask rfl rfl ⟨by rw [hR]; exact Nat.le_of_ble_eq_true rfl, by rw [hR]; exact Nat.le_of_ble_eq_true rfl⟩) rfl rfl (Nat.le_of_ble_eq_true rfl) dR_add_7 (fun r5 M6 p7 => ?_)
    refine wx_if_eq (tgt := 37) F dR_add_10 (by decide) (fun g8 => ?_) (fun g8 => ?_)
    · refine wx_iconst (v := 0) F dR_add_37 (by decide) ?_
      refine wx_istore (lv' := [(4, .int 0), (0, .ref (a 0)), (1, .int x1), (2, .int x2), (3, .int x3)]) F dR_add_38 (by decide) rfl ?_
      exact wx_lv [1, 2, 3, 4, 0] rfl (hK40 _ _ _ _ _ ((h4 r5 M6 p7).1 g8))
    · refine wx_aload_n F 0 dR_add_13 rfl rfl ?_
      refine wx_get (ci := 4) (C := qnR) (T := TR) (N := 25) (v := .ref (a 1)) F 0 (Nat.le_of_ble_eq_true rfl) rfl rfl hiR 2 (by decide) rfl lfR_7 rfl dR_add_14 ?_
      refine wx_iload_n F 2 dR_add_17 rfl rfl ?_
      obtain ⟨j9, e10, b11, h12⟩ := (h4 r5 M6 p7).2 g8
      refine wx_iald (N := 24) F 1 (Nat.le_of_ble_eq_true rfl) rfl 0 rfl e10 b11 (by omega) dR_add_18 ?_
      refine wx_iconst (v := 2) F dR_add_19 (by decide) ?_
      refine wx_icmp_lt (tgt := 37) F dR_add_20 (by decide) (fun g13 => ?_) (fun g13 => ?_)
      · refine wx_iconst (v := 0) F dR_add_37 (by decide) ?_
        refine wx_istore (lv' := [(4, .int 0), (0, .ref (a 0)), (1, .int x1), (2, .int x2), (3, .int x3)]) F dR_add_38 (by decide) rfl ?_
        exact wx_lv [1, 2, 3, 4, 0] rfl (hK40 _ _ _ _ _ ((h12).1 g13))
      · refine wx_aload_n F 0 dR_add_23 rfl rfl ?_
        refine wx_get (ci := 4) (C := qnR) (T := TR) (N := 25) (v := .ref (a 3)) F 0 (Nat.le_of_ble_eq_true rfl) rfl rfl hiR 4 (by decide) rfl lfR_16 rfl dR_add_24 ?_
        refine wx_iload_n F 2 dR_add_27 rfl rfl ?_
        refine wx_iald (N := 24) F 3 (Nat.le_of_ble_eq_true rfl) rfl 0 rfl e10 b11 (by omega) dR_add_28 ?_
        refine wx_iconst (v := 3) F dR_add_29 (by decide) ?_
        refine wx_icmp_ge (tgt := 37) F dR_add_30 (by decide) (fun g14 => ?_) (fun g14 => ?_)
        · refine wx_iconst (v := 0) F dR_add_37 (by decide) ?_
          refine wx_istore (lv' := [(4, .int 0), (0, .ref (a 0)), (1, .int x1), (2, .int x2), (3, .int x3)]) F dR_add_38 (by decide) rfl ?_
          exact wx_lv [1, 2, 3, 4, 0] rfl (hK40 _ _ _ _ _ (((h12).2 g13).1 g14))
        · refine wx_iconst (v := 1) F dR_add_33 (by decide) ?_
          refine wx_goto (tgt := 38) F dR_add_34 (by decide) ?_
          refine wx_istore (lv' := [(4, .int 1), (0, .ref (a 0)), (1, .int x1), (2, .int x2), (3, .int x3)]) F dR_add_38 (by decide) rfl ?_
          exact wx_lv [1, 2, 3, 4, 0] rfl (hK40 _ _ _ _ _ (((h12).2 g13).2 g14))
set_option maxRecDepth 20000 in
theorem sR_add_40 {G : CX} {D : va_G} {cI cZ : ClassId} {a : Nat → Nat} {post : Int32 → MM → Prop} (F : FX G (sM D cI cZ a) cR_add 5 qnR (some .int)) (hR : gR G = rmR_add) {K82 : MM → Int32 → Int32 → Int32 → Int32 → Prop} (hK82 : ∀ (M : MM) (x1 x2 x3 x4 : Int32), K82 M x1 x2 x3 x4 → wx G (sM D cI cZ a) 5 (Qxi G (sM D cI cZ a) post) M 82 [(0, .ref (a 0)), (1, .int x1), (2, .int x2), (3, .int x3), (4, .int x4)] []) {M : MM} {x1 x2 x3 x4 : Int32} (h : (¬ (M 0 18) = 0 → (post (-1) M)) ∧ ((M 0 18) = 0 → ((24 ≤ (M 0 1) → (post (-1) M)) ∧ (¬ 24 ≤ (M 0 1) → ((x1 < 0 → (post (-1) M)) ∧ (¬ x1 < 0 → ((3 < x1 → (post (-1) M)) ∧ (¬ 3 < x1 → ((x3 < 0 → (post (-1) M)) ∧ (¬ x3 < 0 → ((15 < x3 → (post (-1) M)) ∧ (¬ 15 < x3 → ((¬ x4 = 0 → (K82 M x1 x2 x3 x4)) ∧ (x4 = 0 → (post (-1) M))))))))))))))) : wx G (sM D cI cZ a) 5 (Qxi G (sM D cI cZ a) post) M 40 [(0, .ref (a 0)), (1, .int x1), (2, .int x2), (3, .int x3), (4, .int x4)] [] := by
  refine wx_aload_n F 0 dR_add_40 rfl rfl ?_
  refine wx_get (ci := 4) (C := qnR) (T := TR) (N := 25) (v := .int (M 0 18)) F 0 (Nat.le_of_ble_eq_true rfl) rfl rfl hiR 18 (by decide) rfl lfR_67 rfl dR_add_41 ?_
  refine wx_if_ne (tgt := 80) F dR_add_44 (by decide) (fun g1 => ?_) (fun g1 => ?_)
  · refine wx_iconst (v := (-1)) F dR_add_80 (by decide) ?_
    exact wx_iret F dR_add_81 ((h).1 g1)
  · refine wx_aload_n F 0 dR_add_47 rfl rfl ?_
    refine wx_get (ci := 4) (C := qnR) (T := TR) (N := 25) (v := .int (M 0 1)) F 0 (Nat.le_of_ble_eq_true rfl) rfl rfl hiR 1 (by decide) rfl lfR_60 rfl dR_add_48 ?_
    refine wx_bipush (v := 24) F dR_add_51 (by decide) ?_
    refine wx_icmp_ge (tgt := 80) F dR_add_53 (by decide) (fun g2 => ?_) (fun g2 => ?_)
    · refine wx_iconst (v := (-1)) F dR_add_80 (by decide) ?_
      exact wx_iret F dR_add_81 (((h).2 g1).1 g2)
    · refine wx_iload_n F 1 dR_add_56 rfl rfl ?_
      refine wx_if_lt (tgt := 80) F dR_add_57 (by decide) (fun g3 => ?_) (fun g3 => ?_)
      · refine wx_iconst (v := (-1)) F dR_add_80 (by decide) ?_
        exact wx_iret F dR_add_81 ((((h).2 g1).2 g2).1 g3)
      · refine wx_iload_n F 1 dR_add_60 rfl rfl ?_
        refine wx_iconst (v := 3) F dR_add_61 (by decide) ?_
        refine wx_icmp_gt (tgt := 80) F dR_add_62 (by decide) (fun g4 => ?_) (fun g4 => ?_)
        · refine wx_iconst (v := (-1)) F dR_add_80 (by decide) ?_
          exact wx_iret F dR_add_81 (((((h).2 g1).2 g2).2 g3).1 g4)
        · refine wx_iload_n F 3 dR_add_65 rfl rfl ?_
          refine wx_if_lt (tgt := 80) F dR_add_66 (by decide) (fun g5 => ?_) (fun g5 => ?_)
          · refine wx_iconst (v := (-1)) F dR_add_80 (by decide) ?_
            exact wx_iret F dR_add_81 ((((((h).2 g1).2 g2).2 g3).2 g4).1 g5)
          · refine wx_iload_n F 3 dR_add_69 rfl rfl ?_
            refine wx_bipush (v := 15) F dR_add_70 (by decide) ?_
            refine wx_icmp_gt (tgt := 80) F dR_add_72 (by decide) (fun g6 => ?_) (fun g6 => ?_)
            · refine wx_iconst (v := (-1)) F dR_add_80 (by decide) ?_
              exact wx_iret F dR_add_81 (((((((h).2 g1).2 g2).2 g3).2 g4).2 g5).1 g6)
            · refine wx_iload F 4 dR_add_75 rfl ?_
              refine wx_if_ne (tgt := 82) F dR_add_77 (by decide) (fun g7 => ?_) (fun g7 => ?_)
              · exact wx_lv [0, 1, 2, 3, 4] rfl (hK82 _ _ _ _ _ ((((((((h).2 g1).2 g2).2 g3).2 g4).2 g5).2 g6).1 g7))
              · refine wx_iconst (v := (-1)) F dR_add_80 (by decide) ?_
                exact wx_iret F dR_add_81 ((((((((h).2 g1).2 g2).2 g3).2 g4).2 g5).2 g6).2 g7)
set_option maxRecDepth 20000 in
theorem sR_add_82 {G : CX} {D : va_G} {cI cZ : ClassId} {a : Nat → Nat} {post : Int32 → MM → Prop} (F : FX G (sM D cI cZ a) cR_add 5 qnR (some .int)) (hR : gR G = rmR_add) {M : MM} {x1 x2 x3 x4 : Int32} (h : ∃ j3 : Nat, (M 0 1) = nI j3 ∧ j3 < 24 ∧ (∀ M1 : MM, M1 = mp M 1 j3 x1 → (∃ j9 : Nat, (M1 0 1) = nI j9 ∧ j9 < 24 ∧ (∀ M7 : MM, M7 = mp M1 2 j9 x2 → ((¬ x2 = (-1) → (∃ j14 : Nat, x2 = nI j14 ∧ j14 < 24 ∧ (∃ j20 : Nat, (M7 0 1) = nI j20 ∧ j20 < 24 ∧ (∀ M18 : MM, M18 = mp M7 3 j20 ((M7 3 j14) + 1) → (∃ j26 : Nat, (M18 0 1) = nI j26 ∧ j26 < 24 ∧ (∀ M24 : MM, M24 = mp M18 4 j26 x3 → (∀ M30 : MM, M30 = mp M24 0 1 ((M24 0 1) + 1) → (post ((M30 0 1) - 1) M30)))))))) ∧ (x2 = (-1) → (∃ j34 : Nat, (M7 0 1) = nI j34 ∧ j34 < 24 ∧ (∀ M32 : MM, M32 = mp M7 3 j34 0 → (∃ j40 : Nat, (M32 0 1) = nI j40 ∧ j40 < 24 ∧ (∀ M38 : MM, M38 = mp M32 4 j40 x3 → (∀ M44 : MM, M44 = mp M38 0 1 ((M38 0 1) + 1) → (post ((M44 0 1) - 1) M44)))))))))))) : wx G (sM D cI cZ a) 5 (Qxi G (sM D cI cZ a) post) M 82 [(0, .ref (a 0)), (1, .int x1), (2, .int x2), (3, .int x3), (4, .int x4)] [] := by
  refine wx_aload_n F 0 dR_add_82 rfl rfl ?_
  refine wx_get (ci := 4) (C := qnR) (T := TR) (N := 25) (v := .ref (a 1)) F 0 (Nat.le_of_ble_eq_true rfl) rfl rfl hiR 2 (by decide) rfl lfR_7 rfl dR_add_83 ?_
  refine wx_aload_n F 0 dR_add_86 rfl rfl ?_
  refine wx_get (ci := 4) (C := qnR) (T := TR) (N := 25) (v := .int (M 0 1)) F 0 (Nat.le_of_ble_eq_true rfl) rfl rfl hiR 1 (by decide) rfl lfR_60 rfl dR_add_87 ?_
  refine wx_iload_n F 1 dR_add_90 rfl rfl ?_
  obtain ⟨j3, e4, b5, h6⟩ := h
  refine wx_iast (N := 24) F 1 (Nat.le_of_ble_eq_true rfl) (fun _ => rfl) 0 rfl e4 b5 (by omega) dR_add_91 (wx_nm (fun M1 e2 => ?_))
  refine wx_aload_n F 0 dR_add_92 rfl rfl ?_
  refine wx_get (ci := 4) (C := qnR) (T := TR) (N := 25) (v := .ref (a 2)) F 0 (Nat.le_of_ble_eq_true rfl) rfl rfl hiR 3 (by decide) rfl lfR_13 rfl dR_add_93 ?_
  refine wx_aload_n F 0 dR_add_96 rfl rfl ?_
  refine wx_get (ci := 4) (C := qnR) (T := TR) (N := 25) (v := .int (M1 0 1)) F 0 (Nat.le_of_ble_eq_true rfl) rfl rfl hiR 1 (by decide) rfl lfR_60 rfl dR_add_97 ?_
  refine wx_iload_n F 2 dR_add_100 rfl rfl ?_
  obtain ⟨j9, e10, b11, h12⟩ := h6 M1 e2
  refine wx_iast (N := 24) F 2 (Nat.le_of_ble_eq_true rfl) (fun _ => rfl) 0 rfl e10 b11 (by omega) dR_add_101 (wx_nm (fun M7 e8 => ?_))
  refine wx_aload_n F 0 dR_add_102 rfl rfl ?_
  refine wx_get (ci := 4) (C := qnR) (T := TR) (N := 25) (v := .ref (a 3)) F 0 (Nat.le_of_ble_eq_true rfl) rfl rfl hiR 4 (by decide) rfl lfR_16 rfl dR_add_103 ?_
  refine wx_aload_n F 0 dR_add_106 rfl rfl ?_
  refine wx_get (ci := 4) (C := qnR) (T := TR) (N := 25) (v := .int (M7 0 1)) F 0 (Nat.le_of_ble_eq_true rfl) rfl rfl hiR 1 (by decide) rfl lfR_60 rfl dR_add_107 ?_
  refine wx_iload_n F 2 dR_add_110 rfl rfl ?_
  refine wx_iconst (v := (-1)) F dR_add_111 (by decide) ?_
  refine wx_icmp_ne (tgt := 119) F dR_add_112 (by decide) (fun g13 => ?_) (fun g13 => ?_)
  · refine wx_aload_n F 0 dR_add_119 rfl rfl ?_
    refine wx_get (ci := 4) (C := qnR) (T := TR) (N := 25) (v := .ref (a 3)) F 0 (Nat.le_of_ble_eq_true rfl) rfl rfl hiR 4 (by decide) rfl lfR_16 rfl dR_add_120 ?_
    refine wx_iload_n F 2 dR_add_123 rfl rfl ?_
    obtain ⟨j14, e15, b16, h17⟩ := (h12 M7 e8).1 g13
    refine wx_iald (N := 24) F 3 (Nat.le_of_ble_eq_true rfl) rfl 0 rfl e15 b16 (by omega) dR_add_124 ?_
    refine wx_iconst (v := 1) F dR_add_125 (by decide) ?_
    refine wx_iadd F dR_add_126 ?_
    obtain ⟨j20, e21, b22, h23⟩ := h17
    refine wx_iast (N := 24) F 3 (Nat.le_of_ble_eq_true rfl) (fun _ => rfl) 0 rfl e21 b22 (by omega) dR_add_127 (wx_nm (fun M18 e19 => ?_))
    refine wx_aload_n F 0 dR_add_128 rfl rfl ?_
    refine wx_get (ci := 4) (C := qnR) (T := TR) (N := 25) (v := .ref (a 4)) F 0 (Nat.le_of_ble_eq_true rfl) rfl rfl hiR 5 (by decide) rfl lfR_19 rfl dR_add_129 ?_
    refine wx_aload_n F 0 dR_add_132 rfl rfl ?_
    refine wx_get (ci := 4) (C := qnR) (T := TR) (N := 25) (v := .int (M18 0 1)) F 0 (Nat.le_of_ble_eq_true rfl) rfl rfl hiR 1 (by decide) rfl lfR_60 rfl dR_add_133 ?_
    refine wx_iload_n F 3 dR_add_136 rfl rfl ?_
    obtain ⟨j26, e27, b28, h29⟩ := h23 M18 e19
    refine wx_iast (N := 24) F 4 (Nat.le_of_ble_eq_true rfl) (fun _ => rfl) 0 rfl e27 b28 (by omega) dR_add_137 (wx_nm (fun M24 e25 => ?_))
    refine wx_aload_n F 0 dR_add_138 rfl rfl ?_
    refine wx_aload_n F 0 dR_add_139 rfl rfl ?_
    refine wx_get (ci := 4) (C := qnR) (T := TR) (N := 25) (v := .int (M24 0 1)) F 0 (Nat.le_of_ble_eq_true rfl) rfl rfl hiR 1 (by decide) rfl lfR_60 rfl dR_add_140 ?_
    refine wx_iconst (v := 1) F dR_add_143 (by decide) ?_
    refine wx_iadd F dR_add_144 ?_
    refine wx_put (ci := 4) (C := qnR) (T := TR) (N := 25) (ty := .int) F 0 (Nat.le_of_ble_eq_true rfl) rfl rfl hiR tyR tyR_ok nmR 1 (by decide) rfl lfR_60 rfl (by decide +kernel) rfl rfl (Nat.le_of_ble_eq_true rfl) rfl dR_add_145 (wx_nm (fun M30 e31 => ?_))
    refine wx_aload_n F 0 dR_add_148 rfl rfl ?_
    refine wx_get (ci := 4) (C := qnR) (T := TR) (N := 25) (v := .int (M30 0 1)) F 0 (Nat.le_of_ble_eq_true rfl) rfl rfl hiR 1 (by decide) rfl lfR_60 rfl dR_add_149 ?_
    refine wx_iconst (v := 1) F dR_add_152 (by decide) ?_
    refine wx_isub F dR_add_153 ?_
    exact wx_iret F dR_add_154 ((h29 M24 e25) M30 e31)
  · refine wx_iconst (v := 0) F dR_add_115 (by decide) ?_
    refine wx_goto (tgt := 127) F dR_add_116 (by decide) ?_
    obtain ⟨j34, e35, b36, h37⟩ := (h12 M7 e8).2 g13
    refine wx_iast (N := 24) F 3 (Nat.le_of_ble_eq_true rfl) (fun _ => rfl) 0 rfl e35 b36 (by omega) dR_add_127 (wx_nm (fun M32 e33 => ?_))
    refine wx_aload_n F 0 dR_add_128 rfl rfl ?_
    refine wx_get (ci := 4) (C := qnR) (T := TR) (N := 25) (v := .ref (a 4)) F 0 (Nat.le_of_ble_eq_true rfl) rfl rfl hiR 5 (by decide) rfl lfR_19 rfl dR_add_129 ?_
    refine wx_aload_n F 0 dR_add_132 rfl rfl ?_
    refine wx_get (ci := 4) (C := qnR) (T := TR) (N := 25) (v := .int (M32 0 1)) F 0 (Nat.le_of_ble_eq_true rfl) rfl rfl hiR 1 (by decide) rfl lfR_60 rfl dR_add_133 ?_
    refine wx_iload_n F 3 dR_add_136 rfl rfl ?_
    obtain ⟨j40, e41, b42, h43⟩ := h37 M32 e33
    refine wx_iast (N := 24) F 4 (Nat.le_of_ble_eq_true rfl) (fun _ => rfl) 0 rfl e41 b42 (by omega) dR_add_137 (wx_nm (fun M38 e39 => ?_))
    refine wx_aload_n F 0 dR_add_138 rfl rfl ?_
    refine wx_aload_n F 0 dR_add_139 rfl rfl ?_
    refine wx_get (ci := 4) (C := qnR) (T := TR) (N := 25) (v := .int (M38 0 1)) F 0 (Nat.le_of_ble_eq_true rfl) rfl rfl hiR 1 (by decide) rfl lfR_60 rfl dR_add_140 ?_
    refine wx_iconst (v := 1) F dR_add_143 (by decide) ?_
    refine wx_iadd F dR_add_144 ?_
    refine wx_put (ci := 4) (C := qnR) (T := TR) (N := 25) (ty := .int) F 0 (Nat.le_of_ble_eq_true rfl) rfl rfl hiR tyR tyR_ok nmR 1 (by decide) rfl lfR_60 rfl (by decide +kernel) rfl rfl (Nat.le_of_ble_eq_true rfl) rfl dR_add_145 (wx_nm (fun M44 e45 => ?_))
    refine wx_aload_n F 0 dR_add_148 rfl rfl ?_
    refine wx_get (ci := 4) (C := qnR) (T := TR) (N := 25) (v := .int (M44 0 1)) F 0 (Nat.le_of_ble_eq_true rfl) rfl rfl hiR 1 (by decide) rfl lfR_60 rfl dR_add_149 ?_
    refine wx_iconst (v := 1) F dR_add_152 (by decide) ?_
    refine wx_isub F dR_add_153 ?_
    exact wx_iret F dR_add_154 ((h43 M38 e39) M44 e45)
theorem oR_add {l : Launch} {D : va_G} {cI cZ : ClassId} {a : Nat → Nat} {post : Int32 → MM → Prop} (hJ : IJ (sM D cI cZ a)) {M : MM} {x1 x2 x3 : Int32} (h : ∀ G : CX, gl G = l → gR G = rmR_add → FX G (sM D cI cZ a) cR_add 5 qnR (some .int) → wx G (sM D cI cZ a) 5 (Qxi G (sM D cI cZ a) post) M 0 [(0, .ref (a 0)), (1, .int x1), (2, .int x2), (3, .int x3)] []) : Ci l (sM D cI cZ a) yR_add wR_add rmR_add [.ref (a 0), .int x1, .int x2, .int x3] M post := Ci.of (cc := cR_add) (nL := 5) rfl rfl (Nat.le_of_ble_eq_true rfl) hJ h
set_option maxRecDepth 20000 in
theorem sR_edges_0 {G : CX} {D : va_G} {cI cZ : ClassId} {a : Nat → Nat} {post : Int32 → MM → Prop} (F : FX G (sM D cI cZ a) cR_edges 5 qnR (some .int)) (hR : gR G = rmR_edges) {K5 : MM → Int32 → Int32 → Int32 → Int32 → Prop} (hK5 : ∀ (M : MM) (x1 x2 x3 x4 : Int32), K5 M x1 x2 x3 x4 → wx G (sM D cI cZ a) 5 (Qxi G (sM D cI cZ a) post) M 5 [(0, .ref (a 0)), (1, .int x1), (2, .int x2), (3, .int x3), (4, .int x4)] []) {M : MM} {x1 x2 : Int32} (h : K5 M x1 x2 0 0) : wx G (sM D cI cZ a) 5 (Qxi G (sM D cI cZ a) post) M 0 [(0, .ref (a 0)), (1, .int x1), (2, .int x2)] [] := by
  refine wx_iconst (v := 0) F dR_edges_0 (by decide) ?_
  refine wx_istore_n (lv' := [(3, .int 0), (0, .ref (a 0)), (1, .int x1), (2, .int x2)]) F dR_edges_1 rfl (by decide) rfl ?_
  refine wx_iconst (v := 0) F dR_edges_2 (by decide) ?_
  refine wx_istore (lv' := [(4, .int 0), (3, .int 0), (0, .ref (a 0)), (1, .int x1), (2, .int x2)]) F dR_edges_3 (by decide) rfl ?_
  exact wx_lv [2, 3, 4, 1, 0] rfl (hK5 _ _ _ _ _ (h))
set_option maxRecDepth 20000 in
theorem sR_edges_5 {G : CX} {D : va_G} {cI cZ : ClassId} {a : Nat → Nat} {post : Int32 → MM → Prop} (F : FX G (sM D cI cZ a) cR_edges 5 qnR (some .int)) (hR : gR G = rmR_edges) {K5 : MM → Int32 → Int32 → Int32 → Int32 → Prop} (hK5 : ∀ (M : MM) (x1 x2 x3 x4 : Int32), K5 M x1 x2 x3 x4 → wx G (sM D cI cZ a) 5 (Qxi G (sM D cI cZ a) post) M 5 [(0, .ref (a 0)), (1, .int x1), (2, .int x2), (3, .int x3), (4, .int x4)] []) {M : MM} {x1 x2 x3 x4 : Int32} (h : ∃ j1 : Nat, x1 = nI j1 ∧ j1 < 24 ∧ (((M 11 j1) ≤ x4 → (post x3 M)) ∧ (¬ (M 11 j1) ≤ x4 → (∃ j6 : Nat, ((6 * x1) + x4) = nI j6 ∧ j6 < 144 ∧ ((¬ (M 12 j6) = x2 → (K5 M x1 x2 x3 (x4 + 1))) ∧ ((M 12 j6) = x2 → (K5 M x1 x2 (x3 + 1) (x4 + 1)))))))) : wx G (sM D cI cZ a) 5 (Qxi G (sM D cI cZ a) post) M 5 [(0, .ref (a 0)), (1, .int x1), (2, .int x2), (3, .int x3), (4, .int x4)] [] := by
  refine wx_iload F 4 dR_edges_5 rfl ?_
  refine wx_aload_n F 0 dR_edges_7 rfl rfl ?_
  refine wx_get (ci := 4) (C := qnR) (T := TR) (N := 25) (v := .ref (a 11)) F 0 (Nat.le_of_ble_eq_true rfl) rfl rfl hiR 12 (by decide) rfl lfR_41 rfl dR_edges_8 ?_
  refine wx_iload_n F 1 dR_edges_11 rfl rfl ?_
  obtain ⟨j1, e2, b3, h4⟩ := h
  refine wx_iald (N := 24) F 11 (Nat.le_of_ble_eq_true rfl) rfl 0 rfl e2 b3 (by omega) dR_edges_12 ?_
  refine wx_icmp_ge (tgt := 46) F dR_edges_13 (by decide) (fun g5 => ?_) (fun g5 => ?_)
  · refine wx_iload_n F 3 dR_edges_46 rfl rfl ?_
    exact wx_iret F dR_edges_47 ((h4).1 g5)
  · refine wx_aload_n F 0 dR_edges_16 rfl rfl ?_
    refine wx_get (ci := 4) (C := qnR) (T := TR) (N := 25) (v := .ref (a 12)) F 0 (Nat.le_of_ble_eq_true rfl) rfl rfl hiR 13 (by decide) rfl lfR_44 rfl dR_edges_17 ?_
    refine wx_bipush (v := 6) F dR_edges_20 (by decide) ?_
    refine wx_iload_n F 1 dR_edges_22 rfl rfl ?_
    refine wx_imul F dR_edges_23 ?_
    refine wx_iload F 4 dR_edges_24 rfl ?_
    refine wx_iadd F dR_edges_26 ?_
    obtain ⟨j6, e7, b8, h9⟩ := (h4).2 g5
    refine wx_iald (N := 144) F 12 (Nat.le_of_ble_eq_true rfl) rfl 0 rfl e7 b8 (by omega) dR_edges_27 ?_
    refine wx_iload_n F 2 dR_edges_28 rfl rfl ?_
    refine wx_icmp_ne (tgt := 38) F dR_edges_29 (by decide) (fun g10 => ?_) (fun g10 => ?_)
    · refine wx_iload_n F 3 dR_edges_38 rfl rfl ?_
      refine wx_istore_n (lv' := [(3, .int x3), (0, .ref (a 0)), (1, .int x1), (2, .int x2), (4, .int x4)]) F dR_edges_39 rfl (by decide) rfl ?_
      refine wx_iinc (lv' := [(4, .int (x4 + 1)), (3, .int x3), (0, .ref (a 0)), (1, .int x1), (2, .int x2)]) F 4 dR_edges_40 rfl (ii1 _) (by decide) rfl ?_
      refine wx_goto (tgt := 5) F dR_edges_43 (by decide) ?_
      exact wx_lv [2, 3, 4, 1, 0] rfl (hK5 _ _ _ _ _ ((h9).1 g10))
    · refine wx_iload_n F 3 dR_edges_32 rfl rfl ?_
      refine wx_iconst (v := 1) F dR_edges_33 (by decide) ?_
      refine wx_iadd F dR_edges_34 ?_
      refine wx_goto (tgt := 39) F dR_edges_35 (by decide) ?_
      refine wx_istore_n (lv' := [(3, .int (x3 + 1)), (0, .ref (a 0)), (1, .int x1), (2, .int x2), (4, .int x4)]) F dR_edges_39 rfl (by decide) rfl ?_
      refine wx_iinc (lv' := [(4, .int (x4 + 1)), (3, .int (x3 + 1)), (0, .ref (a 0)), (1, .int x1), (2, .int x2)]) F 4 dR_edges_40 rfl (ii1 _) (by decide) rfl ?_
      refine wx_goto (tgt := 5) F dR_edges_43 (by decide) ?_
      exact wx_lv [2, 3, 4, 1, 0] rfl (hK5 _ _ _ _ _ ((h9).2 g10))
theorem oR_edges {l : Launch} {D : va_G} {cI cZ : ClassId} {a : Nat → Nat} {post : Int32 → MM → Prop} (hJ : IJ (sM D cI cZ a)) {M : MM} {x1 x2 : Int32} (h : ∀ G : CX, gl G = l → gR G = rmR_edges → FX G (sM D cI cZ a) cR_edges 5 qnR (some .int) → wx G (sM D cI cZ a) 5 (Qxi G (sM D cI cZ a) post) M 0 [(0, .ref (a 0)), (1, .int x1), (2, .int x2)] []) : Ci l (sM D cI cZ a) yR_edges wR_edges rmR_edges [.ref (a 0), .int x1, .int x2] M post := Ci.of (cc := cR_edges) (nL := 5) rfl rfl (Nat.le_of_ble_eq_true rfl) hJ h
set_option maxRecDepth 20000 in
theorem sR_edge_0 {G : CX} {D : va_G} {cI cZ : ClassId} {a : Nat → Nat} {post : Int32 → MM → Prop} (F : FX G (sM D cI cZ a) cR_edge 3 qnR (some .boolean)) (hR : gR G = rmR_edge) {M : MM} {x1 x2 : Int32} (h : (¬ (M 0 18) = 0 → (post 0 M)) ∧ ((M 0 18) = 0 → (∃ po2 : Int32 → MM → Prop, Ci (gl G) (sM D cI cZ a) yR_isTask wR_isTask rmR_isTask [.ref (a 0), .int x1] M po2 ∧ ∀ (r5 : Int32) (M6 : MM), po2 r5 M6 → ((r5 = 0 → (post 0 M6)) ∧ (¬ r5 = 0 → (∃ po9 : Int32 → MM → Prop, Ci (gl G) (sM D cI cZ a) yR_isTask wR_isTask rmR_isTask [.ref (a 0), .int x2] M6 po9 ∧ ∀ (r12 : Int32) (M13 : MM), po9 r12 M13 → ((r12 = 0 → (post 0 M13)) ∧ (¬ r12 = 0 → (∃ j16 : Nat, x1 = nI j16 ∧ j16 < 24 ∧ (∃ j20 : Nat, x2 = nI j20 ∧ j20 < 24 ∧ (((M13 2 j16) = (M13 2 j20) → (∃ po25 : Int32 → MM → Prop, Ci (gl G) (sM D cI cZ a) yR_edges wR_edges rmR_edges [.ref (a 0), .int x1, .int x2] M13 po25 ∧ ∀ (r28 : Int32) (M29 : MM), po25 r28 M29 → ((0 < r28 → (post 0 M29)) ∧ (¬ 0 < r28 → (((M29 11 j16) < 6 → (∃ j35 : Nat, ((6 * x1) + (M29 11 j16)) = nI j35 ∧ j35 < 144 ∧ (∀ M33 : MM, M33 = mp M29 12 j35 x2 → (∀ M39 : MM, M39 = mp M33 11 j16 ((M33 11 j16) + 1) → (post 1 M39))))) ∧ (¬ (M29 11 j16) < 6 → (post 0 M29))))))) ∧ (¬ (M13 2 j16) = (M13 2 j20) → (post 0 M13))))))))))))) : wx G (sM D cI cZ a) 3 (Qxi G (sM D cI cZ a) post) M 0 [(0, .ref (a 0)), (1, .int x1), (2, .int x2)] [] := by
  refine wx_aload_n F 0 dR_edge_0 rfl rfl ?_
  refine wx_get (ci := 4) (C := qnR) (T := TR) (N := 25) (v := .int (M 0 18)) F 0 (Nat.le_of_ble_eq_true rfl) rfl rfl hiR 18 (by decide) rfl lfR_67 rfl dR_edge_1 ?_
  refine wx_if_ne (tgt := 38) F dR_edge_4 (by decide) (fun g1 => ?_) (fun g1 => ?_)
  · refine wx_iconst (v := 0) F dR_edge_38 (by decide) ?_
    exact wx_zret F dR_edge_39 rfl ((h).1 g1)
  · refine wx_aload_n F 0 dR_edge_7 rfl rfl ?_
    refine wx_iload_n F 1 dR_edge_8 rfl rfl ?_
    obtain ⟨po2, c3, h4⟩ := (h).2 g1
    refine wx_calli F 0 c3 (Nat.le_of_ble_eq_true rfl) rfl rfl (cw_V F.1.2.2.2.2 lmR_63 cbR_isTask rfl rfl ⟨by rw [hR]; exact Nat.le_of_ble_eq_true rfl, by rw [hR]; exact Nat.le_of_ble_eq_true rfl⟩) rfl rfl (Nat.le_of_ble_eq_true rfl) dR_edge_9 (fun r5 M6 p7 => ?_)
    refine wx_if_eq (tgt := 38) F dR_edge_12 (by decide) (fun g8 => ?_) (fun g8 => ?_)
    · refine wx_iconst (v := 0) F dR_edge_38 (by decide) ?_
      exact wx_zret F dR_edge_39 rfl ((h4 r5 M6 p7).1 g8)
    · refine wx_aload_n F 0 dR_edge_15 rfl rfl ?_
      refine wx_iload_n F 2 dR_edge_16 rfl rfl ?_
      obtain ⟨po9, c10, h11⟩ := (h4 r5 M6 p7).2 g8
      refine wx_calli F 0 c10 (Nat.le_of_ble_eq_true rfl) rfl rfl (cw_V F.1.2.2.2.2 lmR_63 cbR_isTask rfl rfl ⟨by rw [hR]; exact Nat.le_of_ble_eq_true rfl, by rw [hR]; exact Nat.le_of_ble_eq_true rfl⟩) rfl rfl (Nat.le_of_ble_eq_true rfl) dR_edge_17 (fun r12 M13 p14 => ?_)
      refine wx_if_eq (tgt := 38) F dR_edge_20 (by decide) (fun g15 => ?_) (fun g15 => ?_)
      · refine wx_iconst (v := 0) F dR_edge_38 (by decide) ?_
        exact wx_zret F dR_edge_39 rfl ((h11 r12 M13 p14).1 g15)
      · refine wx_aload_n F 0 dR_edge_23 rfl rfl ?_
        refine wx_get (ci := 4) (C := qnR) (T := TR) (N := 25) (v := .ref (a 2)) F 0 (Nat.le_of_ble_eq_true rfl) rfl rfl hiR 3 (by decide) rfl lfR_13 rfl dR_edge_24 ?_
        refine wx_iload_n F 1 dR_edge_27 rfl rfl ?_
        obtain ⟨j16, e17, b18, h19⟩ := (h11 r12 M13 p14).2 g15
        refine wx_iald (N := 24) F 2 (Nat.le_of_ble_eq_true rfl) rfl 0 rfl e17 b18 (by omega) dR_edge_28 ?_
        refine wx_aload_n F 0 dR_edge_29 rfl rfl ?_
        refine wx_get (ci := 4) (C := qnR) (T := TR) (N := 25) (v := .ref (a 2)) F 0 (Nat.le_of_ble_eq_true rfl) rfl rfl hiR 3 (by decide) rfl lfR_13 rfl dR_edge_30 ?_
        refine wx_iload_n F 2 dR_edge_33 rfl rfl ?_
        obtain ⟨j20, e21, b22, h23⟩ := h19
        refine wx_iald (N := 24) F 2 (Nat.le_of_ble_eq_true rfl) rfl 0 rfl e21 b22 (by omega) dR_edge_34 ?_
        refine wx_icmp_eq (tgt := 40) F dR_edge_35 (by decide) (fun g24 => ?_) (fun g24 => ?_)
        · refine wx_aload_n F 0 dR_edge_40 rfl rfl ?_
          refine wx_iload_n F 1 dR_edge_41 rfl rfl ?_
          refine wx_iload_n F 2 dR_edge_42 rfl rfl ?_
          obtain ⟨po25, c26, h27⟩ := (h23).1 g24
          refine wx_calli F 0 c26 (Nat.le_of_ble_eq_true rfl) rfl rfl (cw_V F.1.2.2.2.2 lmR_71 cbR_edges rfl rfl ⟨by rw [hR]; exact Nat.le_of_ble_eq_true rfl, by rw [hR]; exact Nat.le_of_ble_eq_true rfl⟩) rfl rfl (Nat.le_of_ble_eq_true rfl) dR_edge_43 (fun r28 M29 p30 => ?_)
          refine wx_if_gt (tgt := 60) F dR_edge_46 (by decide) (fun g31 => ?_) (fun g31 => ?_)
          · refine wx_iconst (v := 0) F dR_edge_60 (by decide) ?_
            exact wx_zret F dR_edge_61 rfl ((h27 r28 M29 p30).1 g31)
          · refine wx_aload_n F 0 dR_edge_49 rfl rfl ?_
            refine wx_get (ci := 4) (C := qnR) (T := TR) (N := 25) (v := .ref (a 11)) F 0 (Nat.le_of_ble_eq_true rfl) rfl rfl hiR 12 (by decide) rfl lfR_41 rfl dR_edge_50 ?_
            refine wx_iload_n F 1 dR_edge_53 rfl rfl ?_
            refine wx_iald (N := 24) F 11 (Nat.le_of_ble_eq_true rfl) rfl 0 rfl e17 b18 (by omega) dR_edge_54 ?_
            refine wx_bipush (v := 6) F dR_edge_55 (by decide) ?_
            refine wx_icmp_lt (tgt := 62) F dR_edge_57 (by decide) (fun g32 => ?_) (fun g32 => ?_)
            · refine wx_aload_n F 0 dR_edge_62 rfl rfl ?_
              refine wx_get (ci := 4) (C := qnR) (T := TR) (N := 25) (v := .ref (a 12)) F 0 (Nat.le_of_ble_eq_true rfl) rfl rfl hiR 13 (by decide) rfl lfR_44 rfl dR_edge_63 ?_
              refine wx_bipush (v := 6) F dR_edge_66 (by decide) ?_
              refine wx_iload_n F 1 dR_edge_68 rfl rfl ?_
              refine wx_imul F dR_edge_69 ?_
              refine wx_aload_n F 0 dR_edge_70 rfl rfl ?_
              refine wx_get (ci := 4) (C := qnR) (T := TR) (N := 25) (v := .ref (a 11)) F 0 (Nat.le_of_ble_eq_true rfl) rfl rfl hiR 12 (by decide) rfl lfR_41 rfl dR_edge_71 ?_
              refine wx_iload_n F 1 dR_edge_74 rfl rfl ?_
              refine wx_iald (N := 24) F 11 (Nat.le_of_ble_eq_true rfl) rfl 0 rfl e17 b18 (by omega) dR_edge_75 ?_
              refine wx_iadd F dR_edge_76 ?_
              refine wx_iload_n F 2 dR_edge_77 rfl rfl ?_
              obtain ⟨j35, e36, b37, h38⟩ := ((h27 r28 M29 p30).2 g31).1 g32
              refine wx_iast (N := 144) F 12 (Nat.le_of_ble_eq_true rfl) (fun _ => rfl) 0 rfl e36 b37 (by omega) dR_edge_78 (wx_nm (fun M33 e34 => ?_))
              refine wx_aload_n F 0 dR_edge_79 rfl rfl ?_
              refine wx_get (ci := 4) (C := qnR) (T := TR) (N := 25) (v := .ref (a 11)) F 0 (Nat.le_of_ble_eq_true rfl) rfl rfl hiR 12 (by decide) rfl lfR_41 rfl dR_edge_80 ?_
              refine wx_iload_n F 1 dR_edge_83 rfl rfl ?_
              refine wx_aload_n F 0 dR_edge_84 rfl rfl ?_
              refine wx_get (ci := 4) (C := qnR) (T := TR) (N := 25) (v := .ref (a 11)) F 0 (Nat.le_of_ble_eq_true rfl) rfl rfl hiR 12 (by decide) rfl lfR_41 rfl dR_edge_85 ?_
              refine wx_iload_n F 1 dR_edge_88 rfl rfl ?_
              refine wx_iald (N := 24) F 11 (Nat.le_of_ble_eq_true rfl) rfl 0 rfl e17 b18 (by omega) dR_edge_89 ?_
              refine wx_iconst (v := 1) F dR_edge_90 (by decide) ?_
              refine wx_iadd F dR_edge_91 ?_
              refine wx_iast (N := 24) F 11 (Nat.le_of_ble_eq_true rfl) (fun _ => rfl) 0 rfl e17 b18 (by omega) dR_edge_92 (wx_nm (fun M39 e40 => ?_))
              refine wx_iconst (v := 1) F dR_edge_93 (by decide) ?_
              exact wx_zret F dR_edge_94 rfl ((h38 M33 e34) M39 e40)
            · refine wx_iconst (v := 0) F dR_edge_60 (by decide) ?_
              exact wx_zret F dR_edge_61 rfl (((h27 r28 M29 p30).2 g31).2 g32)
        · refine wx_iconst (v := 0) F dR_edge_38 (by decide) ?_
          exact wx_zret F dR_edge_39 rfl ((h23).2 g24)
theorem oR_edge {l : Launch} {D : va_G} {cI cZ : ClassId} {a : Nat → Nat} {post : Int32 → MM → Prop} (hJ : IJ (sM D cI cZ a)) {M : MM} {x1 x2 : Int32} (h : (¬ (M 0 18) = 0 → (post 0 M)) ∧ ((M 0 18) = 0 → (∃ po2 : Int32 → MM → Prop, Ci l (sM D cI cZ a) yR_isTask wR_isTask rmR_isTask [.ref (a 0), .int x1] M po2 ∧ ∀ (r5 : Int32) (M6 : MM), po2 r5 M6 → ((r5 = 0 → (post 0 M6)) ∧ (¬ r5 = 0 → (∃ po9 : Int32 → MM → Prop, Ci l (sM D cI cZ a) yR_isTask wR_isTask rmR_isTask [.ref (a 0), .int x2] M6 po9 ∧ ∀ (r12 : Int32) (M13 : MM), po9 r12 M13 → ((r12 = 0 → (post 0 M13)) ∧ (¬ r12 = 0 → (∃ j16 : Nat, x1 = nI j16 ∧ j16 < 24 ∧ (∃ j20 : Nat, x2 = nI j20 ∧ j20 < 24 ∧ (((M13 2 j16) = (M13 2 j20) → (∃ po25 : Int32 → MM → Prop, Ci l (sM D cI cZ a) yR_edges wR_edges rmR_edges [.ref (a 0), .int x1, .int x2] M13 po25 ∧ ∀ (r28 : Int32) (M29 : MM), po25 r28 M29 → ((0 < r28 → (post 0 M29)) ∧ (¬ 0 < r28 → (((M29 11 j16) < 6 → (∃ j35 : Nat, ((6 * x1) + (M29 11 j16)) = nI j35 ∧ j35 < 144 ∧ (∀ M33 : MM, M33 = mp M29 12 j35 x2 → (∀ M39 : MM, M39 = mp M33 11 j16 ((M33 11 j16) + 1) → (post 1 M39))))) ∧ (¬ (M29 11 j16) < 6 → (post 0 M29))))))) ∧ (¬ (M13 2 j16) = (M13 2 j20) → (post 0 M13))))))))))))) : Ci l (sM D cI cZ a) yR_edge wR_edge rmR_edge [.ref (a 0), .int x1, .int x2] M post := Ci.of (cc := cR_edge) (nL := 3) rfl rfl (Nat.le_of_ble_eq_true rfl) hJ (fun G hl hR F => by subst hl; exact sR_edge_0 F hR h)
set_option maxRecDepth 20000 in
theorem sR_capacity_0 {G : CX} {D : va_G} {cI cZ : ClassId} {a : Nat → Nat} {post : Int32 → MM → Prop} (F : FX G (sM D cI cZ a) cR_capacity 3 qnR (some .boolean)) (hR : gR G = rmR_capacity) {M : MM} {x1 x2 : Int32} (h : (¬ (M 0 18) = 0 → (post 0 M)) ∧ ((M 0 18) = 0 → ((x1 < 0 → (post 0 M)) ∧ (¬ x1 < 0 → ((3 < x1 → (post 0 M)) ∧ (¬ 3 < x1 → ((x2 < 1 → (post 0 M)) ∧ (¬ x2 < 1 → ((x2 ≤ 4 → (∃ j8 : Nat, x1 = nI j8 ∧ j8 < 4 ∧ (∀ M6 : MM, M6 = mp M 14 j8 (x2 - 1) → (post 1 M6)))) ∧ (¬ x2 ≤ 4 → (post 0 M))))))))))) : wx G (sM D cI cZ a) 3 (Qxi G (sM D cI cZ a) post) M 0 [(0, .ref (a 0)), (1, .int x1), (2, .int x2)] [] := by
  refine wx_aload_n F 0 dR_capacity_0 rfl rfl ?_
  refine wx_get (ci := 4) (C := qnR) (T := TR) (N := 25) (v := .int (M 0 18)) F 0 (Nat.le_of_ble_eq_true rfl) rfl rfl hiR 18 (by decide) rfl lfR_67 rfl dR_capacity_1 ?_
  refine wx_if_ne (tgt := 26) F dR_capacity_4 (by decide) (fun g1 => ?_) (fun g1 => ?_)
  · refine wx_iconst (v := 0) F dR_capacity_26 (by decide) ?_
    exact wx_zret F dR_capacity_27 rfl ((h).1 g1)
  · refine wx_iload_n F 1 dR_capacity_7 rfl rfl ?_
    refine wx_if_lt (tgt := 26) F dR_capacity_8 (by decide) (fun g2 => ?_) (fun g2 => ?_)
    · refine wx_iconst (v := 0) F dR_capacity_26 (by decide) ?_
      exact wx_zret F dR_capacity_27 rfl (((h).2 g1).1 g2)
    · refine wx_iload_n F 1 dR_capacity_11 rfl rfl ?_
      refine wx_iconst (v := 3) F dR_capacity_12 (by decide) ?_
      refine wx_icmp_gt (tgt := 26) F dR_capacity_13 (by decide) (fun g3 => ?_) (fun g3 => ?_)
      · refine wx_iconst (v := 0) F dR_capacity_26 (by decide) ?_
        exact wx_zret F dR_capacity_27 rfl ((((h).2 g1).2 g2).1 g3)
      · refine wx_iload_n F 2 dR_capacity_16 rfl rfl ?_
        refine wx_iconst (v := 1) F dR_capacity_17 (by decide) ?_
        refine wx_icmp_lt (tgt := 26) F dR_capacity_18 (by decide) (fun g4 => ?_) (fun g4 => ?_)
        · refine wx_iconst (v := 0) F dR_capacity_26 (by decide) ?_
          exact wx_zret F dR_capacity_27 rfl (((((h).2 g1).2 g2).2 g3).1 g4)
        · refine wx_iload_n F 2 dR_capacity_21 rfl rfl ?_
          refine wx_iconst (v := 4) F dR_capacity_22 (by decide) ?_
          refine wx_icmp_le (tgt := 28) F dR_capacity_23 (by decide) (fun g5 => ?_) (fun g5 => ?_)
          · refine wx_aload_n F 0 dR_capacity_28 rfl rfl ?_
            refine wx_get (ci := 4) (C := qnR) (T := TR) (N := 25) (v := .ref (a 14)) F 0 (Nat.le_of_ble_eq_true rfl) rfl rfl hiR 15 (by decide) rfl lfR_50 rfl dR_capacity_29 ?_
            refine wx_iload_n F 1 dR_capacity_32 rfl rfl ?_
            refine wx_iload_n F 2 dR_capacity_33 rfl rfl ?_
            refine wx_iconst (v := 1) F dR_capacity_34 (by decide) ?_
            refine wx_isub F dR_capacity_35 ?_
            obtain ⟨j8, e9, b10, h11⟩ := (((((h).2 g1).2 g2).2 g3).2 g4).1 g5
            refine wx_iast (N := 4) F 14 (Nat.le_of_ble_eq_true rfl) (fun _ => rfl) 0 rfl e9 b10 (by omega) dR_capacity_36 (wx_nm (fun M6 e7 => ?_))
            refine wx_iconst (v := 1) F dR_capacity_37 (by decide) ?_
            exact wx_zret F dR_capacity_38 rfl (h11 M6 e7)
          · refine wx_iconst (v := 0) F dR_capacity_26 (by decide) ?_
            exact wx_zret F dR_capacity_27 rfl ((((((h).2 g1).2 g2).2 g3).2 g4).2 g5)
theorem oR_capacity {l : Launch} {D : va_G} {cI cZ : ClassId} {a : Nat → Nat} {post : Int32 → MM → Prop} (hJ : IJ (sM D cI cZ a)) {M : MM} {x1 x2 : Int32} (h : (¬ (M 0 18) = 0 → (post 0 M)) ∧ ((M 0 18) = 0 → ((x1 < 0 → (post 0 M)) ∧ (¬ x1 < 0 → ((3 < x1 → (post 0 M)) ∧ (¬ 3 < x1 → ((x2 < 1 → (post 0 M)) ∧ (¬ x2 < 1 → ((x2 ≤ 4 → (∃ j8 : Nat, x1 = nI j8 ∧ j8 < 4 ∧ (∀ M6 : MM, M6 = mp M 14 j8 (x2 - 1) → (post 1 M6)))) ∧ (¬ x2 ≤ 4 → (post 0 M))))))))))) : Ci l (sM D cI cZ a) yR_capacity wR_capacity rmR_capacity [.ref (a 0), .int x1, .int x2] M post := Ci.of (cc := cR_capacity) (nL := 3) rfl rfl (Nat.le_of_ble_eq_true rfl) hJ (fun G hl hR F => by subst hl; exact sR_capacity_0 F hR h)
set_option maxRecDepth 20000 in
theorem sR_into_0 {G : CX} {D : va_G} {cI cZ : ClassId} {a : Nat → Nat} {post : Int32 → MM → Prop} (F : FX G (sM D cI cZ a) cR_into 5 qnR (some .int)) (hR : gR G = rmR_into) {K5 : MM → Int32 → Int32 → Int32 → Int32 → Prop} (hK5 : ∀ (M : MM) (x1 x2 x3 x4 : Int32), K5 M x1 x2 x3 x4 → wx G (sM D cI cZ a) 5 (Qxi G (sM D cI cZ a) post) M 5 [(0, .ref (a 0)), (1, .int x1), (2, .int x2), (3, .int x3), (4, .int x4)] []) {M : MM} {x1 x2 : Int32} (h : K5 M x1 x2 0 0) : wx G (sM D cI cZ a) 5 (Qxi G (sM D cI cZ a) post) M 0 [(0, .ref (a 0)), (1, .int x1), (2, .int x2)] [] := by
  refine wx_iconst (v := 0) F dR_into_0 (by decide) ?_
  refine wx_istore_n (lv' := [(3, .int 0), (0, .ref (a 0)), (1, .int x1), (2, .int x2)]) F dR_into_1 rfl (by decide) rfl ?_
  refine wx_iconst (v := 0) F dR_into_2 (by decide) ?_
  refine wx_istore (lv' := [(4, .int 0), (3, .int 0), (0, .ref (a 0)), (1, .int x1), (2, .int x2)]) F dR_into_3 (by decide) rfl ?_
  exact wx_lv [2, 3, 4, 1, 0] rfl (hK5 _ _ _ _ _ (h))
set_option maxRecDepth 20000 in
theorem sR_into_5 {G : CX} {D : va_G} {cI cZ : ClassId} {a : Nat → Nat} {post : Int32 → MM → Prop} (F : FX G (sM D cI cZ a) cR_into 5 qnR (some .int)) (hR : gR G = rmR_into) {K5 : MM → Int32 → Int32 → Int32 → Int32 → Prop} (hK5 : ∀ (M : MM) (x1 x2 x3 x4 : Int32), K5 M x1 x2 x3 x4 → wx G (sM D cI cZ a) 5 (Qxi G (sM D cI cZ a) post) M 5 [(0, .ref (a 0)), (1, .int x1), (2, .int x2), (3, .int x3), (4, .int x4)] []) {M : MM} {x1 x2 x3 x4 : Int32} (h : ((M 0 1) ≤ x4 → (post x3 M)) ∧ (¬ (M 0 1) ≤ x4 → ((x2 = 0 → (∃ po3 : Int32 → MM → Prop, Ci (gl G) (sM D cI cZ a) yR_edges wR_edges rmR_edges [.ref (a 0), .int x4, .int x1] M po3 ∧ ∀ (r6 : Int32) (M7 : MM), po3 r6 M7 → (K5 M7 x1 x2 (x3 + r6) (x4 + 1)))) ∧ (¬ x2 = 0 → (∃ j9 : Nat, x4 = nI j9 ∧ j9 < 24 ∧ ((¬ (M 1 j9) = 1 → (∃ po14 : Int32 → MM → Prop, Ci (gl G) (sM D cI cZ a) yR_edges wR_edges rmR_edges [.ref (a 0), .int x4, .int x1] M po14 ∧ ∀ (r17 : Int32) (M18 : MM), po14 r17 M18 → (K5 M18 x1 x2 (x3 + r17) (x4 + 1)))) ∧ ((M 1 j9) = 1 → (K5 M x1 x2 x3 (x4 + 1))))))))) : wx G (sM D cI cZ a) 5 (Qxi G (sM D cI cZ a) post) M 5 [(0, .ref (a 0)), (1, .int x1), (2, .int x2), (3, .int x3), (4, .int x4)] [] := by
  refine wx_iload F 4 dR_into_5 rfl ?_
  refine wx_aload_n F 0 dR_into_7 rfl rfl ?_
  refine wx_get (ci := 4) (C := qnR) (T := TR) (N := 25) (v := .int (M 0 1)) F 0 (Nat.le_of_ble_eq_true rfl) rfl rfl hiR 1 (by decide) rfl lfR_60 rfl dR_into_8 ?_
  refine wx_icmp_ge (tgt := 49) F dR_into_11 (by decide) (fun g1 => ?_) (fun g1 => ?_)
  · refine wx_iload_n F 3 dR_into_49 rfl rfl ?_
    exact wx_iret F dR_into_50 ((h).1 g1)
  · refine wx_iload_n F 2 dR_into_14 rfl rfl ?_
    refine wx_if_eq (tgt := 33) F dR_into_15 (by decide) (fun g2 => ?_) (fun g2 => ?_)
    · refine wx_iload_n F 3 dR_into_33 rfl rfl ?_
      refine wx_aload_n F 0 dR_into_34 rfl rfl ?_
      refine wx_iload F 4 dR_into_35 rfl ?_
      refine wx_iload_n F 1 dR_into_37 rfl rfl ?_
      obtain ⟨po3, c4, h5⟩ := ((h).2 g1).1 g2
      refine wx_calli F 0 c4 (Nat.le_of_ble_eq_true rfl) rfl rfl (cw_V F.1.2.2.2.2 lmR_71 cbR_edges rfl rfl ⟨by rw [hR]; exact Nat.le_of_ble_eq_true rfl, by rw [hR]; exact Nat.le_of_ble_eq_true rfl⟩) rfl rfl (Nat.le_of_ble_eq_true rfl) dR_into_38 (fun r6 M7 p8 => ?_)
      refine wx_iadd F dR_into_41 ?_
      refine wx_istore_n (lv' := [(3, .int (x3 + r6)), (0, .ref (a 0)), (1, .int x1), (2, .int x2), (4, .int x4)]) F dR_into_42 rfl (by decide) rfl ?_
      refine wx_iinc (lv' := [(4, .int (x4 + 1)), (3, .int (x3 + r6)), (0, .ref (a 0)), (1, .int x1), (2, .int x2)]) F 4 dR_into_43 rfl (ii1 _) (by decide) rfl ?_
      refine wx_goto (tgt := 5) F dR_into_46 (by decide) ?_
      exact wx_lv [2, 3, 4, 1, 0] rfl (hK5 _ _ _ _ _ (h5 r6 M7 p8))
    · refine wx_aload_n F 0 dR_into_18 rfl rfl ?_
      refine wx_get (ci := 4) (C := qnR) (T := TR) (N := 25) (v := .ref (a 1)) F 0 (Nat.le_of_ble_eq_true rfl) rfl rfl hiR 2 (by decide) rfl lfR_7 rfl dR_into_19 ?_
      refine wx_iload F 4 dR_into_22 rfl ?_
      obtain ⟨j9, e10, b11, h12⟩ := ((h).2 g1).2 g2
      refine wx_iald (N := 24) F 1 (Nat.le_of_ble_eq_true rfl) rfl 0 rfl e10 b11 (by omega) dR_into_24 ?_
      refine wx_iconst (v := 1) F dR_into_25 (by decide) ?_
      refine wx_icmp_ne (tgt := 33) F dR_into_26 (by decide) (fun g13 => ?_) (fun g13 => ?_)
      · refine wx_iload_n F 3 dR_into_33 rfl rfl ?_
        refine wx_aload_n F 0 dR_into_34 rfl rfl ?_
        refine wx_iload F 4 dR_into_35 rfl ?_
        refine wx_iload_n F 1 dR_into_37 rfl rfl ?_
        obtain ⟨po14, c15, h16⟩ := (h12).1 g13
        refine wx_calli F 0 c15 (Nat.le_of_ble_eq_true rfl) rfl rfl (cw_V F.1.2.2.2.2 lmR_71 cbR_edges rfl rfl ⟨by rw [hR]; exact Nat.le_of_ble_eq_true rfl, by rw [hR]; exact Nat.le_of_ble_eq_true rfl⟩) rfl rfl (Nat.le_of_ble_eq_true rfl) dR_into_38 (fun r17 M18 p19 => ?_)
        refine wx_iadd F dR_into_41 ?_
        refine wx_istore_n (lv' := [(3, .int (x3 + r17)), (0, .ref (a 0)), (1, .int x1), (2, .int x2), (4, .int x4)]) F dR_into_42 rfl (by decide) rfl ?_
        refine wx_iinc (lv' := [(4, .int (x4 + 1)), (3, .int (x3 + r17)), (0, .ref (a 0)), (1, .int x1), (2, .int x2)]) F 4 dR_into_43 rfl (ii1 _) (by decide) rfl ?_
        refine wx_goto (tgt := 5) F dR_into_46 (by decide) ?_
        exact wx_lv [2, 3, 4, 1, 0] rfl (hK5 _ _ _ _ _ (h16 r17 M18 p19))
      · refine wx_iload_n F 3 dR_into_29 rfl rfl ?_
        refine wx_goto (tgt := 42) F dR_into_30 (by decide) ?_
        refine wx_istore_n (lv' := [(3, .int x3), (0, .ref (a 0)), (1, .int x1), (2, .int x2), (4, .int x4)]) F dR_into_42 rfl (by decide) rfl ?_
        refine wx_iinc (lv' := [(4, .int (x4 + 1)), (3, .int x3), (0, .ref (a 0)), (1, .int x1), (2, .int x2)]) F 4 dR_into_43 rfl (ii1 _) (by decide) rfl ?_
        refine wx_goto (tgt := 5) F dR_into_46 (by decide) ?_
        exact wx_lv [2, 3, 4, 1, 0] rfl (hK5 _ _ _ _ _ ((h12).2 g13))
theorem oR_into {l : Launch} {D : va_G} {cI cZ : ClassId} {a : Nat → Nat} {post : Int32 → MM → Prop} (hJ : IJ (sM D cI cZ a)) {M : MM} {x1 x2 : Int32} (h : ∀ G : CX, gl G = l → gR G = rmR_into → FX G (sM D cI cZ a) cR_into 5 qnR (some .int) → wx G (sM D cI cZ a) 5 (Qxi G (sM D cI cZ a) post) M 0 [(0, .ref (a 0)), (1, .int x1), (2, .int x2)] []) : Ci l (sM D cI cZ a) yR_into wR_into rmR_into [.ref (a 0), .int x1, .int x2] M post := Ci.of (cc := cR_into) (nL := 5) rfl rfl (Nat.le_of_ble_eq_true rfl) hJ h
set_option maxRecDepth 20000 in
theorem sR_groupHasSource_0 {G : CX} {D : va_G} {cI cZ : ClassId} {a : Nat → Nat} {post : Int32 → MM → Prop} (F : FX G (sM D cI cZ a) cR_groupHasSource 4 qnR (some .boolean)) (hR : gR G = rmR_groupHasSource) {K4 : MM → Int32 → Int32 → Int32 → Prop} (hK4 : ∀ (M : MM) (x1 x2 x3 : Int32), K4 M x1 x2 x3 → wx G (sM D cI cZ a) 4 (Qxi G (sM D cI cZ a) post) M 4 [(0, .ref (a 0)), (1, .int x1), (2, .int x2), (3, .int x3)] []) {M : MM} {x1 : Int32} (h : K4 M x1 0 0) : wx G (sM D cI cZ a) 4 (Qxi G (sM D cI cZ a) post) M 0 [(0, .ref (a 0)), (1, .int x1)] [] := by
  refine wx_iconst (v := 0) F dR_groupHasSource_0 (by decide) ?_
  refine wx_istore_n (lv' := [(2, .int 0), (0, .ref (a 0)), (1, .int x1)]) F dR_groupHasSource_1 rfl (by decide) rfl ?_
  refine wx_iconst (v := 0) F dR_groupHasSource_2 (by decide) ?_
  refine wx_istore_n (lv' := [(3, .int 0), (2, .int 0), (0, .ref (a 0)), (1, .int x1)]) F dR_groupHasSource_3 rfl (by decide) rfl ?_
  exact wx_lv [2, 3, 1, 0] rfl (hK4 _ _ _ _ (h))
set_option maxRecDepth 20000 in
theorem sR_groupHasSource_4 {G : CX} {D : va_G} {cI cZ : ClassId} {a : Nat → Nat} {post : Int32 → MM → Prop} (F : FX G (sM D cI cZ a) cR_groupHasSource 4 qnR (some .boolean)) (hR : gR G = rmR_groupHasSource) {K4 : MM → Int32 → Int32 → Int32 → Prop} (hK4 : ∀ (M : MM) (x1 x2 x3 : Int32), K4 M x1 x2 x3 → wx G (sM D cI cZ a) 4 (Qxi G (sM D cI cZ a) post) M 4 [(0, .ref (a 0)), (1, .int x1), (2, .int x2), (3, .int x3)] []) {M : MM} {x1 x2 x3 : Int32} (h : ((M 0 1) ≤ x3 → (narrow .boolean (.int x2) = .int x2 ∧ post x2 M)) ∧ (¬ (M 0 1) ≤ x3 → ((¬ x2 = 0 → (K4 M x1 1 (x3 + 1))) ∧ (x2 = 0 → (∃ j3 : Nat, x3 = nI j3 ∧ j3 < 24 ∧ ((¬ (M 2 j3) = x1 → (K4 M x1 0 (x3 + 1))) ∧ ((M 2 j3) = x1 → (∃ po8 : Int32 → MM → Prop, Ci (gl G) (sM D cI cZ a) yR_into wR_into rmR_into [.ref (a 0), .int x3, .int 0] M po8 ∧ ∀ (r11 : Int32) (M12 : MM), po8 r11 M12 → ((¬ r11 = 0 → (K4 M12 x1 0 (x3 + 1))) ∧ (r11 = 0 → (K4 M12 x1 1 (x3 + 1)))))))))))) : wx G (sM D cI cZ a) 4 (Qxi G (sM D cI cZ a) post) M 4 [(0, .ref (a 0)), (1, .int x1), (2, .int x2), (3, .int x3)] [] := by
  refine wx_iload_n F 3 dR_groupHasSource_4 rfl rfl ?_
  refine wx_aload_n F 0 dR_groupHasSource_5 rfl rfl ?_
  refine wx_get (ci := 4) (C := qnR) (T := TR) (N := 25) (v := .int (M 0 1)) F 0 (Nat.le_of_ble_eq_true rfl) rfl rfl hiR 1 (by decide) rfl lfR_60 rfl dR_groupHasSource_6 ?_
  refine wx_icmp_ge (tgt := 47) F dR_groupHasSource_9 (by decide) (fun g1 => ?_) (fun g1 => ?_)
  · refine wx_iload_n F 2 dR_groupHasSource_47 rfl rfl ?_
    exact wx_zret F dR_groupHasSource_48 ((h).1 g1).1 ((h).1 g1).2
  · refine wx_iload_n F 2 dR_groupHasSource_12 rfl rfl ?_
    refine wx_if_ne (tgt := 35) F dR_groupHasSource_13 (by decide) (fun g2 => ?_) (fun g2 => ?_)
    · refine wx_iconst (v := 1) F dR_groupHasSource_35 (by decide) ?_
      refine wx_goto (tgt := 40) F dR_groupHasSource_36 (by decide) ?_
      refine wx_istore_n (lv' := [(2, .int 1), (0, .ref (a 0)), (1, .int x1), (3, .int x3)]) F dR_groupHasSource_40 rfl (by decide) rfl ?_
      refine wx_iinc (lv' := [(3, .int (x3 + 1)), (2, .int 1), (0, .ref (a 0)), (1, .int x1)]) F 3 dR_groupHasSource_41 rfl (ii1 _) (by decide) rfl ?_
      refine wx_goto (tgt := 4) F dR_groupHasSource_44 (by decide) ?_
      exact wx_lv [2, 3, 1, 0] rfl (hK4 _ _ _ _ (((h).2 g1).1 g2))
    · refine wx_aload_n F 0 dR_groupHasSource_16 rfl rfl ?_
      refine wx_get (ci := 4) (C := qnR) (T := TR) (N := 25) (v := .ref (a 2)) F 0 (Nat.le_of_ble_eq_true rfl) rfl rfl hiR 3 (by decide) rfl lfR_13 rfl dR_groupHasSource_17 ?_
      refine wx_iload_n F 3 dR_groupHasSource_20 rfl rfl ?_
      obtain ⟨j3, e4, b5, h6⟩ := ((h).2 g1).2 g2
      refine wx_iald (N := 24) F 2 (Nat.le_of_ble_eq_true rfl) rfl 0 rfl e4 b5 (by omega) dR_groupHasSource_21 ?_
      refine wx_iload_n F 1 dR_groupHasSource_22 rfl rfl ?_
      refine wx_icmp_ne (tgt := 39) F dR_groupHasSource_23 (by decide) (fun g7 => ?_) (fun g7 => ?_)
      · refine wx_iconst (v := 0) F dR_groupHasSource_39 (by decide) ?_
        refine wx_istore_n (lv' := [(2, .int 0), (0, .ref (a 0)), (1, .int x1), (3, .int x3)]) F dR_groupHasSource_40 rfl (by decide) rfl ?_
        refine wx_iinc (lv' := [(3, .int (x3 + 1)), (2, .int 0), (0, .ref (a 0)), (1, .int x1)]) F 3 dR_groupHasSource_41 rfl (ii1 _) (by decide) rfl ?_
        refine wx_goto (tgt := 4) F dR_groupHasSource_44 (by decide) ?_
        exact wx_lv [2, 3, 1, 0] rfl (hK4 _ _ _ _ ((h6).1 g7))
      · refine wx_aload_n F 0 dR_groupHasSource_26 rfl rfl ?_
        refine wx_iload_n F 3 dR_groupHasSource_27 rfl rfl ?_
        refine wx_iconst (v := 0) F dR_groupHasSource_28 (by decide) ?_
        obtain ⟨po8, c9, h10⟩ := (h6).2 g7
        refine wx_calli F 0 c9 (Nat.le_of_ble_eq_true rfl) rfl rfl (cw_V F.1.2.2.2.2 lmR_75 cbR_into rfl rfl ⟨by rw [hR]; exact Nat.le_of_ble_eq_true rfl, by rw [hR]; exact Nat.le_of_ble_eq_true rfl⟩) rfl rfl (Nat.le_of_ble_eq_true rfl) dR_groupHasSource_29 (fun r11 M12 p13 => ?_)
        refine wx_if_ne (tgt := 39) F dR_groupHasSource_32 (by decide) (fun g14 => ?_) (fun g14 => ?_)
        · refine wx_iconst (v := 0) F dR_groupHasSource_39 (by decide) ?_
          refine wx_istore_n (lv' := [(2, .int 0), (0, .ref (a 0)), (1, .int x1), (3, .int x3)]) F dR_groupHasSource_40 rfl (by decide) rfl ?_
          refine wx_iinc (lv' := [(3, .int (x3 + 1)), (2, .int 0), (0, .ref (a 0)), (1, .int x1)]) F 3 dR_groupHasSource_41 rfl (ii1 _) (by decide) rfl ?_
          refine wx_goto (tgt := 4) F dR_groupHasSource_44 (by decide) ?_
          exact wx_lv [2, 3, 1, 0] rfl (hK4 _ _ _ _ ((h10 r11 M12 p13).1 g14))
        · refine wx_iconst (v := 1) F dR_groupHasSource_35 (by decide) ?_
          refine wx_goto (tgt := 40) F dR_groupHasSource_36 (by decide) ?_
          refine wx_istore_n (lv' := [(2, .int 1), (0, .ref (a 0)), (1, .int x1), (3, .int x3)]) F dR_groupHasSource_40 rfl (by decide) rfl ?_
          refine wx_iinc (lv' := [(3, .int (x3 + 1)), (2, .int 1), (0, .ref (a 0)), (1, .int x1)]) F 3 dR_groupHasSource_41 rfl (ii1 _) (by decide) rfl ?_
          refine wx_goto (tgt := 4) F dR_groupHasSource_44 (by decide) ?_
          exact wx_lv [2, 3, 1, 0] rfl (hK4 _ _ _ _ ((h10 r11 M12 p13).2 g14))
theorem oR_groupHasSource {l : Launch} {D : va_G} {cI cZ : ClassId} {a : Nat → Nat} {post : Int32 → MM → Prop} (hJ : IJ (sM D cI cZ a)) {M : MM} {x1 : Int32} (h : ∀ G : CX, gl G = l → gR G = rmR_groupHasSource → FX G (sM D cI cZ a) cR_groupHasSource 4 qnR (some .boolean) → wx G (sM D cI cZ a) 4 (Qxi G (sM D cI cZ a) post) M 0 [(0, .ref (a 0)), (1, .int x1)] []) : Ci l (sM D cI cZ a) yR_groupHasSource wR_groupHasSource rmR_groupHasSource [.ref (a 0), .int x1] M post := Ci.of (cc := cR_groupHasSource) (nL := 4) rfl rfl (Nat.le_of_ble_eq_true rfl) hJ h
set_option maxRecDepth 20000 in
theorem sR_circle_0 {G : CX} {D : va_G} {cI cZ : ClassId} {a : Nat → Nat} {post : Int32 → MM → Prop} (F : FX G (sM D cI cZ a) cR_circle 5 qnR (some .boolean)) (hR : gR G = rmR_circle) {K2 : MM → Int32 → Prop} (hK2 : ∀ (M : MM) (x1 : Int32), K2 M x1 → wx G (sM D cI cZ a) 5 (Qxi G (sM D cI cZ a) post) M 2 [(0, .ref (a 0)), (1, .int x1)] []) {M : MM} (h : K2 M 0) : wx G (sM D cI cZ a) 5 (Qxi G (sM D cI cZ a) post) M 0 [(0, .ref (a 0))] [] := by
  refine wx_iconst (v := 0) F dR_circle_0 (by decide) ?_
  refine wx_istore_n (lv' := [(1, .int 0), (0, .ref (a 0))]) F dR_circle_1 rfl (by decide) rfl ?_
  exact wx_lv [1, 0] rfl (hK2 _ _ (h))
set_option maxRecDepth 20000 in
theorem sR_circle_2 {G : CX} {D : va_G} {cI cZ : ClassId} {a : Nat → Nat} {post : Int32 → MM → Prop} (F : FX G (sM D cI cZ a) cR_circle 5 qnR (some .boolean)) (hR : gR G = rmR_circle) {K12 : MM → Int32 → Int32 → Prop} (hK12 : ∀ (M : MM) (x1 x2 : Int32), K12 M x1 x2 → wx G (sM D cI cZ a) 5 (Qxi G (sM D cI cZ a) post) M 12 [(0, .ref (a 0)), (1, .int x1), (2, .int x2)] []) {K69 : MM → Int32 → Prop} (hK69 : ∀ (M : MM) (x1 : Int32), K69 M x1 → wx G (sM D cI cZ a) 5 (Qxi G (sM D cI cZ a) post) M 69 [(0, .ref (a 0)), (1, .int x1)] []) {M : MM} {x1 : Int32} (h : ((M 0 1) ≤ x1 → (K69 M 0)) ∧ (¬ (M 0 1) ≤ x1 → (K12 M x1 0))) : wx G (sM D cI cZ a) 5 (Qxi G (sM D cI cZ a) post) M 2 [(0, .ref (a 0)), (1, .int x1)] [] := by
  refine wx_iload_n F 1 dR_circle_2 rfl rfl ?_
  refine wx_aload_n F 0 dR_circle_3 rfl rfl ?_
  refine wx_get (ci := 4) (C := qnR) (T := TR) (N := 25) (v := .int (M 0 1)) F 0 (Nat.le_of_ble_eq_true rfl) rfl rfl hiR 1 (by decide) rfl lfR_60 rfl dR_circle_4 ?_
  refine wx_icmp_ge (tgt := 67) F dR_circle_7 (by decide) (fun g1 => ?_) (fun g1 => ?_)
  · refine wx_iconst (v := 0) F dR_circle_67 (by decide) ?_
    refine wx_istore_n (lv' := [(1, .int 0), (0, .ref (a 0))]) F dR_circle_68 rfl (by decide) rfl ?_
    exact wx_lv [1, 0] rfl (hK69 _ _ ((h).1 g1))
  · refine wx_iconst (v := 0) F dR_circle_10 (by decide) ?_
    refine wx_istore_n (lv' := [(2, .int 0), (0, .ref (a 0)), (1, .int x1)]) F dR_circle_11 rfl (by decide) rfl ?_
    exact wx_lv [1, 2, 0] rfl (hK12 _ _ _ ((h).2 g1))
set_option maxRecDepth 20000 in
theorem sR_circle_12 {G : CX} {D : va_G} {cI cZ : ClassId} {a : Nat → Nat} {post : Int32 → MM → Prop} (F : FX G (sM D cI cZ a) cR_circle 5 qnR (some .boolean)) (hR : gR G = rmR_circle) {K2 : MM → Int32 → Prop} (hK2 : ∀ (M : MM) (x1 : Int32), K2 M x1 → wx G (sM D cI cZ a) 5 (Qxi G (sM D cI cZ a) post) M 2 [(0, .ref (a 0)), (1, .int x1)] []) {K12 : MM → Int32 → Int32 → Prop} (hK12 : ∀ (M : MM) (x1 x2 : Int32), K12 M x1 x2 → wx G (sM D cI cZ a) 5 (Qxi G (sM D cI cZ a) post) M 12 [(0, .ref (a 0)), (1, .int x1), (2, .int x2)] []) {M : MM} {x1 x2 : Int32} (h : ((M 0 1) ≤ x2 → (K2 M (x1 + 1))) ∧ (¬ (M 0 1) ≤ x2 → (∃ j2 : Nat, x1 = nI j2 ∧ j2 < 24 ∧ (((M 1 j2) = 1 → (∃ j9 : Nat, ((24 * x1) + x2) = nI j9 ∧ j9 < 576 ∧ (∀ M7 : MM, M7 = mp M 13 j9 0 → (K12 M7 x1 (x2 + 1))))) ∧ (¬ (M 1 j2) = 1 → (∃ po13 : Int32 → MM → Prop, Ci (gl G) (sM D cI cZ a) yR_edges wR_edges rmR_edges [.ref (a 0), .int x1, .int x2] M po13 ∧ ∀ (r16 : Int32) (M17 : MM), po13 r16 M17 → ((r16 ≤ 0 → (∃ j22 : Nat, ((24 * x1) + x2) = nI j22 ∧ j22 < 576 ∧ (∀ M20 : MM, M20 = mp M17 13 j22 0 → (K12 M20 x1 (x2 + 1))))) ∧ (¬ r16 ≤ 0 → (∃ j28 : Nat, ((24 * x1) + x2) = nI j28 ∧ j28 < 576 ∧ (∀ M26 : MM, M26 = mp M17 13 j28 1 → (K12 M26 x1 (x2 + 1)))))))))))) : wx G (sM D cI cZ a) 5 (Qxi G (sM D cI cZ a) post) M 12 [(0, .ref (a 0)), (1, .int x1), (2, .int x2)] [] := by
  refine wx_iload_n F 2 dR_circle_12 rfl rfl ?_
  refine wx_aload_n F 0 dR_circle_13 rfl rfl ?_
  refine wx_get (ci := 4) (C := qnR) (T := TR) (N := 25) (v := .int (M 0 1)) F 0 (Nat.le_of_ble_eq_true rfl) rfl rfl hiR 1 (by decide) rfl lfR_60 rfl dR_circle_14 ?_
  refine wx_icmp_ge (tgt := 61) F dR_circle_17 (by decide) (fun g1 => ?_) (fun g1 => ?_)
  · refine wx_iinc (lv' := [(1, .int (x1 + 1)), (0, .ref (a 0)), (2, .int x2)]) F 1 dR_circle_61 rfl (ii1 _) (by decide) rfl ?_
    refine wx_goto (tgt := 2) F dR_circle_64 (by decide) ?_
    exact wx_lv [1, 0] rfl (hK2 _ _ ((h).1 g1))
  · refine wx_aload_n F 0 dR_circle_20 rfl rfl ?_
    refine wx_get (ci := 4) (C := qnR) (T := TR) (N := 25) (v := .ref (a 13)) F 0 (Nat.le_of_ble_eq_true rfl) rfl rfl hiR 14 (by decide) rfl lfR_47 rfl dR_circle_21 ?_
    refine wx_bipush (v := 24) F dR_circle_24 (by decide) ?_
    refine wx_iload_n F 1 dR_circle_26 rfl rfl ?_
    refine wx_imul F dR_circle_27 ?_
    refine wx_iload_n F 2 dR_circle_28 rfl rfl ?_
    refine wx_iadd F dR_circle_29 ?_
    refine wx_aload_n F 0 dR_circle_30 rfl rfl ?_
    refine wx_get (ci := 4) (C := qnR) (T := TR) (N := 25) (v := .ref (a 1)) F 0 (Nat.le_of_ble_eq_true rfl) rfl rfl hiR 2 (by decide) rfl lfR_7 rfl dR_circle_31 ?_
    refine wx_iload_n F 1 dR_circle_34 rfl rfl ?_
    obtain ⟨j2, e3, b4, h5⟩ := (h).2 g1
    refine wx_iald (N := 24) F 1 (Nat.le_of_ble_eq_true rfl) rfl 0 rfl e3 b4 (by omega) dR_circle_35 ?_
    refine wx_iconst (v := 1) F dR_circle_36 (by decide) ?_
    refine wx_icmp_eq (tgt := 53) F dR_circle_37 (by decide) (fun g6 => ?_) (fun g6 => ?_)
    · refine wx_iconst (v := 0) F dR_circle_53 (by decide) ?_
      obtain ⟨j9, e10, b11, h12⟩ := (h5).1 g6
      refine wx_zast (N := 576) F 13 (Nat.le_of_ble_eq_true rfl) (fun _ => rfl) 1 rfl e10 b11 (by omega) rfl dR_circle_54 (wx_nm (fun M7 e8 => ?_))
      refine wx_iinc (lv' := [(2, .int (x2 + 1)), (0, .ref (a 0)), (1, .int x1)]) F 2 dR_circle_55 rfl (ii1 _) (by decide) rfl ?_
      refine wx_goto (tgt := 12) F dR_circle_58 (by decide) ?_
      exact wx_lv [1, 2, 0] rfl (hK12 _ _ _ (h12 M7 e8))
    · refine wx_aload_n F 0 dR_circle_40 rfl rfl ?_
      refine wx_iload_n F 1 dR_circle_41 rfl rfl ?_
      refine wx_iload_n F 2 dR_circle_42 rfl rfl ?_
      obtain ⟨po13, c14, h15⟩ := (h5).2 g6
      refine wx_calli F 0 c14 (Nat.le_of_ble_eq_true rfl) rfl rfl (cw_V F.1.2.2.2.2 lmR_71 cbR_edges rfl rfl ⟨by rw [hR]; exact Nat.le_of_ble_eq_true rfl, by rw [hR]; exact Nat.le_of_ble_eq_true rfl⟩) rfl rfl (Nat.le_of_ble_eq_true rfl) dR_circle_43 (fun r16 M17 p18 => ?_)
      refine wx_if_le (tgt := 53) F dR_circle_46 (by decide) (fun g19 => ?_) (fun g19 => ?_)
      · refine wx_iconst (v := 0) F dR_circle_53 (by decide) ?_
        obtain ⟨j22, e23, b24, h25⟩ := (h15 r16 M17 p18).1 g19
        refine wx_zast (N := 576) F 13 (Nat.le_of_ble_eq_true rfl) (fun _ => rfl) 1 rfl e23 b24 (by omega) rfl dR_circle_54 (wx_nm (fun M20 e21 => ?_))
        refine wx_iinc (lv' := [(2, .int (x2 + 1)), (0, .ref (a 0)), (1, .int x1)]) F 2 dR_circle_55 rfl (ii1 _) (by decide) rfl ?_
        refine wx_goto (tgt := 12) F dR_circle_58 (by decide) ?_
        exact wx_lv [1, 2, 0] rfl (hK12 _ _ _ (h25 M20 e21))
      · refine wx_iconst (v := 1) F dR_circle_49 (by decide) ?_
        refine wx_goto (tgt := 54) F dR_circle_50 (by decide) ?_
        obtain ⟨j28, e29, b30, h31⟩ := (h15 r16 M17 p18).2 g19
        refine wx_zast (N := 576) F 13 (Nat.le_of_ble_eq_true rfl) (fun _ => rfl) 1 rfl e29 b30 (by omega) rfl dR_circle_54 (wx_nm (fun M26 e27 => ?_))
        refine wx_iinc (lv' := [(2, .int (x2 + 1)), (0, .ref (a 0)), (1, .int x1)]) F 2 dR_circle_55 rfl (ii1 _) (by decide) rfl ?_
        refine wx_goto (tgt := 12) F dR_circle_58 (by decide) ?_
        exact wx_lv [1, 2, 0] rfl (hK12 _ _ _ (h31 M26 e27))
set_option maxRecDepth 20000 in
theorem sR_circle_69 {G : CX} {D : va_G} {cI cZ : ClassId} {a : Nat → Nat} {post : Int32 → MM → Prop} (F : FX G (sM D cI cZ a) cR_circle 5 qnR (some .boolean)) (hR : gR G = rmR_circle) {K79 : MM → Int32 → Int32 → Prop} (hK79 : ∀ (M : MM) (x1 x2 : Int32), K79 M x1 x2 → wx G (sM D cI cZ a) 5 (Qxi G (sM D cI cZ a) post) M 79 [(0, .ref (a 0)), (1, .int x1), (2, .int x2)] []) {K189 : MM → Int32 → Int32 → Prop} (hK189 : ∀ (M : MM) (x1 x2 : Int32), K189 M x1 x2 → wx G (sM D cI cZ a) 5 (Qxi G (sM D cI cZ a) post) M 189 [(0, .ref (a 0)), (1, .int x1), (2, .int x2)] []) {M : MM} {x1 : Int32} (h : ((M 0 1) ≤ x1 → (K189 M 0 0)) ∧ (¬ (M 0 1) ≤ x1 → (K79 M x1 0))) : wx G (sM D cI cZ a) 5 (Qxi G (sM D cI cZ a) post) M 69 [(0, .ref (a 0)), (1, .int x1)] [] := by
  refine wx_iload_n F 1 dR_circle_69 rfl rfl ?_
  refine wx_aload_n F 0 dR_circle_70 rfl rfl ?_
  refine wx_get (ci := 4) (C := qnR) (T := TR) (N := 25) (v := .int (M 0 1)) F 0 (Nat.le_of_ble_eq_true rfl) rfl rfl hiR 1 (by decide) rfl lfR_60 rfl dR_circle_71 ?_
  refine wx_icmp_ge (tgt := 185) F dR_circle_74 (by decide) (fun g1 => ?_) (fun g1 => ?_)
  · refine wx_iconst (v := 0) F dR_circle_185 (by decide) ?_
    refine wx_istore_n (lv' := [(1, .int 0), (0, .ref (a 0))]) F dR_circle_186 rfl (by decide) rfl ?_
    refine wx_iconst (v := 0) F dR_circle_187 (by decide) ?_
    refine wx_istore_n (lv' := [(2, .int 0), (1, .int 0), (0, .ref (a 0))]) F dR_circle_188 rfl (by decide) rfl ?_
    exact wx_lv [2, 1, 0] rfl (hK189 _ _ _ ((h).1 g1))
  · refine wx_iconst (v := 0) F dR_circle_77 (by decide) ?_
    refine wx_istore_n (lv' := [(2, .int 0), (0, .ref (a 0)), (1, .int x1)]) F dR_circle_78 rfl (by decide) rfl ?_
    exact wx_lv [1, 2, 0] rfl (hK79 _ _ _ ((h).2 g1))
set_option maxRecDepth 20000 in
theorem sR_circle_79 {G : CX} {D : va_G} {cI cZ : ClassId} {a : Nat → Nat} {post : Int32 → MM → Prop} (F : FX G (sM D cI cZ a) cR_circle 5 qnR (some .boolean)) (hR : gR G = rmR_circle) {K69 : MM → Int32 → Prop} (hK69 : ∀ (M : MM) (x1 : Int32), K69 M x1 → wx G (sM D cI cZ a) 5 (Qxi G (sM D cI cZ a) post) M 69 [(0, .ref (a 0)), (1, .int x1)] []) {K89 : MM → Int32 → Int32 → Int32 → Prop} (hK89 : ∀ (M : MM) (x1 x2 x3 : Int32), K89 M x1 x2 x3 → wx G (sM D cI cZ a) 5 (Qxi G (sM D cI cZ a) post) M 89 [(0, .ref (a 0)), (1, .int x1), (2, .int x2), (3, .int x3)] []) {M : MM} {x1 x2 : Int32} (h : ((M 0 1) ≤ x2 → (K69 M (x1 + 1))) ∧ (¬ (M 0 1) ≤ x2 → (K89 M x1 x2 0))) : wx G (sM D cI cZ a) 5 (Qxi G (sM D cI cZ a) post) M 79 [(0, .ref (a 0)), (1, .int x1), (2, .int x2)] [] := by
  refine wx_iload_n F 2 dR_circle_79 rfl rfl ?_
  refine wx_aload_n F 0 dR_circle_80 rfl rfl ?_
  refine wx_get (ci := 4) (C := qnR) (T := TR) (N := 25) (v := .int (M 0 1)) F 0 (Nat.le_of_ble_eq_true rfl) rfl rfl hiR 1 (by decide) rfl lfR_60 rfl dR_circle_81 ?_
  refine wx_icmp_ge (tgt := 179) F dR_circle_84 (by decide) (fun g1 => ?_) (fun g1 => ?_)
  · refine wx_iinc (lv' := [(1, .int (x1 + 1)), (0, .ref (a 0)), (2, .int x2)]) F 1 dR_circle_179 rfl (ii1 _) (by decide) rfl ?_
    refine wx_goto (tgt := 69) F dR_circle_182 (by decide) ?_
    exact wx_lv [1, 0] rfl (hK69 _ _ ((h).1 g1))
  · refine wx_iconst (v := 0) F dR_circle_87 (by decide) ?_
    refine wx_istore_n (lv' := [(3, .int 0), (0, .ref (a 0)), (1, .int x1), (2, .int x2)]) F dR_circle_88 rfl (by decide) rfl ?_
    exact wx_lv [1, 2, 3, 0] rfl (hK89 _ _ _ _ ((h).2 g1))
set_option maxRecDepth 20000 in
theorem sR_circle_89 {G : CX} {D : va_G} {cI cZ : ClassId} {a : Nat → Nat} {post : Int32 → MM → Prop} (F : FX G (sM D cI cZ a) cR_circle 5 qnR (some .boolean)) (hR : gR G = rmR_circle) {K79 : MM → Int32 → Int32 → Prop} (hK79 : ∀ (M : MM) (x1 x2 : Int32), K79 M x1 x2 → wx G (sM D cI cZ a) 5 (Qxi G (sM D cI cZ a) post) M 79 [(0, .ref (a 0)), (1, .int x1), (2, .int x2)] []) {K89 : MM → Int32 → Int32 → Int32 → Prop} (hK89 : ∀ (M : MM) (x1 x2 x3 : Int32), K89 M x1 x2 x3 → wx G (sM D cI cZ a) 5 (Qxi G (sM D cI cZ a) post) M 89 [(0, .ref (a 0)), (1, .int x1), (2, .int x2), (3, .int x3)] []) {M : MM} {x1 x2 x3 : Int32} (h : ((M 0 1) ≤ x3 → (K79 M x1 (x2 + 1))) ∧ (¬ (M 0 1) ≤ x3 → (∃ j2 : Nat, ((24 * x2) + x1) = nI j2 ∧ j2 < 576 ∧ (((M 13 j2) = 0 → (∃ j7 : Nat, ((24 * x2) + x3) = nI j7 ∧ j7 < 576 ∧ ((¬ (M 13 j7) = 0 → (∀ M12 : MM, M12 = mp M 13 j7 1 → (K89 M12 x1 x2 (x3 + 1)))) ∧ ((M 13 j7) = 0 → (∀ M14 : MM, M14 = mp M 13 j7 0 → (K89 M14 x1 x2 (x3 + 1))))))) ∧ (¬ (M 13 j2) = 0 → (∃ j16 : Nat, ((24 * x1) + x3) = nI j16 ∧ j16 < 576 ∧ (((M 13 j16) = 0 → (∃ j21 : Nat, ((24 * x2) + x3) = nI j21 ∧ j21 < 576 ∧ ((¬ (M 13 j21) = 0 → (∀ M26 : MM, M26 = mp M 13 j21 1 → (K89 M26 x1 x2 (x3 + 1)))) ∧ ((M 13 j21) = 0 → (∀ M28 : MM, M28 = mp M 13 j21 0 → (K89 M28 x1 x2 (x3 + 1))))))) ∧ (¬ (M 13 j16) = 0 → (∃ j30 : Nat, ((24 * x2) + x3) = nI j30 ∧ j30 < 576 ∧ ((¬ (M 13 j30) = 0 → (∀ M35 : MM, M35 = mp M 13 j30 1 → (K89 M35 x1 x2 (x3 + 1)))) ∧ ((M 13 j30) = 0 → (∀ M37 : MM, M37 = mp M 13 j30 1 → (K89 M37 x1 x2 (x3 + 1)))))))))))))) : wx G (sM D cI cZ a) 5 (Qxi G (sM D cI cZ a) post) M 89 [(0, .ref (a 0)), (1, .int x1), (2, .int x2), (3, .int x3)] [] := by
  refine wx_iload_n F 3 dR_circle_89 rfl rfl ?_
  refine wx_aload_n F 0 dR_circle_90 rfl rfl ?_
  refine wx_get (ci := 4) (C := qnR) (T := TR) (N := 25) (v := .int (M 0 1)) F 0 (Nat.le_of_ble_eq_true rfl) rfl rfl hiR 1 (by decide) rfl lfR_60 rfl dR_circle_91 ?_
  refine wx_icmp_ge (tgt := 173) F dR_circle_94 (by decide) (fun g1 => ?_) (fun g1 => ?_)
  · refine wx_iinc (lv' := [(2, .int (x2 + 1)), (0, .ref (a 0)), (1, .int x1), (3, .int x3)]) F 2 dR_circle_173 rfl (ii1 _) (by decide) rfl ?_
    refine wx_goto (tgt := 79) F dR_circle_176 (by decide) ?_
    exact wx_lv [1, 2, 0] rfl (hK79 _ _ _ ((h).1 g1))
  · refine wx_aload_n F 0 dR_circle_97 rfl rfl ?_
    refine wx_get (ci := 4) (C := qnR) (T := TR) (N := 25) (v := .ref (a 13)) F 0 (Nat.le_of_ble_eq_true rfl) rfl rfl hiR 14 (by decide) rfl lfR_47 rfl dR_circle_98 ?_
    refine wx_bipush (v := 24) F dR_circle_101 (by decide) ?_
    refine wx_iload_n F 2 dR_circle_103 rfl rfl ?_
    refine wx_imul F dR_circle_104 ?_
    refine wx_iload_n F 1 dR_circle_105 rfl rfl ?_
    refine wx_iadd F dR_circle_106 ?_
    obtain ⟨j2, e3, b4, h5⟩ := (h).2 g1
    refine wx_zald (N := 576) F 13 (Nat.le_of_ble_eq_true rfl) rfl 1 rfl e3 b4 (by omega) dR_circle_107 ?_
    refine wx_if_eq (tgt := 129) F dR_circle_108 (by decide) (fun g6 => ?_) (fun g6 => ?_)
    · refine wx_iconst (v := 0) F dR_circle_129 (by decide) ?_
      refine wx_istore (lv' := [(4, .int 0), (0, .ref (a 0)), (1, .int x1), (2, .int x2), (3, .int x3)]) F dR_circle_130 (by decide) rfl ?_
      refine wx_aload_n F 1 dR_circle_132 rfl rfl ?_
      refine wx_get (ci := 4) (C := qnR) (T := TR) (N := 25) (v := .ref (a 13)) F 0 (Nat.le_of_ble_eq_true rfl) rfl rfl hiR 14 (by decide) rfl lfR_47 rfl dR_circle_133 ?_
      refine wx_bipush (v := 24) F dR_circle_136 (by decide) ?_
      refine wx_iload_n F 3 dR_circle_138 rfl rfl ?_
      refine wx_imul F dR_circle_139 ?_
      refine wx_iload_n F 4 dR_circle_140 rfl rfl ?_
      refine wx_iadd F dR_circle_141 ?_
      refine wx_aload_n F 1 dR_circle_142 rfl rfl ?_
      refine wx_get (ci := 4) (C := qnR) (T := TR) (N := 25) (v := .ref (a 13)) F 0 (Nat.le_of_ble_eq_true rfl) rfl rfl hiR 14 (by decide) rfl lfR_47 rfl dR_circle_143 ?_
      refine wx_bipush (v := 24) F dR_circle_146 (by decide) ?_
      refine wx_iload_n F 3 dR_circle_148 rfl rfl ?_
      refine wx_imul F dR_circle_149 ?_
      refine wx_iload_n F 4 dR_circle_150 rfl rfl ?_
      refine wx_iadd F dR_circle_151 ?_
      obtain ⟨j7, e8, b9, h10⟩ := (h5).1 g6
      refine wx_zald (N := 576) F 13 (Nat.le_of_ble_eq_true rfl) rfl 1 rfl e8 b9 (by omega) dR_circle_152 ?_
      refine wx_if_ne (tgt := 161) F dR_circle_153 (by decide) (fun g11 => ?_) (fun g11 => ?_)
      · refine wx_iconst (v := 1) F dR_circle_161 (by decide) ?_
        refine wx_goto (tgt := 166) F dR_circle_162 (by decide) ?_
        refine wx_zast (N := 576) F 13 (Nat.le_of_ble_eq_true rfl) (fun _ => rfl) 1 rfl e8 b9 (by omega) rfl dR_circle_166 (wx_nm (fun M12 e13 => ?_))
        refine wx_iinc (lv' := [(3, .int (x3 + 1)), (4, .int 0), (0, .ref (a 0)), (1, .int x1), (2, .int x2)]) F 4 dR_circle_167 rfl (ii1 _) (by decide) rfl ?_
        refine wx_goto (tgt := 89) F dR_circle_170 (by decide) ?_
        exact wx_lv [2, 3, 4, 0] rfl (hK89 _ _ _ _ (((h10).1 g11) M12 e13))
      · refine wx_iload F 0 dR_circle_156 rfl ?_
        refine wx_if_eq (tgt := 165) F dR_circle_158 (by decide) (fun _ => ?_) (fun g => False.elim (by revert g; decide))
        refine wx_iconst (v := 0) F dR_circle_165 (by decide) ?_
        refine wx_zast (N := 576) F 13 (Nat.le_of_ble_eq_true rfl) (fun _ => rfl) 1 rfl e8 b9 (by omega) rfl dR_circle_166 (wx_nm (fun M14 e15 => ?_))
        refine wx_iinc (lv' := [(3, .int (x3 + 1)), (4, .int 0), (0, .ref (a 0)), (1, .int x1), (2, .int x2)]) F 4 dR_circle_167 rfl (ii1 _) (by decide) rfl ?_
        refine wx_goto (tgt := 89) F dR_circle_170 (by decide) ?_
        exact wx_lv [2, 3, 4, 0] rfl (hK89 _ _ _ _ (((h10).2 g11) M14 e15))
    · refine wx_aload_n F 0 dR_circle_111 rfl rfl ?_
      refine wx_get (ci := 4) (C := qnR) (T := TR) (N := 25) (v := .ref (a 13)) F 0 (Nat.le_of_ble_eq_true rfl) rfl rfl hiR 14 (by decide) rfl lfR_47 rfl dR_circle_112 ?_
      refine wx_bipush (v := 24) F dR_circle_115 (by decide) ?_
      refine wx_iload_n F 1 dR_circle_117 rfl rfl ?_
      refine wx_imul F dR_circle_118 ?_
      refine wx_iload_n F 3 dR_circle_119 rfl rfl ?_
      refine wx_iadd F dR_circle_120 ?_
      obtain ⟨j16, e17, b18, h19⟩ := (h5).2 g6
      refine wx_zald (N := 576) F 13 (Nat.le_of_ble_eq_true rfl) rfl 1 rfl e17 b18 (by omega) dR_circle_121 ?_
      refine wx_if_eq (tgt := 129) F dR_circle_122 (by decide) (fun g20 => ?_) (fun g20 => ?_)
      · refine wx_iconst (v := 0) F dR_circle_129 (by decide) ?_
        refine wx_istore (lv' := [(4, .int 0), (0, .ref (a 0)), (1, .int x1), (2, .int x2), (3, .int x3)]) F dR_circle_130 (by decide) rfl ?_
        refine wx_aload_n F 1 dR_circle_132 rfl rfl ?_
        refine wx_get (ci := 4) (C := qnR) (T := TR) (N := 25) (v := .ref (a 13)) F 0 (Nat.le_of_ble_eq_true rfl) rfl rfl hiR 14 (by decide) rfl lfR_47 rfl dR_circle_133 ?_
        refine wx_bipush (v := 24) F dR_circle_136 (by decide) ?_
        refine wx_iload_n F 3 dR_circle_138 rfl rfl ?_
        refine wx_imul F dR_circle_139 ?_
        refine wx_iload_n F 4 dR_circle_140 rfl rfl ?_
        refine wx_iadd F dR_circle_141 ?_
        refine wx_aload_n F 1 dR_circle_142 rfl rfl ?_
        refine wx_get (ci := 4) (C := qnR) (T := TR) (N := 25) (v := .ref (a 13)) F 0 (Nat.le_of_ble_eq_true rfl) rfl rfl hiR 14 (by decide) rfl lfR_47 rfl dR_circle_143 ?_
        refine wx_bipush (v := 24) F dR_circle_146 (by decide) ?_
        refine wx_iload_n F 3 dR_circle_148 rfl rfl ?_
        refine wx_imul F dR_circle_149 ?_
        refine wx_iload_n F 4 dR_circle_150 rfl rfl ?_
        refine wx_iadd F dR_circle_151 ?_
        obtain ⟨j21, e22, b23, h24⟩ := (h19).1 g20
        refine wx_zald (N := 576) F 13 (Nat.le_of_ble_eq_true rfl) rfl 1 rfl e22 b23 (by omega) dR_circle_152 ?_
        refine wx_if_ne (tgt := 161) F dR_circle_153 (by decide) (fun g25 => ?_) (fun g25 => ?_)
        · refine wx_iconst (v := 1) F dR_circle_161 (by decide) ?_
          refine wx_goto (tgt := 166) F dR_circle_162 (by decide) ?_
          refine wx_zast (N := 576) F 13 (Nat.le_of_ble_eq_true rfl) (fun _ => rfl) 1 rfl e22 b23 (by omega) rfl dR_circle_166 (wx_nm (fun M26 e27 => ?_))
          refine wx_iinc (lv' := [(3, .int (x3 + 1)), (4, .int 0), (0, .ref (a 0)), (1, .int x1), (2, .int x2)]) F 4 dR_circle_167 rfl (ii1 _) (by decide) rfl ?_
          refine wx_goto (tgt := 89) F dR_circle_170 (by decide) ?_
          exact wx_lv [2, 3, 4, 0] rfl (hK89 _ _ _ _ (((h24).1 g25) M26 e27))
        · refine wx_iload F 0 dR_circle_156 rfl ?_
          refine wx_if_eq (tgt := 165) F dR_circle_158 (by decide) (fun _ => ?_) (fun g => False.elim (by revert g; decide))
          refine wx_iconst (v := 0) F dR_circle_165 (by decide) ?_
          refine wx_zast (N := 576) F 13 (Nat.le_of_ble_eq_true rfl) (fun _ => rfl) 1 rfl e22 b23 (by omega) rfl dR_circle_166 (wx_nm (fun M28 e29 => ?_))
          refine wx_iinc (lv' := [(3, .int (x3 + 1)), (4, .int 0), (0, .ref (a 0)), (1, .int x1), (2, .int x2)]) F 4 dR_circle_167 rfl (ii1 _) (by decide) rfl ?_
          refine wx_goto (tgt := 89) F dR_circle_170 (by decide) ?_
          exact wx_lv [2, 3, 4, 0] rfl (hK89 _ _ _ _ (((h24).2 g25) M28 e29))
      · refine wx_iconst (v := 1) F dR_circle_125 (by decide) ?_
        refine wx_goto (tgt := 130) F dR_circle_126 (by decide) ?_
        refine wx_istore (lv' := [(4, .int 1), (0, .ref (a 0)), (1, .int x1), (2, .int x2), (3, .int x3)]) F dR_circle_130 (by decide) rfl ?_
        refine wx_aload_n F 1 dR_circle_132 rfl rfl ?_
        refine wx_get (ci := 4) (C := qnR) (T := TR) (N := 25) (v := .ref (a 13)) F 0 (Nat.le_of_ble_eq_true rfl) rfl rfl hiR 14 (by decide) rfl lfR_47 rfl dR_circle_133 ?_
        refine wx_bipush (v := 24) F dR_circle_136 (by decide) ?_
        refine wx_iload_n F 3 dR_circle_138 rfl rfl ?_
        refine wx_imul F dR_circle_139 ?_
        refine wx_iload_n F 4 dR_circle_140 rfl rfl ?_
        refine wx_iadd F dR_circle_141 ?_
        refine wx_aload_n F 1 dR_circle_142 rfl rfl ?_
        refine wx_get (ci := 4) (C := qnR) (T := TR) (N := 25) (v := .ref (a 13)) F 0 (Nat.le_of_ble_eq_true rfl) rfl rfl hiR 14 (by decide) rfl lfR_47 rfl dR_circle_143 ?_
        refine wx_bipush (v := 24) F dR_circle_146 (by decide) ?_
        refine wx_iload_n F 3 dR_circle_148 rfl rfl ?_
        refine wx_imul F dR_circle_149 ?_
        refine wx_iload_n F 4 dR_circle_150 rfl rfl ?_
        refine wx_iadd F dR_circle_151 ?_
        obtain ⟨j30, e31, b32, h33⟩ := (h19).2 g20
        refine wx_zald (N := 576) F 13 (Nat.le_of_ble_eq_true rfl) rfl 1 rfl e31 b32 (by omega) dR_circle_152 ?_
        refine wx_if_ne (tgt := 161) F dR_circle_153 (by decide) (fun g34 => ?_) (fun g34 => ?_)
        · refine wx_iconst (v := 1) F dR_circle_161 (by decide) ?_
          refine wx_goto (tgt := 166) F dR_circle_162 (by decide) ?_
          refine wx_zast (N := 576) F 13 (Nat.le_of_ble_eq_true rfl) (fun _ => rfl) 1 rfl e31 b32 (by omega) rfl dR_circle_166 (wx_nm (fun M35 e36 => ?_))
          refine wx_iinc (lv' := [(3, .int (x3 + 1)), (4, .int 1), (0, .ref (a 0)), (1, .int x1), (2, .int x2)]) F 4 dR_circle_167 rfl (ii1 _) (by decide) rfl ?_
          refine wx_goto (tgt := 89) F dR_circle_170 (by decide) ?_
          exact wx_lv [2, 3, 4, 0] rfl (hK89 _ _ _ _ (((h33).1 g34) M35 e36))
        · refine wx_iload F 0 dR_circle_156 rfl ?_
          refine wx_if_eq (tgt := 165) F dR_circle_158 (by decide) (fun g => False.elim (by revert g; decide)) (fun _ => ?_)
          refine wx_iconst (v := 1) F dR_circle_161 (by decide) ?_
          refine wx_goto (tgt := 166) F dR_circle_162 (by decide) ?_
          refine wx_zast (N := 576) F 13 (Nat.le_of_ble_eq_true rfl) (fun _ => rfl) 1 rfl e31 b32 (by omega) rfl dR_circle_166 (wx_nm (fun M37 e38 => ?_))
          refine wx_iinc (lv' := [(3, .int (x3 + 1)), (4, .int 1), (0, .ref (a 0)), (1, .int x1), (2, .int x2)]) F 4 dR_circle_167 rfl (ii1 _) (by decide) rfl ?_
          refine wx_goto (tgt := 89) F dR_circle_170 (by decide) ?_
          exact wx_lv [2, 3, 4, 0] rfl (hK89 _ _ _ _ (((h33).2 g34) M37 e38))
set_option maxRecDepth 20000 in
theorem sR_circle_189 {G : CX} {D : va_G} {cI cZ : ClassId} {a : Nat → Nat} {post : Int32 → MM → Prop} (F : FX G (sM D cI cZ a) cR_circle 5 qnR (some .boolean)) (hR : gR G = rmR_circle) {K189 : MM → Int32 → Int32 → Prop} (hK189 : ∀ (M : MM) (x1 x2 : Int32), K189 M x1 x2 → wx G (sM D cI cZ a) 5 (Qxi G (sM D cI cZ a) post) M 189 [(0, .ref (a 0)), (1, .int x1), (2, .int x2)] []) {M : MM} {x1 x2 : Int32} (h : ((M 0 1) ≤ x2 → (narrow .boolean (.int x1) = .int x1 ∧ post x1 M)) ∧ (¬ (M 0 1) ≤ x2 → ((¬ x1 = 0 → (K189 M 1 (x2 + 1))) ∧ (x1 = 0 → (∃ j3 : Nat, (25 * x2) = nI j3 ∧ j3 < 576 ∧ (((M 13 j3) = 0 → (K189 M 0 (x2 + 1))) ∧ (¬ (M 13 j3) = 0 → (K189 M 1 (x2 + 1))))))))) : wx G (sM D cI cZ a) 5 (Qxi G (sM D cI cZ a) post) M 189 [(0, .ref (a 0)), (1, .int x1), (2, .int x2)] [] := by
  refine wx_iload_n F 2 dR_circle_189 rfl rfl ?_
  refine wx_aload_n F 0 dR_circle_190 rfl rfl ?_
  refine wx_get (ci := 4) (C := qnR) (T := TR) (N := 25) (v := .int (M 0 1)) F 0 (Nat.le_of_ble_eq_true rfl) rfl rfl hiR 1 (by decide) rfl lfR_60 rfl dR_circle_191 ?_
  refine wx_icmp_ge (tgt := 225) F dR_circle_194 (by decide) (fun g1 => ?_) (fun g1 => ?_)
  · refine wx_iload_n F 1 dR_circle_225 rfl rfl ?_
    exact wx_zret F dR_circle_226 ((h).1 g1).1 ((h).1 g1).2
  · refine wx_iload_n F 1 dR_circle_197 rfl rfl ?_
    refine wx_if_ne (tgt := 213) F dR_circle_198 (by decide) (fun g2 => ?_) (fun g2 => ?_)
    · refine wx_iconst (v := 1) F dR_circle_213 (by decide) ?_
      refine wx_goto (tgt := 218) F dR_circle_214 (by decide) ?_
      refine wx_istore_n (lv' := [(1, .int 1), (0, .ref (a 0)), (2, .int x2)]) F dR_circle_218 rfl (by decide) rfl ?_
      refine wx_iinc (lv' := [(2, .int (x2 + 1)), (1, .int 1), (0, .ref (a 0))]) F 2 dR_circle_219 rfl (ii1 _) (by decide) rfl ?_
      refine wx_goto (tgt := 189) F dR_circle_222 (by decide) ?_
      exact wx_lv [2, 1, 0] rfl (hK189 _ _ _ (((h).2 g1).1 g2))
    · refine wx_aload_n F 0 dR_circle_201 rfl rfl ?_
      refine wx_get (ci := 4) (C := qnR) (T := TR) (N := 25) (v := .ref (a 13)) F 0 (Nat.le_of_ble_eq_true rfl) rfl rfl hiR 14 (by decide) rfl lfR_47 rfl dR_circle_202 ?_
      refine wx_bipush (v := 25) F dR_circle_205 (by decide) ?_
      refine wx_iload_n F 2 dR_circle_207 rfl rfl ?_
      refine wx_imul F dR_circle_208 ?_
      obtain ⟨j3, e4, b5, h6⟩ := ((h).2 g1).2 g2
      refine wx_zald (N := 576) F 13 (Nat.le_of_ble_eq_true rfl) rfl 1 rfl e4 b5 (by omega) dR_circle_209 ?_
      refine wx_if_eq (tgt := 217) F dR_circle_210 (by decide) (fun g7 => ?_) (fun g7 => ?_)
      · refine wx_iconst (v := 0) F dR_circle_217 (by decide) ?_
        refine wx_istore_n (lv' := [(1, .int 0), (0, .ref (a 0)), (2, .int x2)]) F dR_circle_218 rfl (by decide) rfl ?_
        refine wx_iinc (lv' := [(2, .int (x2 + 1)), (1, .int 0), (0, .ref (a 0))]) F 2 dR_circle_219 rfl (ii1 _) (by decide) rfl ?_
        refine wx_goto (tgt := 189) F dR_circle_222 (by decide) ?_
        exact wx_lv [2, 1, 0] rfl (hK189 _ _ _ ((h6).1 g7))
      · refine wx_iconst (v := 1) F dR_circle_213 (by decide) ?_
        refine wx_goto (tgt := 218) F dR_circle_214 (by decide) ?_
        refine wx_istore_n (lv' := [(1, .int 1), (0, .ref (a 0)), (2, .int x2)]) F dR_circle_218 rfl (by decide) rfl ?_
        refine wx_iinc (lv' := [(2, .int (x2 + 1)), (1, .int 1), (0, .ref (a 0))]) F 2 dR_circle_219 rfl (ii1 _) (by decide) rfl ?_
        refine wx_goto (tgt := 189) F dR_circle_222 (by decide) ?_
        exact wx_lv [2, 1, 0] rfl (hK189 _ _ _ ((h6).2 g7))
theorem oR_circle {l : Launch} {D : va_G} {cI cZ : ClassId} {a : Nat → Nat} {post : Int32 → MM → Prop} (hJ : IJ (sM D cI cZ a)) {M : MM} (h : ∀ G : CX, gl G = l → gR G = rmR_circle → FX G (sM D cI cZ a) cR_circle 5 qnR (some .boolean) → wx G (sM D cI cZ a) 5 (Qxi G (sM D cI cZ a) post) M 0 [(0, .ref (a 0))] []) : Ci l (sM D cI cZ a) yR_circle wR_circle rmR_circle [.ref (a 0)] M post := Ci.of (cc := cR_circle) (nL := 5) rfl rfl (Nat.le_of_ble_eq_true rfl) hJ h
set_option maxRecDepth 20000 in
theorem sR_check_0 {G : CX} {D : va_G} {cI cZ : ClassId} {a : Nat → Nat} {post : Int32 → MM → Prop} (F : FX G (sM D cI cZ a) cR_check 2 qnR (some .int)) (hR : gR G = rmR_check) {K11 : MM → Int32 → Prop} (hK11 : ∀ (M : MM) (x1 : Int32), K11 M x1 → wx G (sM D cI cZ a) 2 (Qxi G (sM D cI cZ a) post) M 11 [(0, .ref (a 0)), (1, .int x1)] []) {M : MM} (h : (¬ (M 0 1) = 0 → (K11 M 0)) ∧ ((M 0 1) = 0 → (post 1 M))) : wx G (sM D cI cZ a) 2 (Qxi G (sM D cI cZ a) post) M 0 [(0, .ref (a 0))] [] := by
  refine wx_aload_n F 0 dR_check_0 rfl rfl ?_
  refine wx_get (ci := 4) (C := qnR) (T := TR) (N := 25) (v := .int (M 0 1)) F 0 (Nat.le_of_ble_eq_true rfl) rfl rfl hiR 1 (by decide) rfl lfR_60 rfl dR_check_1 ?_
  refine wx_if_ne (tgt := 9) F dR_check_4 (by decide) (fun g1 => ?_) (fun g1 => ?_)
  · refine wx_iconst (v := 0) F dR_check_9 (by decide) ?_
    refine wx_istore_n (lv' := [(1, .int 0), (0, .ref (a 0))]) F dR_check_10 rfl (by decide) rfl ?_
    exact wx_lv [1, 0] rfl (hK11 _ _ ((h).1 g1))
  · refine wx_iconst (v := 1) F dR_check_7 (by decide) ?_
    exact wx_iret F dR_check_8 ((h).2 g1)
set_option maxRecDepth 20000 in
theorem sR_check_11 {G : CX} {D : va_G} {cI cZ : ClassId} {a : Nat → Nat} {post : Int32 → MM → Prop} (F : FX G (sM D cI cZ a) cR_check 2 qnR (some .int)) (hR : gR G = rmR_check) {K11 : MM → Int32 → Prop} (hK11 : ∀ (M : MM) (x1 : Int32), K11 M x1 → wx G (sM D cI cZ a) 2 (Qxi G (sM D cI cZ a) post) M 11 [(0, .ref (a 0)), (1, .int x1)] []) {M : MM} {x1 : Int32} (h : ((M 0 1) ≤ x1 → (∃ po2 : Int32 → MM → Prop, Ci (gl G) (sM D cI cZ a) yR_circle wR_circle rmR_circle [.ref (a 0)] M po2 ∧ ∀ (r5 : Int32) (M6 : MM), po2 r5 M6 → ((r5 = 0 → (post 0 M6)) ∧ (¬ r5 = 0 → (post 3 M6))))) ∧ (¬ (M 0 1) ≤ x1 → (∃ j9 : Nat, x1 = nI j9 ∧ j9 < 24 ∧ (∃ po13 : Int32 → MM → Prop, Ci (gl G) (sM D cI cZ a) yR_groupHasSource wR_groupHasSource rmR_groupHasSource [.ref (a 0), .int (M 2 j9)] M po13 ∧ ∀ (r16 : Int32) (M17 : MM), po13 r16 M17 → ((¬ r16 = 0 → (K11 M17 (x1 + 1))) ∧ (r16 = 0 → (post 2 M17))))))) : wx G (sM D cI cZ a) 2 (Qxi G (sM D cI cZ a) post) M 11 [(0, .ref (a 0)), (1, .int x1)] [] := by
  refine wx_iload_n F 1 dR_check_11 rfl rfl ?_
  refine wx_aload_n F 0 dR_check_12 rfl rfl ?_
  refine wx_get (ci := 4) (C := qnR) (T := TR) (N := 25) (v := .int (M 0 1)) F 0 (Nat.le_of_ble_eq_true rfl) rfl rfl hiR 1 (by decide) rfl lfR_60 rfl dR_check_13 ?_
  refine wx_icmp_ge (tgt := 40) F dR_check_16 (by decide) (fun g1 => ?_) (fun g1 => ?_)
  · refine wx_aload_n F 0 dR_check_40 rfl rfl ?_
    obtain ⟨po2, c3, h4⟩ := (h).1 g1
    refine wx_calli F 0 c3 (Nat.le_of_ble_eq_true rfl) rfl rfl (cw_V F.1.2.2.2.2 lmR_82 cbR_circle rfl rfl ⟨by rw [hR]; exact Nat.le_of_ble_eq_true rfl, by rw [hR]; exact Nat.le_of_ble_eq_true rfl⟩) rfl rfl (Nat.le_of_ble_eq_true rfl) dR_check_41 (fun r5 M6 p7 => ?_)
    refine wx_if_eq (tgt := 51) F dR_check_44 (by decide) (fun g8 => ?_) (fun g8 => ?_)
    · refine wx_iconst (v := 0) F dR_check_51 (by decide) ?_
      exact wx_iret F dR_check_52 ((h4 r5 M6 p7).1 g8)
    · refine wx_iconst (v := 3) F dR_check_47 (by decide) ?_
      refine wx_goto (tgt := 52) F dR_check_48 (by decide) ?_
      exact wx_iret F dR_check_52 ((h4 r5 M6 p7).2 g8)
  · refine wx_aload_n F 0 dR_check_19 rfl rfl ?_
    refine wx_aload_n F 0 dR_check_20 rfl rfl ?_
    refine wx_get (ci := 4) (C := qnR) (T := TR) (N := 25) (v := .ref (a 2)) F 0 (Nat.le_of_ble_eq_true rfl) rfl rfl hiR 3 (by decide) rfl lfR_13 rfl dR_check_21 ?_
    refine wx_iload_n F 1 dR_check_24 rfl rfl ?_
    obtain ⟨j9, e10, b11, h12⟩ := (h).2 g1
    refine wx_iald (N := 24) F 2 (Nat.le_of_ble_eq_true rfl) rfl 0 rfl e10 b11 (by omega) dR_check_25 ?_
    obtain ⟨po13, c14, h15⟩ := h12
    refine wx_calli F 0 c14 (Nat.le_of_ble_eq_true rfl) rfl rfl (cw_V F.1.2.2.2.2 lmR_79 cbR_groupHasSource rfl rfl ⟨by rw [hR]; exact Nat.le_of_ble_eq_true rfl, by rw [hR]; exact Nat.le_of_ble_eq_true rfl⟩) rfl rfl (Nat.le_of_ble_eq_true rfl) dR_check_26 (fun r16 M17 p18 => ?_)
    refine wx_if_ne (tgt := 34) F dR_check_29 (by decide) (fun g19 => ?_) (fun g19 => ?_)
    · refine wx_iinc (lv' := [(1, .int (x1 + 1)), (0, .ref (a 0))]) F 1 dR_check_34 rfl (ii1 _) (by decide) rfl ?_
      refine wx_goto (tgt := 11) F dR_check_37 (by decide) ?_
      exact wx_lv [1, 0] rfl (hK11 _ _ ((h15 r16 M17 p18).1 g19))
    · refine wx_iconst (v := 2) F dR_check_32 (by decide) ?_
      exact wx_iret F dR_check_33 ((h15 r16 M17 p18).2 g19)
theorem oR_check {l : Launch} {D : va_G} {cI cZ : ClassId} {a : Nat → Nat} {post : Int32 → MM → Prop} (hJ : IJ (sM D cI cZ a)) {M : MM} (h : ∀ G : CX, gl G = l → gR G = rmR_check → FX G (sM D cI cZ a) cR_check 2 qnR (some .int) → wx G (sM D cI cZ a) 2 (Qxi G (sM D cI cZ a) post) M 0 [(0, .ref (a 0))] []) : Ci l (sM D cI cZ a) yR_check wR_check rmR_check [.ref (a 0)] M post := Ci.of (cc := cR_check) (nL := 2) rfl rfl (Nat.le_of_ble_eq_true rfl) hJ h
set_option maxRecDepth 20000 in
theorem sR_token_0 {G : CX} {D : va_G} {cI cZ : ClassId} {a : Nat → Nat} {post : MM → Prop} (F : FX G (sM D cI cZ a) cR_token 3 qnR none) (hR : gR G = rmR_token) {M : MM} {x1 x2 : Int32} (h : ∃ j1 : Nat, x1 = nI j1 ∧ j1 < 24 ∧ (((M 5 j1) = 0 → (∃ po6 : MM → Prop, Cv (gl G) (sM D cI cZ a) yR_ready wR_ready rmR_ready [.ref (a 0), .int x1, .int x2] M po6 ∧ ∀ (M10 : MM), po6 M10 → (post M10))) ∧ (¬ (M 5 j1) = 0 → (∀ M12 : MM, M12 = mp M 0 23 ((M 0 23) + 1) → (post M12))))) : wx G (sM D cI cZ a) 3 (Qxv G (sM D cI cZ a) post) M 0 [(0, .ref (a 0)), (1, .int x1), (2, .int x2)] [] := by
  refine wx_aload_n F 0 dR_token_0 rfl rfl ?_
  refine wx_get (ci := 4) (C := qnR) (T := TR) (N := 25) (v := .ref (a 5)) F 0 (Nat.le_of_ble_eq_true rfl) rfl rfl hiR 6 (by decide) rfl lfR_22 rfl dR_token_1 ?_
  refine wx_iload_n F 1 dR_token_4 rfl rfl ?_
  obtain ⟨j1, e2, b3, h4⟩ := h
  refine wx_iald (N := 24) F 5 (Nat.le_of_ble_eq_true rfl) rfl 0 rfl e2 b3 (by omega) dR_token_5 ?_
  refine wx_if_eq (tgt := 20) F dR_token_6 (by decide) (fun g5 => ?_) (fun g5 => ?_)
  · refine wx_aload_n F 0 dR_token_20 rfl rfl ?_
    refine wx_iload_n F 1 dR_token_21 rfl rfl ?_
    refine wx_iload_n F 2 dR_token_22 rfl rfl ?_
    obtain ⟨po6, c7, h8⟩ := (h4).1 g5
    refine wx_callv F 0 c7 (Nat.le_of_ble_eq_true rfl) rfl rfl (cw_V F.1.2.2.2.2 lmR_89 cbR_ready rfl rfl ⟨by rw [hR]; exact Nat.le_of_ble_eq_true rfl, by rw [hR]; exact Nat.le_of_ble_eq_true rfl⟩) rfl rfl (Nat.le_of_ble_eq_true rfl) dR_token_23 (fun M10 p11 => ?_)
    exact wx_vret F dR_token_26 (h8 M10 p11)
  · refine wx_aload_n F 0 dR_token_9 rfl rfl ?_
    refine wx_aload_n F 0 dR_token_10 rfl rfl ?_
    refine wx_get (ci := 4) (C := qnR) (T := TR) (N := 25) (v := .int (M 0 23)) F 0 (Nat.le_of_ble_eq_true rfl) rfl rfl hiR 23 (by decide) rfl lfR_86 rfl dR_token_11 ?_
    refine wx_iconst (v := 1) F dR_token_14 (by decide) ?_
    refine wx_iadd F dR_token_15 ?_
    refine wx_put (ci := 4) (C := qnR) (T := TR) (N := 25) (ty := .int) F 0 (Nat.le_of_ble_eq_true rfl) rfl rfl hiR tyR tyR_ok nmR 23 (by decide) rfl lfR_86 rfl (by decide +kernel) rfl rfl (Nat.le_of_ble_eq_true rfl) rfl dR_token_16 (wx_nm (fun M12 e13 => ?_))
    exact wx_vret F dR_token_19 (((h4).2 g5) M12 e13)
theorem oR_token {l : Launch} {D : va_G} {cI cZ : ClassId} {a : Nat → Nat} {post : MM → Prop} (hJ : IJ (sM D cI cZ a)) {M : MM} {x1 x2 : Int32} (h : ∃ j1 : Nat, x1 = nI j1 ∧ j1 < 24 ∧ (((M 5 j1) = 0 → (∃ po6 : MM → Prop, Cv l (sM D cI cZ a) yR_ready wR_ready rmR_ready [.ref (a 0), .int x1, .int x2] M po6 ∧ ∀ (M10 : MM), po6 M10 → (post M10))) ∧ (¬ (M 5 j1) = 0 → (∀ M12 : MM, M12 = mp M 0 23 ((M 0 23) + 1) → (post M12))))) : Cv l (sM D cI cZ a) yR_token wR_token rmR_token [.ref (a 0), .int x1, .int x2] M post := Cv.of (cc := cR_token) (nL := 3) rfl rfl (Nat.le_of_ble_eq_true rfl) hJ (fun G hl hR F => by subst hl; exact sR_token_0 F hR h)
set_option maxRecDepth 20000 in
theorem sR_ready_0 {G : CX} {D : va_G} {cI cZ : ClassId} {a : Nat → Nat} {post : MM → Prop} (F : FX G (sM D cI cZ a) cR_ready 3 qnR none) (hR : gR G = rmR_ready) {M : MM} {x1 x2 : Int32} (h : ∃ j3 : Nat, x1 = nI j3 ∧ j3 < 24 ∧ (∀ M1 : MM, M1 = mp M 5 j3 4 → (∀ M7 : MM, M7 = mp M1 6 j3 x2 → (∀ M9 : MM, M9 = mp M7 7 j3 (M7 0 16) → (∀ M11 : MM, M11 = mp M9 0 16 ((M9 0 16) + 1) → (post M11)))))) : wx G (sM D cI cZ a) 3 (Qxv G (sM D cI cZ a) post) M 0 [(0, .ref (a 0)), (1, .int x1), (2, .int x2)] [] := by
  refine wx_aload_n F 0 dR_ready_0 rfl rfl ?_
  refine wx_get (ci := 4) (C := qnR) (T := TR) (N := 25) (v := .ref (a 5)) F 0 (Nat.le_of_ble_eq_true rfl) rfl rfl hiR 6 (by decide) rfl lfR_22 rfl dR_ready_1 ?_
  refine wx_iload_n F 1 dR_ready_4 rfl rfl ?_
  refine wx_iconst (v := 4) F dR_ready_5 (by decide) ?_
  obtain ⟨j3, e4, b5, h6⟩ := h
  refine wx_iast (N := 24) F 5 (Nat.le_of_ble_eq_true rfl) (fun _ => rfl) 0 rfl e4 b5 (by omega) dR_ready_6 (wx_nm (fun M1 e2 => ?_))
  refine wx_aload_n F 0 dR_ready_7 rfl rfl ?_
  refine wx_get (ci := 4) (C := qnR) (T := TR) (N := 25) (v := .ref (a 6)) F 0 (Nat.le_of_ble_eq_true rfl) rfl rfl hiR 7 (by decide) rfl lfR_25 rfl dR_ready_8 ?_
  refine wx_iload_n F 1 dR_ready_11 rfl rfl ?_
  refine wx_iload_n F 2 dR_ready_12 rfl rfl ?_
  refine wx_iast (N := 24) F 6 (Nat.le_of_ble_eq_true rfl) (fun _ => rfl) 0 rfl e4 b5 (by omega) dR_ready_13 (wx_nm (fun M7 e8 => ?_))
  refine wx_aload_n F 0 dR_ready_14 rfl rfl ?_
  refine wx_get (ci := 4) (C := qnR) (T := TR) (N := 25) (v := .ref (a 7)) F 0 (Nat.le_of_ble_eq_true rfl) rfl rfl hiR 8 (by decide) rfl lfR_28 rfl dR_ready_15 ?_
  refine wx_iload_n F 1 dR_ready_18 rfl rfl ?_
  refine wx_aload_n F 0 dR_ready_19 rfl rfl ?_
  refine wx_get (ci := 4) (C := qnR) (T := TR) (N := 25) (v := .int (M7 0 16)) F 0 (Nat.le_of_ble_eq_true rfl) rfl rfl hiR 16 (by decide) rfl lfR_93 rfl dR_ready_20 ?_
  refine wx_iast (N := 24) F 7 (Nat.le_of_ble_eq_true rfl) (fun _ => rfl) 0 rfl e4 b5 (by omega) dR_ready_23 (wx_nm (fun M9 e10 => ?_))
  refine wx_aload_n F 0 dR_ready_24 rfl rfl ?_
  refine wx_aload_n F 0 dR_ready_25 rfl rfl ?_
  refine wx_get (ci := 4) (C := qnR) (T := TR) (N := 25) (v := .int (M9 0 16)) F 0 (Nat.le_of_ble_eq_true rfl) rfl rfl hiR 16 (by decide) rfl lfR_93 rfl dR_ready_26 ?_
  refine wx_iconst (v := 1) F dR_ready_29 (by decide) ?_
  refine wx_iadd F dR_ready_30 ?_
  refine wx_put (ci := 4) (C := qnR) (T := TR) (N := 25) (ty := .int) F 0 (Nat.le_of_ble_eq_true rfl) rfl rfl hiR tyR tyR_ok nmR 16 (by decide) rfl lfR_93 rfl (by decide +kernel) rfl rfl (Nat.le_of_ble_eq_true rfl) rfl dR_ready_31 (wx_nm (fun M11 e12 => ?_))
  exact wx_vret F dR_ready_34 ((((h6 M1 e2) M7 e8) M9 e10) M11 e12)
theorem oR_ready {l : Launch} {D : va_G} {cI cZ : ClassId} {a : Nat → Nat} {post : MM → Prop} (hJ : IJ (sM D cI cZ a)) {M : MM} {x1 x2 : Int32} (h : ∃ j3 : Nat, x1 = nI j3 ∧ j3 < 24 ∧ (∀ M1 : MM, M1 = mp M 5 j3 4 → (∀ M7 : MM, M7 = mp M1 6 j3 x2 → (∀ M9 : MM, M9 = mp M7 7 j3 (M7 0 16) → (∀ M11 : MM, M11 = mp M9 0 16 ((M9 0 16) + 1) → (post M11)))))) : Cv l (sM D cI cZ a) yR_ready wR_ready rmR_ready [.ref (a 0), .int x1, .int x2] M post := Cv.of (cc := cR_ready) (nL := 3) rfl rfl (Nat.le_of_ble_eq_true rfl) hJ (fun G hl hR F => by subst hl; exact sR_ready_0 F hR h)
set_option maxRecDepth 20000 in
theorem sR_wake_0 {G : CX} {D : va_G} {cI cZ : ClassId} {a : Nat → Nat} {post : MM → Prop} (F : FX G (sM D cI cZ a) cR_wake 4 qnR none) (hR : gR G = rmR_wake) {K2 : MM → Int32 → Int32 → Int32 → Prop} (hK2 : ∀ (M : MM) (x1 x2 x3 : Int32), K2 M x1 x2 x3 → wx G (sM D cI cZ a) 4 (Qxv G (sM D cI cZ a) post) M 2 [(0, .ref (a 0)), (1, .int x1), (2, .int x2), (3, .int x3)] []) {M : MM} {x1 x2 : Int32} (h : K2 M x1 x2 0) : wx G (sM D cI cZ a) 4 (Qxv G (sM D cI cZ a) post) M 0 [(0, .ref (a 0)), (1, .int x1), (2, .int x2)] [] := by
  refine wx_iconst (v := 0) F dR_wake_0 (by decide) ?_
  refine wx_istore_n (lv' := [(3, .int 0), (0, .ref (a 0)), (1, .int x1), (2, .int x2)]) F dR_wake_1 rfl (by decide) rfl ?_
  exact wx_lv [1, 2, 3, 0] rfl (hK2 _ _ _ _ (h))
set_option maxRecDepth 20000 in
theorem sR_wake_2 {G : CX} {D : va_G} {cI cZ : ClassId} {a : Nat → Nat} {post : MM → Prop} (F : FX G (sM D cI cZ a) cR_wake 4 qnR none) (hR : gR G = rmR_wake) {K2 : MM → Int32 → Int32 → Int32 → Prop} (hK2 : ∀ (M : MM) (x1 x2 x3 : Int32), K2 M x1 x2 x3 → wx G (sM D cI cZ a) 4 (Qxv G (sM D cI cZ a) post) M 2 [(0, .ref (a 0)), (1, .int x1), (2, .int x2), (3, .int x3)] []) {K44 : MM → Int32 → Int32 → Int32 → Prop} (hK44 : ∀ (M : MM) (x1 x2 x3 : Int32), K44 M x1 x2 x3 → wx G (sM D cI cZ a) 4 (Qxv G (sM D cI cZ a) post) M 44 [(0, .ref (a 0)), (1, .int x1), (2, .int x2), (3, .int x3)] []) {M : MM} {x1 x2 x3 : Int32} (h : ((M 0 1) ≤ x3 → (K44 M x1 x2 0)) ∧ (¬ (M 0 1) ≤ x3 → (∃ j2 : Nat, x3 = nI j2 ∧ j2 < 24 ∧ ((¬ (M 2 j2) = x1 → (∀ M7 : MM, M7 = mp M 8 j2 (M 8 j2) → (K2 M7 x1 x2 (x3 + 1)))) ∧ ((M 2 j2) = x1 → (∀ M9 : MM, M9 = mp M 8 j2 0 → (K2 M9 x1 x2 (x3 + 1)))))))) : wx G (sM D cI cZ a) 4 (Qxv G (sM D cI cZ a) post) M 2 [(0, .ref (a 0)), (1, .int x1), (2, .int x2), (3, .int x3)] [] := by
  refine wx_iload_n F 3 dR_wake_2 rfl rfl ?_
  refine wx_aload_n F 0 dR_wake_3 rfl rfl ?_
  refine wx_get (ci := 4) (C := qnR) (T := TR) (N := 25) (v := .int (M 0 1)) F 0 (Nat.le_of_ble_eq_true rfl) rfl rfl hiR 1 (by decide) rfl lfR_60 rfl dR_wake_4 ?_
  refine wx_icmp_ge (tgt := 42) F dR_wake_7 (by decide) (fun g1 => ?_) (fun g1 => ?_)
  · refine wx_iconst (v := 0) F dR_wake_42 (by decide) ?_
    refine wx_istore_n (lv' := [(3, .int 0), (0, .ref (a 0)), (1, .int x1), (2, .int x2)]) F dR_wake_43 rfl (by decide) rfl ?_
    exact wx_lv [1, 2, 3, 0] rfl (hK44 _ _ _ _ ((h).1 g1))
  · refine wx_aload_n F 0 dR_wake_10 rfl rfl ?_
    refine wx_get (ci := 4) (C := qnR) (T := TR) (N := 25) (v := .ref (a 8)) F 0 (Nat.le_of_ble_eq_true rfl) rfl rfl hiR 9 (by decide) rfl lfR_31 rfl dR_wake_11 ?_
    refine wx_iload_n F 3 dR_wake_14 rfl rfl ?_
    refine wx_aload_n F 0 dR_wake_15 rfl rfl ?_
    refine wx_get (ci := 4) (C := qnR) (T := TR) (N := 25) (v := .ref (a 2)) F 0 (Nat.le_of_ble_eq_true rfl) rfl rfl hiR 3 (by decide) rfl lfR_13 rfl dR_wake_16 ?_
    refine wx_iload_n F 3 dR_wake_19 rfl rfl ?_
    obtain ⟨j2, e3, b4, h5⟩ := (h).2 g1
    refine wx_iald (N := 24) F 2 (Nat.le_of_ble_eq_true rfl) rfl 0 rfl e3 b4 (by omega) dR_wake_20 ?_
    refine wx_iload_n F 1 dR_wake_21 rfl rfl ?_
    refine wx_icmp_ne (tgt := 29) F dR_wake_22 (by decide) (fun g6 => ?_) (fun g6 => ?_)
    · refine wx_aload_n F 0 dR_wake_29 rfl rfl ?_
      refine wx_get (ci := 4) (C := qnR) (T := TR) (N := 25) (v := .ref (a 8)) F 0 (Nat.le_of_ble_eq_true rfl) rfl rfl hiR 9 (by decide) rfl lfR_31 rfl dR_wake_30 ?_
      refine wx_iload_n F 3 dR_wake_33 rfl rfl ?_
      refine wx_iald (N := 24) F 8 (Nat.le_of_ble_eq_true rfl) rfl 0 rfl e3 b4 (by omega) dR_wake_34 ?_
      refine wx_iast (N := 24) F 8 (Nat.le_of_ble_eq_true rfl) (fun _ => rfl) 0 rfl e3 b4 (by omega) dR_wake_35 (wx_nm (fun M7 e8 => ?_))
      refine wx_iinc (lv' := [(3, .int (x3 + 1)), (0, .ref (a 0)), (1, .int x1), (2, .int x2)]) F 3 dR_wake_36 rfl (ii1 _) (by decide) rfl ?_
      refine wx_goto (tgt := 2) F dR_wake_39 (by decide) ?_
      exact wx_lv [1, 2, 3, 0] rfl (hK2 _ _ _ _ (((h5).1 g6) M7 e8))
    · refine wx_iconst (v := 0) F dR_wake_25 (by decide) ?_
      refine wx_goto (tgt := 35) F dR_wake_26 (by decide) ?_
      refine wx_iast (N := 24) F 8 (Nat.le_of_ble_eq_true rfl) (fun _ => rfl) 0 rfl e3 b4 (by omega) dR_wake_35 (wx_nm (fun M9 e10 => ?_))
      refine wx_iinc (lv' := [(3, .int (x3 + 1)), (0, .ref (a 0)), (1, .int x1), (2, .int x2)]) F 3 dR_wake_36 rfl (ii1 _) (by decide) rfl ?_
      refine wx_goto (tgt := 2) F dR_wake_39 (by decide) ?_
      exact wx_lv [1, 2, 3, 0] rfl (hK2 _ _ _ _ (((h5).2 g6) M9 e10))
set_option maxRecDepth 20000 in
theorem sR_wake_44 {G : CX} {D : va_G} {cI cZ : ClassId} {a : Nat → Nat} {post : MM → Prop} (F : FX G (sM D cI cZ a) cR_wake 4 qnR none) (hR : gR G = rmR_wake) {K44 : MM → Int32 → Int32 → Int32 → Prop} (hK44 : ∀ (M : MM) (x1 x2 x3 : Int32), K44 M x1 x2 x3 → wx G (sM D cI cZ a) 4 (Qxv G (sM D cI cZ a) post) M 44 [(0, .ref (a 0)), (1, .int x1), (2, .int x2), (3, .int x3)] []) {M : MM} {x1 x2 x3 : Int32} (h : ((M 0 1) ≤ x3 → (post M)) ∧ (¬ (M 0 1) ≤ x3 → (∃ j2 : Nat, x3 = nI j2 ∧ j2 < 24 ∧ ((¬ (M 2 j2) = x1 → (K44 M x1 x2 (x3 + 1))) ∧ ((M 2 j2) = x1 → (∃ po7 : Int32 → MM → Prop, Ci (gl G) (sM D cI cZ a) yR_into wR_into rmR_into [.ref (a 0), .int x3, .int 0] M po7 ∧ ∀ (r10 : Int32) (M11 : MM), po7 r10 M11 → ((¬ r10 = 0 → (K44 M11 x1 x2 (x3 + 1))) ∧ (r10 = 0 → (∃ po14 : MM → Prop, Cv (gl G) (sM D cI cZ a) yR_token wR_token rmR_token [.ref (a 0), .int x3, .int x2] M11 po14 ∧ ∀ (M18 : MM), po14 M18 → (K44 M18 x1 x2 (x3 + 1))))))))))) : wx G (sM D cI cZ a) 4 (Qxv G (sM D cI cZ a) post) M 44 [(0, .ref (a 0)), (1, .int x1), (2, .int x2), (3, .int x3)] [] := by
  refine wx_iload_n F 3 dR_wake_44 rfl rfl ?_
  refine wx_aload_n F 0 dR_wake_45 rfl rfl ?_
  refine wx_get (ci := 4) (C := qnR) (T := TR) (N := 25) (v := .int (M 0 1)) F 0 (Nat.le_of_ble_eq_true rfl) rfl rfl hiR 1 (by decide) rfl lfR_60 rfl dR_wake_46 ?_
  refine wx_icmp_ge (tgt := 83) F dR_wake_49 (by decide) (fun g1 => ?_) (fun g1 => ?_)
  · exact wx_vret F dR_wake_83 ((h).1 g1)
  · refine wx_aload_n F 0 dR_wake_52 rfl rfl ?_
    refine wx_get (ci := 4) (C := qnR) (T := TR) (N := 25) (v := .ref (a 2)) F 0 (Nat.le_of_ble_eq_true rfl) rfl rfl hiR 3 (by decide) rfl lfR_13 rfl dR_wake_53 ?_
    refine wx_iload_n F 3 dR_wake_56 rfl rfl ?_
    obtain ⟨j2, e3, b4, h5⟩ := (h).2 g1
    refine wx_iald (N := 24) F 2 (Nat.le_of_ble_eq_true rfl) rfl 0 rfl e3 b4 (by omega) dR_wake_57 ?_
    refine wx_iload_n F 1 dR_wake_58 rfl rfl ?_
    refine wx_icmp_ne (tgt := 77) F dR_wake_59 (by decide) (fun g6 => ?_) (fun g6 => ?_)
    · refine wx_iinc (lv' := [(3, .int (x3 + 1)), (0, .ref (a 0)), (1, .int x1), (2, .int x2)]) F 3 dR_wake_77 rfl (ii1 _) (by decide) rfl ?_
      refine wx_goto (tgt := 44) F dR_wake_80 (by decide) ?_
      exact wx_lv [1, 2, 3, 0] rfl (hK44 _ _ _ _ ((h5).1 g6))
    · refine wx_aload_n F 0 dR_wake_62 rfl rfl ?_
      refine wx_iload_n F 3 dR_wake_63 rfl rfl ?_
      refine wx_iconst (v := 0) F dR_wake_64 (by decide) ?_
      obtain ⟨po7, c8, h9⟩ := (h5).2 g6
      refine wx_calli F 0 c8 (Nat.le_of_ble_eq_true rfl) rfl rfl (cw_V F.1.2.2.2.2 lmR_75 cbR_into rfl rfl ⟨by rw [hR]; exact Nat.le_of_ble_eq_true rfl, by rw [hR]; exact Nat.le_of_ble_eq_true rfl⟩) rfl rfl (Nat.le_of_ble_eq_true rfl) dR_wake_65 (fun r10 M11 p12 => ?_)
      refine wx_if_ne (tgt := 77) F dR_wake_68 (by decide) (fun g13 => ?_) (fun g13 => ?_)
      · refine wx_iinc (lv' := [(3, .int (x3 + 1)), (0, .ref (a 0)), (1, .int x1), (2, .int x2)]) F 3 dR_wake_77 rfl (ii1 _) (by decide) rfl ?_
        refine wx_goto (tgt := 44) F dR_wake_80 (by decide) ?_
        exact wx_lv [1, 2, 3, 0] rfl (hK44 _ _ _ _ ((h9 r10 M11 p12).1 g13))
      · refine wx_aload_n F 0 dR_wake_71 rfl rfl ?_
        refine wx_iload_n F 3 dR_wake_72 rfl rfl ?_
        refine wx_iload_n F 2 dR_wake_73 rfl rfl ?_
        obtain ⟨po14, c15, h16⟩ := (h9 r10 M11 p12).2 g13
        refine wx_callv F 0 c15 (Nat.le_of_ble_eq_true rfl) rfl rfl (cw_V F.1.2.2.2.2 lmR_96 cbR_token rfl rfl ⟨by rw [hR]; exact Nat.le_of_ble_eq_true rfl, by rw [hR]; exact Nat.le_of_ble_eq_true rfl⟩) rfl rfl (Nat.le_of_ble_eq_true rfl) dR_wake_74 (fun M18 p19 => ?_)
        refine wx_iinc (lv' := [(3, .int (x3 + 1)), (0, .ref (a 0)), (1, .int x1), (2, .int x2)]) F 3 dR_wake_77 rfl (ii1 _) (by decide) rfl ?_
        refine wx_goto (tgt := 44) F dR_wake_80 (by decide) ?_
        exact wx_lv [1, 2, 3, 0] rfl (hK44 _ _ _ _ (h16 M18 p19))
theorem oR_wake {l : Launch} {D : va_G} {cI cZ : ClassId} {a : Nat → Nat} {post : MM → Prop} (hJ : IJ (sM D cI cZ a)) {M : MM} {x1 x2 : Int32} (h : ∀ G : CX, gl G = l → gR G = rmR_wake → FX G (sM D cI cZ a) cR_wake 4 qnR none → wx G (sM D cI cZ a) 4 (Qxv G (sM D cI cZ a) post) M 0 [(0, .ref (a 0)), (1, .int x1), (2, .int x2)] []) : Cv l (sM D cI cZ a) yR_wake wR_wake rmR_wake [.ref (a 0), .int x1, .int x2] M post := Cv.of (cc := cR_wake) (nL := 4) rfl rfl (Nat.le_of_ble_eq_true rfl) hJ h
set_option maxRecDepth 20000 in
theorem sR_nextRound_0 {G : CX} {D : va_G} {cI cZ : ClassId} {a : Nat → Nat} {post : MM → Prop} (F : FX G (sM D cI cZ a) cR_nextRound 2 qnR none) (hR : gR G = rmR_nextRound) {K12 : MM → Int32 → Prop} (hK12 : ∀ (M : MM) (x1 : Int32), K12 M x1 → wx G (sM D cI cZ a) 2 (Qxv G (sM D cI cZ a) post) M 12 [(0, .ref (a 0)), (1, .int x1)] []) {M : MM} (h : ∀ M1 : MM, M1 = mp M 0 22 ((M 0 22) + 1) → (K12 M1 0)) : wx G (sM D cI cZ a) 2 (Qxv G (sM D cI cZ a) post) M 0 [(0, .ref (a 0))] [] := by
  refine wx_aload_n F 0 dR_nextRound_0 rfl rfl ?_
  refine wx_aload_n F 0 dR_nextRound_1 rfl rfl ?_
  refine wx_get (ci := 4) (C := qnR) (T := TR) (N := 25) (v := .int (M 0 22)) F 0 (Nat.le_of_ble_eq_true rfl) rfl rfl hiR 22 (by decide) rfl lfR_99 rfl dR_nextRound_2 ?_
  refine wx_iconst (v := 1) F dR_nextRound_5 (by decide) ?_
  refine wx_iadd F dR_nextRound_6 ?_
  refine wx_put (ci := 4) (C := qnR) (T := TR) (N := 25) (ty := .int) F 0 (Nat.le_of_ble_eq_true rfl) rfl rfl hiR tyR tyR_ok nmR 22 (by decide) rfl lfR_99 rfl (by decide +kernel) rfl rfl (Nat.le_of_ble_eq_true rfl) rfl dR_nextRound_7 (wx_nm (fun M1 e2 => ?_))
  refine wx_iconst (v := 0) F dR_nextRound_10 (by decide) ?_
  refine wx_istore_n (lv' := [(1, .int 0), (0, .ref (a 0))]) F dR_nextRound_11 rfl (by decide) rfl ?_
  exact wx_lv [1, 0] rfl (hK12 _ _ (h M1 e2))
set_option maxRecDepth 20000 in
theorem sR_nextRound_12 {G : CX} {D : va_G} {cI cZ : ClassId} {a : Nat → Nat} {post : MM → Prop} (F : FX G (sM D cI cZ a) cR_nextRound 2 qnR none) (hR : gR G = rmR_nextRound) {K12 : MM → Int32 → Prop} (hK12 : ∀ (M : MM) (x1 : Int32), K12 M x1 → wx G (sM D cI cZ a) 2 (Qxv G (sM D cI cZ a) post) M 12 [(0, .ref (a 0)), (1, .int x1)] []) {M : MM} {x1 : Int32} (h : ((M 0 1) ≤ x1 → (∃ po2 : MM → Prop, Cv (gl G) (sM D cI cZ a) yR_wake wR_wake rmR_wake [.ref (a 0), .int (-1), .int (M 0 0)] M po2 ∧ ∀ (M6 : MM), po2 M6 → (post M6))) ∧ (¬ (M 0 1) ≤ x1 → (∃ j10 : Nat, x1 = nI j10 ∧ j10 < 24 ∧ (∀ M8 : MM, M8 = mp M 8 j10 0 → (K12 M8 (x1 + 1)))))) : wx G (sM D cI cZ a) 2 (Qxv G (sM D cI cZ a) post) M 12 [(0, .ref (a 0)), (1, .int x1)] [] := by
  refine wx_iload_n F 1 dR_nextRound_12 rfl rfl ?_
  refine wx_aload_n F 0 dR_nextRound_13 rfl rfl ?_
  refine wx_get (ci := 4) (C := qnR) (T := TR) (N := 25) (v := .int (M 0 1)) F 0 (Nat.le_of_ble_eq_true rfl) rfl rfl hiR 1 (by decide) rfl lfR_60 rfl dR_nextRound_14 ?_
  refine wx_icmp_ge (tgt := 33) F dR_nextRound_17 (by decide) (fun g1 => ?_) (fun g1 => ?_)
  · refine wx_aload_n F 0 dR_nextRound_33 rfl rfl ?_
    refine wx_iconst (v := (-1)) F dR_nextRound_34 (by decide) ?_
    refine wx_aload_n F 0 dR_nextRound_35 rfl rfl ?_
    refine wx_get (ci := 4) (C := qnR) (T := TR) (N := 25) (v := .int (M 0 0)) F 0 (Nat.le_of_ble_eq_true rfl) rfl rfl hiR 0 (by decide) rfl lfR_57 rfl dR_nextRound_36 ?_
    obtain ⟨po2, c3, h4⟩ := (h).1 g1
    refine wx_callv F 0 c3 (Nat.le_of_ble_eq_true rfl) rfl rfl (cw_V F.1.2.2.2.2 lmR_102 cbR_wake rfl rfl ⟨by rw [hR]; exact Nat.le_of_ble_eq_true rfl, by rw [hR]; exact Nat.le_of_ble_eq_true rfl⟩) rfl rfl (Nat.le_of_ble_eq_true rfl) dR_nextRound_39 (fun M6 p7 => ?_)
    exact wx_vret F dR_nextRound_42 (h4 M6 p7)
  · refine wx_aload_n F 0 dR_nextRound_20 rfl rfl ?_
    refine wx_get (ci := 4) (C := qnR) (T := TR) (N := 25) (v := .ref (a 8)) F 0 (Nat.le_of_ble_eq_true rfl) rfl rfl hiR 9 (by decide) rfl lfR_31 rfl dR_nextRound_21 ?_
    refine wx_iload_n F 1 dR_nextRound_24 rfl rfl ?_
    refine wx_iconst (v := 0) F dR_nextRound_25 (by decide) ?_
    obtain ⟨j10, e11, b12, h13⟩ := (h).2 g1
    refine wx_iast (N := 24) F 8 (Nat.le_of_ble_eq_true rfl) (fun _ => rfl) 0 rfl e11 b12 (by omega) dR_nextRound_26 (wx_nm (fun M8 e9 => ?_))
    refine wx_iinc (lv' := [(1, .int (x1 + 1)), (0, .ref (a 0))]) F 1 dR_nextRound_27 rfl (ii1 _) (by decide) rfl ?_
    refine wx_goto (tgt := 12) F dR_nextRound_30 (by decide) ?_
    exact wx_lv [1, 0] rfl (hK12 _ _ (h13 M8 e9))
theorem oR_nextRound {l : Launch} {D : va_G} {cI cZ : ClassId} {a : Nat → Nat} {post : MM → Prop} (hJ : IJ (sM D cI cZ a)) {M : MM} (h : ∀ G : CX, gl G = l → gR G = rmR_nextRound → FX G (sM D cI cZ a) cR_nextRound 2 qnR none → wx G (sM D cI cZ a) 2 (Qxv G (sM D cI cZ a) post) M 0 [(0, .ref (a 0))] []) : Cv l (sM D cI cZ a) yR_nextRound wR_nextRound rmR_nextRound [.ref (a 0)] M post := Cv.of (cc := cR_nextRound) (nL := 2) rfl rfl (Nat.le_of_ble_eq_true rfl) hJ h
set_option maxRecDepth 20000 in
theorem sR_endOf_0 {G : CX} {D : va_G} {cI cZ : ClassId} {a : Nat → Nat} {post : Int32 → MM → Prop} (F : FX G (sM D cI cZ a) cR_endOf 6 qnR (some .int)) (hR : gR G = rmR_endOf) {K5 : MM → Int32 → Int32 → Int32 → Int32 → Prop} (hK5 : ∀ (M : MM) (x1 x2 x3 x4 : Int32), K5 M x1 x2 x3 x4 → wx G (sM D cI cZ a) 6 (Qxi G (sM D cI cZ a) post) M 5 [(0, .ref (a 0)), (1, .int x1), (2, .int x2), (3, .int x3), (4, .int x4)] []) {M : MM} {x1 x2 : Int32} (h : K5 M x1 x2 (-1) 0) : wx G (sM D cI cZ a) 6 (Qxi G (sM D cI cZ a) post) M 0 [(0, .ref (a 0)), (1, .int x1), (2, .int x2)] [] := by
  refine wx_iconst (v := (-1)) F dR_endOf_0 (by decide) ?_
  refine wx_istore_n (lv' := [(3, .int (-1)), (0, .ref (a 0)), (1, .int x1), (2, .int x2)]) F dR_endOf_1 rfl (by decide) rfl ?_
  refine wx_iconst (v := 0) F dR_endOf_2 (by decide) ?_
  refine wx_istore (lv' := [(4, .int 0), (3, .int (-1)), (0, .ref (a 0)), (1, .int x1), (2, .int x2)]) F dR_endOf_3 (by decide) rfl ?_
  exact wx_lv [2, 3, 4, 1, 0] rfl (hK5 _ _ _ _ _ (h))
set_option maxRecDepth 20000 in
theorem sR_endOf_5 {G : CX} {D : va_G} {cI cZ : ClassId} {a : Nat → Nat} {post : Int32 → MM → Prop} (F : FX G (sM D cI cZ a) cR_endOf 6 qnR (some .int)) (hR : gR G = rmR_endOf) {K5 : MM → Int32 → Int32 → Int32 → Int32 → Prop} (hK5 : ∀ (M : MM) (x1 x2 x3 x4 : Int32), K5 M x1 x2 x3 x4 → wx G (sM D cI cZ a) 6 (Qxi G (sM D cI cZ a) post) M 5 [(0, .ref (a 0)), (1, .int x1), (2, .int x2), (3, .int x3), (4, .int x4)] []) {M : MM} {x1 x2 x3 x4 : Int32} (h : ((M 0 1) ≤ x4 → (post x3 M)) ∧ (¬ (M 0 1) ≤ x4 → (∃ j2 : Nat, x4 = nI j2 ∧ j2 < 24 ∧ ((¬ (M 5 j2) = 4 → (K5 M x1 x2 x3 (x4 + 1))) ∧ ((M 5 j2) = 4 → ((¬ (M 6 j2) = x1 → (K5 M x1 x2 x3 (x4 + 1))) ∧ ((M 6 j2) = x1 → ((x3 < 0 → (K5 M x1 x2 x4 (x4 + 1))) ∧ (¬ x3 < 0 → (∃ j9 : Nat, x3 = nI j9 ∧ j9 < 24 ∧ (((M 7 j2) ≤ (M 7 j9) → ((¬ 0 = x2 → (K5 M x1 x2 x3 (x4 + 1))) ∧ (0 = x2 → (K5 M x1 x2 x4 (x4 + 1))))) ∧ (¬ (M 7 j2) ≤ (M 7 j9) → ((¬ 1 = x2 → (K5 M x1 x2 x3 (x4 + 1))) ∧ (1 = x2 → (K5 M x1 x2 x4 (x4 + 1)))))))))))))))) : wx G (sM D cI cZ a) 6 (Qxi G (sM D cI cZ a) post) M 5 [(0, .ref (a 0)), (1, .int x1), (2, .int x2), (3, .int x3), (4, .int x4)] [] := by
  refine wx_iload F 4 dR_endOf_5 rfl ?_
  refine wx_aload_n F 0 dR_endOf_7 rfl rfl ?_
  refine wx_get (ci := 4) (C := qnR) (T := TR) (N := 25) (v := .int (M 0 1)) F 0 (Nat.le_of_ble_eq_true rfl) rfl rfl hiR 1 (by decide) rfl lfR_60 rfl dR_endOf_8 ?_
  refine wx_icmp_ge (tgt := 90) F dR_endOf_11 (by decide) (fun g1 => ?_) (fun g1 => ?_)
  · refine wx_iload_n F 3 dR_endOf_90 rfl rfl ?_
    exact wx_iret F dR_endOf_91 ((h).1 g1)
  · refine wx_aload_n F 0 dR_endOf_14 rfl rfl ?_
    refine wx_get (ci := 4) (C := qnR) (T := TR) (N := 25) (v := .ref (a 5)) F 0 (Nat.le_of_ble_eq_true rfl) rfl rfl hiR 6 (by decide) rfl lfR_22 rfl dR_endOf_15 ?_
    refine wx_iload F 4 dR_endOf_18 rfl ?_
    obtain ⟨j2, e3, b4, h5⟩ := (h).2 g1
    refine wx_iald (N := 24) F 5 (Nat.le_of_ble_eq_true rfl) rfl 0 rfl e3 b4 (by omega) dR_endOf_20 ?_
    refine wx_iconst (v := 4) F dR_endOf_21 (by decide) ?_
    refine wx_icmp_ne (tgt := 84) F dR_endOf_22 (by decide) (fun g6 => ?_) (fun g6 => ?_)
    · refine wx_iinc (lv' := [(4, .int (x4 + 1)), (0, .ref (a 0)), (1, .int x1), (2, .int x2), (3, .int x3)]) F 4 dR_endOf_84 rfl (ii1 _) (by decide) rfl ?_
      refine wx_goto (tgt := 5) F dR_endOf_87 (by decide) ?_
      exact wx_lv [1, 2, 3, 4, 0] rfl (hK5 _ _ _ _ _ ((h5).1 g6))
    · refine wx_aload_n F 0 dR_endOf_25 rfl rfl ?_
      refine wx_get (ci := 4) (C := qnR) (T := TR) (N := 25) (v := .ref (a 6)) F 0 (Nat.le_of_ble_eq_true rfl) rfl rfl hiR 7 (by decide) rfl lfR_25 rfl dR_endOf_26 ?_
      refine wx_iload F 4 dR_endOf_29 rfl ?_
      refine wx_iald (N := 24) F 6 (Nat.le_of_ble_eq_true rfl) rfl 0 rfl e3 b4 (by omega) dR_endOf_31 ?_
      refine wx_iload_n F 1 dR_endOf_32 rfl rfl ?_
      refine wx_icmp_ne (tgt := 84) F dR_endOf_33 (by decide) (fun g7 => ?_) (fun g7 => ?_)
      · refine wx_iinc (lv' := [(4, .int (x4 + 1)), (0, .ref (a 0)), (1, .int x1), (2, .int x2), (3, .int x3)]) F 4 dR_endOf_84 rfl (ii1 _) (by decide) rfl ?_
        refine wx_goto (tgt := 5) F dR_endOf_87 (by decide) ?_
        exact wx_lv [1, 2, 3, 4, 0] rfl (hK5 _ _ _ _ _ (((h5).2 g6).1 g7))
      · refine wx_iload_n F 3 dR_endOf_36 rfl rfl ?_
        refine wx_if_lt (tgt := 65) F dR_endOf_37 (by decide) (fun g8 => ?_) (fun g8 => ?_)
        · refine wx_iconst (v := 1) F dR_endOf_65 (by decide) ?_
          refine wx_goto (tgt := 70) F dR_endOf_66 (by decide) ?_
          refine wx_istore (lv' := [(5, .int 1), (0, .ref (a 0)), (1, .int x1), (2, .int x2), (3, .int x3), (4, .int x4)]) F dR_endOf_70 (by decide) rfl ?_
          refine wx_iload F 0 dR_endOf_72 rfl ?_
          refine wx_if_eq (tgt := 82) F dR_endOf_74 (by decide) (fun g => False.elim (by revert g; decide)) (fun _ => ?_)
          refine wx_iload F 5 dR_endOf_77 rfl ?_
          refine wx_goto (tgt := 83) F dR_endOf_79 (by decide) ?_
          refine wx_istore_n (lv' := [(3, .int x4), (5, .int 1), (0, .ref (a 0)), (1, .int x1), (2, .int x2), (4, .int x4)]) F dR_endOf_83 rfl (by decide) rfl ?_
          refine wx_iinc (lv' := [(4, .int (x4 + 1)), (3, .int x4), (5, .int 1), (0, .ref (a 0)), (1, .int x1), (2, .int x2)]) F 5 dR_endOf_84 rfl (ii1 _) (by decide) rfl ?_
          refine wx_goto (tgt := 5) F dR_endOf_87 (by decide) ?_
          exact wx_lv [3, 4, 5, 1, 0] rfl (hK5 _ _ _ _ _ ((((h5).2 g6).2 g7).1 g8))
        · refine wx_aload_n F 0 dR_endOf_40 rfl rfl ?_
          refine wx_get (ci := 4) (C := qnR) (T := TR) (N := 25) (v := .ref (a 7)) F 0 (Nat.le_of_ble_eq_true rfl) rfl rfl hiR 8 (by decide) rfl lfR_28 rfl dR_endOf_41 ?_
          refine wx_iload F 4 dR_endOf_44 rfl ?_
          refine wx_iald (N := 24) F 7 (Nat.le_of_ble_eq_true rfl) rfl 0 rfl e3 b4 (by omega) dR_endOf_46 ?_
          refine wx_aload_n F 0 dR_endOf_47 rfl rfl ?_
          refine wx_get (ci := 4) (C := qnR) (T := TR) (N := 25) (v := .ref (a 7)) F 0 (Nat.le_of_ble_eq_true rfl) rfl rfl hiR 8 (by decide) rfl lfR_28 rfl dR_endOf_48 ?_
          refine wx_iload_n F 3 dR_endOf_51 rfl rfl ?_
          obtain ⟨j9, e10, b11, h12⟩ := (((h5).2 g6).2 g7).2 g8
          refine wx_iald (N := 24) F 7 (Nat.le_of_ble_eq_true rfl) rfl 0 rfl e10 b11 (by omega) dR_endOf_52 ?_
          refine wx_icmp_le (tgt := 60) F dR_endOf_53 (by decide) (fun g13 => ?_) (fun g13 => ?_)
          · refine wx_iconst (v := 0) F dR_endOf_60 (by decide) ?_
            refine wx_iload_n F 2 dR_endOf_61 rfl rfl ?_
            refine wx_icmp_ne (tgt := 69) F dR_endOf_62 (by decide) (fun g14 => ?_) (fun g14 => ?_)
            · refine wx_iconst (v := 0) F dR_endOf_69 (by decide) ?_
              refine wx_istore (lv' := [(5, .int 0), (0, .ref (a 0)), (1, .int x1), (2, .int x2), (3, .int x3), (4, .int x4)]) F dR_endOf_70 (by decide) rfl ?_
              refine wx_iload F 0 dR_endOf_72 rfl ?_
              refine wx_if_eq (tgt := 82) F dR_endOf_74 (by decide) (fun _ => ?_) (fun g => False.elim (by revert g; decide))
              refine wx_iload_n F 4 dR_endOf_82 rfl rfl ?_
              refine wx_istore_n (lv' := [(3, .int x3), (5, .int 0), (0, .ref (a 0)), (1, .int x1), (2, .int x2), (4, .int x4)]) F dR_endOf_83 rfl (by decide) rfl ?_
              refine wx_iinc (lv' := [(4, .int (x4 + 1)), (3, .int x3), (5, .int 0), (0, .ref (a 0)), (1, .int x1), (2, .int x2)]) F 5 dR_endOf_84 rfl (ii1 _) (by decide) rfl ?_
              refine wx_goto (tgt := 5) F dR_endOf_87 (by decide) ?_
              exact wx_lv [3, 4, 5, 1, 0] rfl (hK5 _ _ _ _ _ (((h12).1 g13).1 g14))
            · refine wx_iconst (v := 1) F dR_endOf_65 (by decide) ?_
              refine wx_goto (tgt := 70) F dR_endOf_66 (by decide) ?_
              refine wx_istore (lv' := [(5, .int 1), (0, .ref (a 0)), (1, .int x1), (2, .int x2), (3, .int x3), (4, .int x4)]) F dR_endOf_70 (by decide) rfl ?_
              refine wx_iload F 0 dR_endOf_72 rfl ?_
              refine wx_if_eq (tgt := 82) F dR_endOf_74 (by decide) (fun g => False.elim (by revert g; decide)) (fun _ => ?_)
              refine wx_iload F 5 dR_endOf_77 rfl ?_
              refine wx_goto (tgt := 83) F dR_endOf_79 (by decide) ?_
              refine wx_istore_n (lv' := [(3, .int x4), (5, .int 1), (0, .ref (a 0)), (1, .int x1), (2, .int x2), (4, .int x4)]) F dR_endOf_83 rfl (by decide) rfl ?_
              refine wx_iinc (lv' := [(4, .int (x4 + 1)), (3, .int x4), (5, .int 1), (0, .ref (a 0)), (1, .int x1), (2, .int x2)]) F 5 dR_endOf_84 rfl (ii1 _) (by decide) rfl ?_
              refine wx_goto (tgt := 5) F dR_endOf_87 (by decide) ?_
              exact wx_lv [3, 4, 5, 1, 0] rfl (hK5 _ _ _ _ _ (((h12).1 g13).2 g14))
          · refine wx_iconst (v := 1) F dR_endOf_56 (by decide) ?_
            refine wx_goto (tgt := 61) F dR_endOf_57 (by decide) ?_
            refine wx_iload_n F 2 dR_endOf_61 rfl rfl ?_
            refine wx_icmp_ne (tgt := 69) F dR_endOf_62 (by decide) (fun g15 => ?_) (fun g15 => ?_)
            · refine wx_iconst (v := 0) F dR_endOf_69 (by decide) ?_
              refine wx_istore (lv' := [(5, .int 0), (0, .ref (a 0)), (1, .int x1), (2, .int x2), (3, .int x3), (4, .int x4)]) F dR_endOf_70 (by decide) rfl ?_
              refine wx_iload F 0 dR_endOf_72 rfl ?_
              refine wx_if_eq (tgt := 82) F dR_endOf_74 (by decide) (fun _ => ?_) (fun g => False.elim (by revert g; decide))
              refine wx_iload_n F 4 dR_endOf_82 rfl rfl ?_
              refine wx_istore_n (lv' := [(3, .int x3), (5, .int 0), (0, .ref (a 0)), (1, .int x1), (2, .int x2), (4, .int x4)]) F dR_endOf_83 rfl (by decide) rfl ?_
              refine wx_iinc (lv' := [(4, .int (x4 + 1)), (3, .int x3), (5, .int 0), (0, .ref (a 0)), (1, .int x1), (2, .int x2)]) F 5 dR_endOf_84 rfl (ii1 _) (by decide) rfl ?_
              refine wx_goto (tgt := 5) F dR_endOf_87 (by decide) ?_
              exact wx_lv [3, 4, 5, 1, 0] rfl (hK5 _ _ _ _ _ (((h12).2 g13).1 g15))
            · refine wx_iconst (v := 1) F dR_endOf_65 (by decide) ?_
              refine wx_goto (tgt := 70) F dR_endOf_66 (by decide) ?_
              refine wx_istore (lv' := [(5, .int 1), (0, .ref (a 0)), (1, .int x1), (2, .int x2), (3, .int x3), (4, .int x4)]) F dR_endOf_70 (by decide) rfl ?_
              refine wx_iload F 0 dR_endOf_72 rfl ?_
              refine wx_if_eq (tgt := 82) F dR_endOf_74 (by decide) (fun g => False.elim (by revert g; decide)) (fun _ => ?_)
              refine wx_iload F 5 dR_endOf_77 rfl ?_
              refine wx_goto (tgt := 83) F dR_endOf_79 (by decide) ?_
              refine wx_istore_n (lv' := [(3, .int x4), (5, .int 1), (0, .ref (a 0)), (1, .int x1), (2, .int x2), (4, .int x4)]) F dR_endOf_83 rfl (by decide) rfl ?_
              refine wx_iinc (lv' := [(4, .int (x4 + 1)), (3, .int x4), (5, .int 1), (0, .ref (a 0)), (1, .int x1), (2, .int x2)]) F 5 dR_endOf_84 rfl (ii1 _) (by decide) rfl ?_
              refine wx_goto (tgt := 5) F dR_endOf_87 (by decide) ?_
              exact wx_lv [3, 4, 5, 1, 0] rfl (hK5 _ _ _ _ _ (((h12).2 g13).2 g15))
theorem oR_endOf {l : Launch} {D : va_G} {cI cZ : ClassId} {a : Nat → Nat} {post : Int32 → MM → Prop} (hJ : IJ (sM D cI cZ a)) {M : MM} {x1 x2 : Int32} (h : ∀ G : CX, gl G = l → gR G = rmR_endOf → FX G (sM D cI cZ a) cR_endOf 6 qnR (some .int) → wx G (sM D cI cZ a) 6 (Qxi G (sM D cI cZ a) post) M 0 [(0, .ref (a 0)), (1, .int x1), (2, .int x2)] []) : Ci l (sM D cI cZ a) yR_endOf wR_endOf rmR_endOf [.ref (a 0), .int x1, .int x2] M post := Ci.of (cc := cR_endOf) (nL := 6) rfl rfl (Nat.le_of_ble_eq_true rfl) hJ h
set_option maxRecDepth 20000 in
theorem sR_running_0 {G : CX} {D : va_G} {cI cZ : ClassId} {a : Nat → Nat} {post : Int32 → MM → Prop} (F : FX G (sM D cI cZ a) cR_running 4 qnR (some .int)) (hR : gR G = rmR_running) {K4 : MM → Int32 → Int32 → Int32 → Prop} (hK4 : ∀ (M : MM) (x1 x2 x3 : Int32), K4 M x1 x2 x3 → wx G (sM D cI cZ a) 4 (Qxi G (sM D cI cZ a) post) M 4 [(0, .ref (a 0)), (1, .int x1), (2, .int x2), (3, .int x3)] []) {M : MM} {x1 : Int32} (h : K4 M x1 (-1) 0) : wx G (sM D cI cZ a) 4 (Qxi G (sM D cI cZ a) post) M 0 [(0, .ref (a 0)), (1, .int x1)] [] := by
  refine wx_iconst (v := (-1)) F dR_running_0 (by decide) ?_
  refine wx_istore_n (lv' := [(2, .int (-1)), (0, .ref (a 0)), (1, .int x1)]) F dR_running_1 rfl (by decide) rfl ?_
  refine wx_iconst (v := 0) F dR_running_2 (by decide) ?_
  refine wx_istore_n (lv' := [(3, .int 0), (2, .int (-1)), (0, .ref (a 0)), (1, .int x1)]) F dR_running_3 rfl (by decide) rfl ?_
  exact wx_lv [2, 3, 1, 0] rfl (hK4 _ _ _ _ (h))
set_option maxRecDepth 20000 in
theorem sR_running_4 {G : CX} {D : va_G} {cI cZ : ClassId} {a : Nat → Nat} {post : Int32 → MM → Prop} (F : FX G (sM D cI cZ a) cR_running 4 qnR (some .int)) (hR : gR G = rmR_running) {K4 : MM → Int32 → Int32 → Int32 → Prop} (hK4 : ∀ (M : MM) (x1 x2 x3 : Int32), K4 M x1 x2 x3 → wx G (sM D cI cZ a) 4 (Qxi G (sM D cI cZ a) post) M 4 [(0, .ref (a 0)), (1, .int x1), (2, .int x2), (3, .int x3)] []) {M : MM} {x1 x2 x3 : Int32} (h : ((M 0 1) ≤ x3 → (post x2 M)) ∧ (¬ (M 0 1) ≤ x3 → (∃ j2 : Nat, x3 = nI j2 ∧ j2 < 24 ∧ ((¬ (M 5 j2) = 3 → (K4 M x1 x2 (x3 + 1))) ∧ ((M 5 j2) = 3 → ((¬ (M 6 j2) = x1 → (K4 M x1 x2 (x3 + 1))) ∧ ((M 6 j2) = x1 → (K4 M x1 x3 (x3 + 1))))))))) : wx G (sM D cI cZ a) 4 (Qxi G (sM D cI cZ a) post) M 4 [(0, .ref (a 0)), (1, .int x1), (2, .int x2), (3, .int x3)] [] := by
  refine wx_iload_n F 3 dR_running_4 rfl rfl ?_
  refine wx_aload_n F 0 dR_running_5 rfl rfl ?_
  refine wx_get (ci := 4) (C := qnR) (T := TR) (N := 25) (v := .int (M 0 1)) F 0 (Nat.le_of_ble_eq_true rfl) rfl rfl hiR 1 (by decide) rfl lfR_60 rfl dR_running_6 ?_
  refine wx_icmp_ge (tgt := 44) F dR_running_9 (by decide) (fun g1 => ?_) (fun g1 => ?_)
  · refine wx_iload_n F 2 dR_running_44 rfl rfl ?_
    exact wx_iret F dR_running_45 ((h).1 g1)
  · refine wx_aload_n F 0 dR_running_12 rfl rfl ?_
    refine wx_get (ci := 4) (C := qnR) (T := TR) (N := 25) (v := .ref (a 5)) F 0 (Nat.le_of_ble_eq_true rfl) rfl rfl hiR 6 (by decide) rfl lfR_22 rfl dR_running_13 ?_
    refine wx_iload_n F 3 dR_running_16 rfl rfl ?_
    obtain ⟨j2, e3, b4, h5⟩ := (h).2 g1
    refine wx_iald (N := 24) F 5 (Nat.le_of_ble_eq_true rfl) rfl 0 rfl e3 b4 (by omega) dR_running_17 ?_
    refine wx_iconst (v := 3) F dR_running_18 (by decide) ?_
    refine wx_icmp_ne (tgt := 36) F dR_running_19 (by decide) (fun g6 => ?_) (fun g6 => ?_)
    · refine wx_iload_n F 2 dR_running_36 rfl rfl ?_
      refine wx_istore_n (lv' := [(2, .int x2), (0, .ref (a 0)), (1, .int x1), (3, .int x3)]) F dR_running_37 rfl (by decide) rfl ?_
      refine wx_iinc (lv' := [(3, .int (x3 + 1)), (2, .int x2), (0, .ref (a 0)), (1, .int x1)]) F 3 dR_running_38 rfl (ii1 _) (by decide) rfl ?_
      refine wx_goto (tgt := 4) F dR_running_41 (by decide) ?_
      exact wx_lv [2, 3, 1, 0] rfl (hK4 _ _ _ _ ((h5).1 g6))
    · refine wx_aload_n F 0 dR_running_22 rfl rfl ?_
      refine wx_get (ci := 4) (C := qnR) (T := TR) (N := 25) (v := .ref (a 6)) F 0 (Nat.le_of_ble_eq_true rfl) rfl rfl hiR 7 (by decide) rfl lfR_25 rfl dR_running_23 ?_
      refine wx_iload_n F 3 dR_running_26 rfl rfl ?_
      refine wx_iald (N := 24) F 6 (Nat.le_of_ble_eq_true rfl) rfl 0 rfl e3 b4 (by omega) dR_running_27 ?_
      refine wx_iload_n F 1 dR_running_28 rfl rfl ?_
      refine wx_icmp_ne (tgt := 36) F dR_running_29 (by decide) (fun g7 => ?_) (fun g7 => ?_)
      · refine wx_iload_n F 2 dR_running_36 rfl rfl ?_
        refine wx_istore_n (lv' := [(2, .int x2), (0, .ref (a 0)), (1, .int x1), (3, .int x3)]) F dR_running_37 rfl (by decide) rfl ?_
        refine wx_iinc (lv' := [(3, .int (x3 + 1)), (2, .int x2), (0, .ref (a 0)), (1, .int x1)]) F 3 dR_running_38 rfl (ii1 _) (by decide) rfl ?_
        refine wx_goto (tgt := 4) F dR_running_41 (by decide) ?_
        exact wx_lv [2, 3, 1, 0] rfl (hK4 _ _ _ _ (((h5).2 g6).1 g7))
      · refine wx_iload_n F 3 dR_running_32 rfl rfl ?_
        refine wx_goto (tgt := 37) F dR_running_33 (by decide) ?_
        refine wx_istore_n (lv' := [(2, .int x3), (0, .ref (a 0)), (1, .int x1), (3, .int x3)]) F dR_running_37 rfl (by decide) rfl ?_
        refine wx_iinc (lv' := [(3, .int (x3 + 1)), (2, .int x3), (0, .ref (a 0)), (1, .int x1)]) F 3 dR_running_38 rfl (ii1 _) (by decide) rfl ?_
        refine wx_goto (tgt := 4) F dR_running_41 (by decide) ?_
        exact wx_lv [2, 3, 1, 0] rfl (hK4 _ _ _ _ (((h5).2 g6).2 g7))
theorem oR_running {l : Launch} {D : va_G} {cI cZ : ClassId} {a : Nat → Nat} {post : Int32 → MM → Prop} (hJ : IJ (sM D cI cZ a)) {M : MM} {x1 : Int32} (h : ∀ G : CX, gl G = l → gR G = rmR_running → FX G (sM D cI cZ a) cR_running 4 qnR (some .int) → wx G (sM D cI cZ a) 4 (Qxi G (sM D cI cZ a) post) M 0 [(0, .ref (a 0)), (1, .int x1)] []) : Ci l (sM D cI cZ a) yR_running wR_running rmR_running [.ref (a 0), .int x1] M post := Ci.of (cc := cR_running) (nL := 4) rfl rfl (Nat.le_of_ble_eq_true rfl) hJ h
set_option maxRecDepth 20000 in
theorem sR_activeChild_0 {G : CX} {D : va_G} {cI cZ : ClassId} {a : Nat → Nat} {post : Int32 → MM → Prop} (F : FX G (sM D cI cZ a) cR_activeChild 4 qnR (some .boolean)) (hR : gR G = rmR_activeChild) {K4 : MM → Int32 → Int32 → Int32 → Prop} (hK4 : ∀ (M : MM) (x1 x2 x3 : Int32), K4 M x1 x2 x3 → wx G (sM D cI cZ a) 4 (Qxi G (sM D cI cZ a) post) M 4 [(0, .ref (a 0)), (1, .int x1), (2, .int x2), (3, .int x3)] []) {M : MM} {x1 : Int32} (h : K4 M x1 0 0) : wx G (sM D cI cZ a) 4 (Qxi G (sM D cI cZ a) post) M 0 [(0, .ref (a 0)), (1, .int x1)] [] := by
  refine wx_iconst (v := 0) F dR_activeChild_0 (by decide) ?_
  refine wx_istore_n (lv' := [(2, .int 0), (0, .ref (a 0)), (1, .int x1)]) F dR_activeChild_1 rfl (by decide) rfl ?_
  refine wx_iconst (v := 0) F dR_activeChild_2 (by decide) ?_
  refine wx_istore_n (lv' := [(3, .int 0), (2, .int 0), (0, .ref (a 0)), (1, .int x1)]) F dR_activeChild_3 rfl (by decide) rfl ?_
  exact wx_lv [2, 3, 1, 0] rfl (hK4 _ _ _ _ (h))
set_option maxRecDepth 20000 in
theorem sR_activeChild_4 {G : CX} {D : va_G} {cI cZ : ClassId} {a : Nat → Nat} {post : Int32 → MM → Prop} (F : FX G (sM D cI cZ a) cR_activeChild 4 qnR (some .boolean)) (hR : gR G = rmR_activeChild) {K4 : MM → Int32 → Int32 → Int32 → Prop} (hK4 : ∀ (M : MM) (x1 x2 x3 : Int32), K4 M x1 x2 x3 → wx G (sM D cI cZ a) 4 (Qxi G (sM D cI cZ a) post) M 4 [(0, .ref (a 0)), (1, .int x1), (2, .int x2), (3, .int x3)] []) {M : MM} {x1 x2 x3 : Int32} (h : ((M 0 1) ≤ x3 → (narrow .boolean (.int x2) = .int x2 ∧ post x2 M)) ∧ (¬ (M 0 1) ≤ x3 → ((¬ x2 = 0 → (K4 M x1 1 (x3 + 1))) ∧ (x2 = 0 → (∃ j3 : Nat, x3 = nI j3 ∧ j3 < 24 ∧ ((¬ (M 2 j3) = x1 → (K4 M x1 0 (x3 + 1))) ∧ ((M 2 j3) = x1 → (((M 5 j3) = 0 → (K4 M x1 0 (x3 + 1))) ∧ (¬ (M 5 j3) = 0 → (K4 M x1 1 (x3 + 1))))))))))) : wx G (sM D cI cZ a) 4 (Qxi G (sM D cI cZ a) post) M 4 [(0, .ref (a 0)), (1, .int x1), (2, .int x2), (3, .int x3)] [] := by
  refine wx_iload_n F 3 dR_activeChild_4 rfl rfl ?_
  refine wx_aload_n F 0 dR_activeChild_5 rfl rfl ?_
  refine wx_get (ci := 4) (C := qnR) (T := TR) (N := 25) (v := .int (M 0 1)) F 0 (Nat.le_of_ble_eq_true rfl) rfl rfl hiR 1 (by decide) rfl lfR_60 rfl dR_activeChild_6 ?_
  refine wx_icmp_ge (tgt := 47) F dR_activeChild_9 (by decide) (fun g1 => ?_) (fun g1 => ?_)
  · refine wx_iload_n F 2 dR_activeChild_47 rfl rfl ?_
    exact wx_zret F dR_activeChild_48 ((h).1 g1).1 ((h).1 g1).2
  · refine wx_iload_n F 2 dR_activeChild_12 rfl rfl ?_
    refine wx_if_ne (tgt := 35) F dR_activeChild_13 (by decide) (fun g2 => ?_) (fun g2 => ?_)
    · refine wx_iconst (v := 1) F dR_activeChild_35 (by decide) ?_
      refine wx_goto (tgt := 40) F dR_activeChild_36 (by decide) ?_
      refine wx_istore_n (lv' := [(2, .int 1), (0, .ref (a 0)), (1, .int x1), (3, .int x3)]) F dR_activeChild_40 rfl (by decide) rfl ?_
      refine wx_iinc (lv' := [(3, .int (x3 + 1)), (2, .int 1), (0, .ref (a 0)), (1, .int x1)]) F 3 dR_activeChild_41 rfl (ii1 _) (by decide) rfl ?_
      refine wx_goto (tgt := 4) F dR_activeChild_44 (by decide) ?_
      exact wx_lv [2, 3, 1, 0] rfl (hK4 _ _ _ _ (((h).2 g1).1 g2))
    · refine wx_aload_n F 0 dR_activeChild_16 rfl rfl ?_
      refine wx_get (ci := 4) (C := qnR) (T := TR) (N := 25) (v := .ref (a 2)) F 0 (Nat.le_of_ble_eq_true rfl) rfl rfl hiR 3 (by decide) rfl lfR_13 rfl dR_activeChild_17 ?_
      refine wx_iload_n F 3 dR_activeChild_20 rfl rfl ?_
      obtain ⟨j3, e4, b5, h6⟩ := ((h).2 g1).2 g2
      refine wx_iald (N := 24) F 2 (Nat.le_of_ble_eq_true rfl) rfl 0 rfl e4 b5 (by omega) dR_activeChild_21 ?_
      refine wx_iload_n F 1 dR_activeChild_22 rfl rfl ?_
      refine wx_icmp_ne (tgt := 39) F dR_activeChild_23 (by decide) (fun g7 => ?_) (fun g7 => ?_)
      · refine wx_iconst (v := 0) F dR_activeChild_39 (by decide) ?_
        refine wx_istore_n (lv' := [(2, .int 0), (0, .ref (a 0)), (1, .int x1), (3, .int x3)]) F dR_activeChild_40 rfl (by decide) rfl ?_
        refine wx_iinc (lv' := [(3, .int (x3 + 1)), (2, .int 0), (0, .ref (a 0)), (1, .int x1)]) F 3 dR_activeChild_41 rfl (ii1 _) (by decide) rfl ?_
        refine wx_goto (tgt := 4) F dR_activeChild_44 (by decide) ?_
        exact wx_lv [2, 3, 1, 0] rfl (hK4 _ _ _ _ ((h6).1 g7))
      · refine wx_aload_n F 0 dR_activeChild_26 rfl rfl ?_
        refine wx_get (ci := 4) (C := qnR) (T := TR) (N := 25) (v := .ref (a 5)) F 0 (Nat.le_of_ble_eq_true rfl) rfl rfl hiR 6 (by decide) rfl lfR_22 rfl dR_activeChild_27 ?_
        refine wx_iload_n F 3 dR_activeChild_30 rfl rfl ?_
        refine wx_iald (N := 24) F 5 (Nat.le_of_ble_eq_true rfl) rfl 0 rfl e4 b5 (by omega) dR_activeChild_31 ?_
        refine wx_if_eq (tgt := 39) F dR_activeChild_32 (by decide) (fun g8 => ?_) (fun g8 => ?_)
        · refine wx_iconst (v := 0) F dR_activeChild_39 (by decide) ?_
          refine wx_istore_n (lv' := [(2, .int 0), (0, .ref (a 0)), (1, .int x1), (3, .int x3)]) F dR_activeChild_40 rfl (by decide) rfl ?_
          refine wx_iinc (lv' := [(3, .int (x3 + 1)), (2, .int 0), (0, .ref (a 0)), (1, .int x1)]) F 3 dR_activeChild_41 rfl (ii1 _) (by decide) rfl ?_
          refine wx_goto (tgt := 4) F dR_activeChild_44 (by decide) ?_
          exact wx_lv [2, 3, 1, 0] rfl (hK4 _ _ _ _ (((h6).2 g7).1 g8))
        · refine wx_iconst (v := 1) F dR_activeChild_35 (by decide) ?_
          refine wx_goto (tgt := 40) F dR_activeChild_36 (by decide) ?_
          refine wx_istore_n (lv' := [(2, .int 1), (0, .ref (a 0)), (1, .int x1), (3, .int x3)]) F dR_activeChild_40 rfl (by decide) rfl ?_
          refine wx_iinc (lv' := [(3, .int (x3 + 1)), (2, .int 1), (0, .ref (a 0)), (1, .int x1)]) F 3 dR_activeChild_41 rfl (ii1 _) (by decide) rfl ?_
          refine wx_goto (tgt := 4) F dR_activeChild_44 (by decide) ?_
          exact wx_lv [2, 3, 1, 0] rfl (hK4 _ _ _ _ (((h6).2 g7).2 g8))
theorem oR_activeChild {l : Launch} {D : va_G} {cI cZ : ClassId} {a : Nat → Nat} {post : Int32 → MM → Prop} (hJ : IJ (sM D cI cZ a)) {M : MM} {x1 : Int32} (h : ∀ G : CX, gl G = l → gR G = rmR_activeChild → FX G (sM D cI cZ a) cR_activeChild 4 qnR (some .boolean) → wx G (sM D cI cZ a) 4 (Qxi G (sM D cI cZ a) post) M 0 [(0, .ref (a 0)), (1, .int x1)] []) : Ci l (sM D cI cZ a) yR_activeChild wR_activeChild rmR_activeChild [.ref (a 0), .int x1] M post := Ci.of (cc := cR_activeChild) (nL := 4) rfl rfl (Nat.le_of_ble_eq_true rfl) hJ h
set_option maxRecDepth 20000 in
theorem sR_start_0 {G : CX} {D : va_G} {cI cZ : ClassId} {a : Nat → Nat} {post : Int32 → MM → Prop} (F : FX G (sM D cI cZ a) cR_start 3 qnR (some .boolean)) (hR : gR G = rmR_start) {K69 : MM → Int32 → Int32 → Prop} (hK69 : ∀ (M : MM) (x1 x2 : Int32), K69 M x1 x2 → wx G (sM D cI cZ a) 3 (Qxi G (sM D cI cZ a) post) M 69 [(0, .ref (a 0)), (1, .int x1), (2, .int x2)] []) {M : MM} {x1 : Int32} (h : (¬ (M 0 18) = 0 → (post 0 M)) ∧ ((M 0 18) = 0 → ((x1 < 1 → (post 0 M)) ∧ (¬ x1 < 1 → ((9 < x1 → (post 0 M)) ∧ (¬ 9 < x1 → (∃ po4 : Int32 → MM → Prop, Ci (gl G) (sM D cI cZ a) yR_check wR_check rmR_check [.ref (a 0)] M po4 ∧ ∀ (r7 : Int32) (M8 : MM), po4 r7 M8 → ((r7 = 0 → (∀ M11 : MM, M11 = mp M8 0 17 1 → (∀ M13 : MM, M13 = mp M11 0 18 1 → (∀ M15 : MM, M15 = mp M13 0 19 0 → (∀ M17 : MM, M17 = mp M15 0 20 (-1) → (∀ M19 : MM, M19 = mp M17 0 21 x1 → (∀ M21 : MM, M21 = mp M19 0 22 0 → (∀ M23 : MM, M23 = mp M21 0 23 0 → (∀ M25 : MM, M25 = mp M23 0 24 0 → (K69 M25 x1 0)))))))))) ∧ (¬ r7 = 0 → (post 0 M8)))))))))) : wx G (sM D cI cZ a) 3 (Qxi G (sM D cI cZ a) post) M 0 [(0, .ref (a 0)), (1, .int x1)] [] := by
  refine wx_aload_n F 0 dR_start_0 rfl rfl ?_
  refine wx_get (ci := 4) (C := qnR) (T := TR) (N := 25) (v := .int (M 0 18)) F 0 (Nat.le_of_ble_eq_true rfl) rfl rfl hiR 18 (by decide) rfl lfR_67 rfl dR_start_1 ?_
  refine wx_if_ne (tgt := 25) F dR_start_4 (by decide) (fun g1 => ?_) (fun g1 => ?_)
  · refine wx_iconst (v := 0) F dR_start_25 (by decide) ?_
    exact wx_zret F dR_start_26 rfl ((h).1 g1)
  · refine wx_iload_n F 1 dR_start_7 rfl rfl ?_
    refine wx_iconst (v := 1) F dR_start_8 (by decide) ?_
    refine wx_icmp_lt (tgt := 25) F dR_start_9 (by decide) (fun g2 => ?_) (fun g2 => ?_)
    · refine wx_iconst (v := 0) F dR_start_25 (by decide) ?_
      exact wx_zret F dR_start_26 rfl (((h).2 g1).1 g2)
    · refine wx_iload_n F 1 dR_start_12 rfl rfl ?_
      refine wx_bipush (v := 9) F dR_start_13 (by decide) ?_
      refine wx_icmp_gt (tgt := 25) F dR_start_15 (by decide) (fun g3 => ?_) (fun g3 => ?_)
      · refine wx_iconst (v := 0) F dR_start_25 (by decide) ?_
        exact wx_zret F dR_start_26 rfl ((((h).2 g1).2 g2).1 g3)
      · refine wx_aload_n F 0 dR_start_18 rfl rfl ?_
        obtain ⟨po4, c5, h6⟩ := (((h).2 g1).2 g2).2 g3
        refine wx_calli F 0 c5 (Nat.le_of_ble_eq_true rfl) rfl rfl (cw_V F.1.2.2.2.2 lmR_105 cbR_check rfl rfl ⟨by rw [hR]; exact Nat.le_of_ble_eq_true rfl, by rw [hR]; exact Nat.le_of_ble_eq_true rfl⟩) rfl rfl (Nat.le_of_ble_eq_true rfl) dR_start_19 (fun r7 M8 p9 => ?_)
        refine wx_if_eq (tgt := 27) F dR_start_22 (by decide) (fun g10 => ?_) (fun g10 => ?_)
        · refine wx_aload_n F 0 dR_start_27 rfl rfl ?_
          refine wx_iconst (v := 1) F dR_start_28 (by decide) ?_
          refine wx_put (ci := 4) (C := qnR) (T := TR) (N := 25) (ty := .boolean) F 0 (Nat.le_of_ble_eq_true rfl) rfl rfl hiR tyR tyR_ok nmR 17 (by decide) rfl lfR_109 rfl (by decide +kernel) rfl rfl (Nat.le_of_ble_eq_true rfl) rfl dR_start_29 (wx_nm (fun M11 e12 => ?_))
          refine wx_aload_n F 0 dR_start_32 rfl rfl ?_
          refine wx_iconst (v := 1) F dR_start_33 (by decide) ?_
          refine wx_put (ci := 4) (C := qnR) (T := TR) (N := 25) (ty := .boolean) F 0 (Nat.le_of_ble_eq_true rfl) rfl rfl hiR tyR tyR_ok nmR 18 (by decide) rfl lfR_67 rfl (by decide +kernel) rfl rfl (Nat.le_of_ble_eq_true rfl) rfl dR_start_34 (wx_nm (fun M13 e14 => ?_))
          refine wx_aload_n F 0 dR_start_37 rfl rfl ?_
          refine wx_iconst (v := 0) F dR_start_38 (by decide) ?_
          refine wx_put (ci := 4) (C := qnR) (T := TR) (N := 25) (ty := .boolean) F 0 (Nat.le_of_ble_eq_true rfl) rfl rfl hiR tyR tyR_ok nmR 19 (by decide) rfl lfR_112 rfl (by decide +kernel) rfl rfl (Nat.le_of_ble_eq_true rfl) rfl dR_start_39 (wx_nm (fun M15 e16 => ?_))
          refine wx_aload_n F 0 dR_start_42 rfl rfl ?_
          refine wx_iconst (v := (-1)) F dR_start_43 (by decide) ?_
          refine wx_put (ci := 4) (C := qnR) (T := TR) (N := 25) (ty := .int) F 0 (Nat.le_of_ble_eq_true rfl) rfl rfl hiR tyR tyR_ok nmR 20 (by decide) rfl lfR_53 rfl (by decide +kernel) rfl rfl (Nat.le_of_ble_eq_true rfl) rfl dR_start_44 (wx_nm (fun M17 e18 => ?_))
          refine wx_aload_n F 0 dR_start_47 rfl rfl ?_
          refine wx_iload_n F 1 dR_start_48 rfl rfl ?_
          refine wx_put (ci := 4) (C := qnR) (T := TR) (N := 25) (ty := .int) F 0 (Nat.le_of_ble_eq_true rfl) rfl rfl hiR tyR tyR_ok nmR 21 (by decide) rfl lfR_115 rfl (by decide +kernel) rfl rfl (Nat.le_of_ble_eq_true rfl) rfl dR_start_49 (wx_nm (fun M19 e20 => ?_))
          refine wx_aload_n F 0 dR_start_52 rfl rfl ?_
          refine wx_iconst (v := 0) F dR_start_53 (by decide) ?_
          refine wx_put (ci := 4) (C := qnR) (T := TR) (N := 25) (ty := .int) F 0 (Nat.le_of_ble_eq_true rfl) rfl rfl hiR tyR tyR_ok nmR 22 (by decide) rfl lfR_99 rfl (by decide +kernel) rfl rfl (Nat.le_of_ble_eq_true rfl) rfl dR_start_54 (wx_nm (fun M21 e22 => ?_))
          refine wx_aload_n F 0 dR_start_57 rfl rfl ?_
          refine wx_iconst (v := 0) F dR_start_58 (by decide) ?_
          refine wx_put (ci := 4) (C := qnR) (T := TR) (N := 25) (ty := .int) F 0 (Nat.le_of_ble_eq_true rfl) rfl rfl hiR tyR tyR_ok nmR 23 (by decide) rfl lfR_86 rfl (by decide +kernel) rfl rfl (Nat.le_of_ble_eq_true rfl) rfl dR_start_59 (wx_nm (fun M23 e24 => ?_))
          refine wx_aload_n F 0 dR_start_62 rfl rfl ?_
          refine wx_iconst (v := 0) F dR_start_63 (by decide) ?_
          refine wx_put (ci := 4) (C := qnR) (T := TR) (N := 25) (ty := .int) F 0 (Nat.le_of_ble_eq_true rfl) rfl rfl hiR tyR tyR_ok nmR 24 (by decide) rfl lfR_118 rfl (by decide +kernel) rfl rfl (Nat.le_of_ble_eq_true rfl) rfl dR_start_64 (wx_nm (fun M25 e26 => ?_))
          refine wx_iconst (v := 0) F dR_start_67 (by decide) ?_
          refine wx_istore_n (lv' := [(2, .int 0), (0, .ref (a 0)), (1, .int x1)]) F dR_start_68 rfl (by decide) rfl ?_
          exact wx_lv [1, 2, 0] rfl (hK69 _ _ _ ((((((((((h6 r7 M8 p9).1 g10) M11 e12) M13 e14) M15 e16) M17 e18) M19 e20) M21 e22) M23 e24) M25 e26))
        · refine wx_iconst (v := 0) F dR_start_25 (by decide) ?_
          exact wx_zret F dR_start_26 rfl ((h6 r7 M8 p9).2 g10)
set_option maxRecDepth 20000 in
theorem sR_start_69 {G : CX} {D : va_G} {cI cZ : ClassId} {a : Nat → Nat} {post : Int32 → MM → Prop} (F : FX G (sM D cI cZ a) cR_start 3 qnR (some .boolean)) (hR : gR G = rmR_start) {K69 : MM → Int32 → Int32 → Prop} (hK69 : ∀ (M : MM) (x1 x2 : Int32), K69 M x1 x2 → wx G (sM D cI cZ a) 3 (Qxi G (sM D cI cZ a) post) M 69 [(0, .ref (a 0)), (1, .int x1), (2, .int x2)] []) {M : MM} {x1 x2 : Int32} (h : ((M 0 1) ≤ x2 → (∃ po2 : MM → Prop, Cv (gl G) (sM D cI cZ a) yR_nextRound wR_nextRound rmR_nextRound [.ref (a 0)] M po2 ∧ ∀ (M6 : MM), po2 M6 → (post 1 M6))) ∧ (¬ (M 0 1) ≤ x2 → (∃ j10 : Nat, x2 = nI j10 ∧ j10 < 24 ∧ (∀ M8 : MM, M8 = mp M 9 j10 0 → (∀ M14 : MM, M14 = mp M8 10 j10 0 → (K69 M14 x1 (x2 + 1))))))) : wx G (sM D cI cZ a) 3 (Qxi G (sM D cI cZ a) post) M 69 [(0, .ref (a 0)), (1, .int x1), (2, .int x2)] [] := by
  refine wx_iload_n F 2 dR_start_69 rfl rfl ?_
  refine wx_aload_n F 0 dR_start_70 rfl rfl ?_
  refine wx_get (ci := 4) (C := qnR) (T := TR) (N := 25) (v := .int (M 0 1)) F 0 (Nat.le_of_ble_eq_true rfl) rfl rfl hiR 1 (by decide) rfl lfR_60 rfl dR_start_71 ?_
  refine wx_icmp_ge (tgt := 97) F dR_start_74 (by decide) (fun g1 => ?_) (fun g1 => ?_)
  · refine wx_aload_n F 0 dR_start_97 rfl rfl ?_
    obtain ⟨po2, c3, h4⟩ := (h).1 g1
    refine wx_callv F 0 c3 (Nat.le_of_ble_eq_true rfl) rfl rfl (cw_V F.1.2.2.2.2 lmR_121 cbR_nextRound rfl rfl ⟨by rw [hR]; exact Nat.le_of_ble_eq_true rfl, by rw [hR]; exact Nat.le_of_ble_eq_true rfl⟩) rfl rfl (Nat.le_of_ble_eq_true rfl) dR_start_98 (fun M6 p7 => ?_)
    refine wx_iconst (v := 1) F dR_start_101 (by decide) ?_
    exact wx_zret F dR_start_102 rfl (h4 M6 p7)
  · refine wx_aload_n F 0 dR_start_77 rfl rfl ?_
    refine wx_get (ci := 4) (C := qnR) (T := TR) (N := 25) (v := .ref (a 9)) F 0 (Nat.le_of_ble_eq_true rfl) rfl rfl hiR 10 (by decide) rfl lfR_34 rfl dR_start_78 ?_
    refine wx_iload_n F 2 dR_start_81 rfl rfl ?_
    refine wx_iconst (v := 0) F dR_start_82 (by decide) ?_
    obtain ⟨j10, e11, b12, h13⟩ := (h).2 g1
    refine wx_iast (N := 24) F 9 (Nat.le_of_ble_eq_true rfl) (fun _ => rfl) 0 rfl e11 b12 (by omega) dR_start_83 (wx_nm (fun M8 e9 => ?_))
    refine wx_aload_n F 0 dR_start_84 rfl rfl ?_
    refine wx_get (ci := 4) (C := qnR) (T := TR) (N := 25) (v := .ref (a 10)) F 0 (Nat.le_of_ble_eq_true rfl) rfl rfl hiR 11 (by decide) rfl lfR_37 rfl dR_start_85 ?_
    refine wx_iload_n F 2 dR_start_88 rfl rfl ?_
    refine wx_iconst (v := 0) F dR_start_89 (by decide) ?_
    refine wx_zast (N := 24) F 10 (Nat.le_of_ble_eq_true rfl) (fun _ => rfl) 1 rfl e11 b12 (by omega) rfl dR_start_90 (wx_nm (fun M14 e15 => ?_))
    refine wx_iinc (lv' := [(2, .int (x2 + 1)), (0, .ref (a 0)), (1, .int x1)]) F 2 dR_start_91 rfl (ii1 _) (by decide) rfl ?_
    refine wx_goto (tgt := 69) F dR_start_94 (by decide) ?_
    exact wx_lv [1, 2, 0] rfl (hK69 _ _ _ ((h13 M8 e9) M14 e15))
theorem oR_start {l : Launch} {D : va_G} {cI cZ : ClassId} {a : Nat → Nat} {post : Int32 → MM → Prop} (hJ : IJ (sM D cI cZ a)) {M : MM} {x1 : Int32} (h : ∀ G : CX, gl G = l → gR G = rmR_start → FX G (sM D cI cZ a) cR_start 3 qnR (some .boolean) → wx G (sM D cI cZ a) 3 (Qxi G (sM D cI cZ a) post) M 0 [(0, .ref (a 0)), (1, .int x1)] []) : Ci l (sM D cI cZ a) yR_start wR_start rmR_start [.ref (a 0), .int x1] M post := Ci.of (cc := cR_start) (nL := 3) rfl rfl (Nat.le_of_ble_eq_true rfl) hJ h
set_option maxRecDepth 20000 in
theorem sR_take_0 {G : CX} {D : va_G} {cI cZ : ClassId} {a : Nat → Nat} {post : Int32 → MM → Prop} (F : FX G (sM D cI cZ a) cR_take 4 qnR (some .int)) (hR : gR G = rmR_take) {K23 : MM → Int32 → Int32 → Int32 → Prop} (hK23 : ∀ (M : MM) (x1 x2 x3 : Int32), K23 M x1 x2 x3 → wx G (sM D cI cZ a) 4 (Qxi G (sM D cI cZ a) post) M 23 [(0, .ref (a 0)), (1, .int x1), (2, .int x2), (3, .int x3)] []) {M : MM} {x1 : Int32} (h : ∃ po1 : Int32 → MM → Prop, Ci (gl G) (sM D cI cZ a) yR_endOf wR_endOf rmR_endOf [.ref (a 0), .int x1, .int 1] M po1 ∧ ∀ (r4 : Int32) (M5 : MM), po1 r4 M5 → ((0 ≤ r4 → (K23 M5 x1 r4 1)) ∧ (¬ 0 ≤ r4 → (∃ po8 : Int32 → MM → Prop, Ci (gl G) (sM D cI cZ a) yR_endOf wR_endOf rmR_endOf [.ref (a 0), .int (M5 0 0), .int 0] M5 po8 ∧ ∀ (r11 : Int32) (M12 : MM), po8 r11 M12 → (K23 M12 x1 r11 1))))) : wx G (sM D cI cZ a) 4 (Qxi G (sM D cI cZ a) post) M 0 [(0, .ref (a 0)), (1, .int x1)] [] := by
  refine wx_aload_n F 0 dR_take_0 rfl rfl ?_
  refine wx_iload_n F 1 dR_take_1 rfl rfl ?_
  refine wx_iconst (v := 1) F dR_take_2 (by decide) ?_
  obtain ⟨po1, c2, h3⟩ := h
  refine wx_calli F 0 c2 (Nat.le_of_ble_eq_true rfl) rfl rfl (cw_V F.1.2.2.2.2 lmR_124 cbR_endOf rfl rfl ⟨by rw [hR]; exact Nat.le_of_ble_eq_true rfl, by rw [hR]; exact Nat.le_of_ble_eq_true rfl⟩) rfl rfl (Nat.le_of_ble_eq_true rfl) dR_take_3 (fun r4 M5 p6 => ?_)
  refine wx_istore_n (lv' := [(2, .int r4), (0, .ref (a 0)), (1, .int x1)]) F dR_take_6 rfl (by decide) rfl ?_
  refine wx_iload_n F 0 dR_take_7 rfl rfl ?_
  refine wx_if_ge (tgt := 21) F dR_take_8 (by decide) (fun g7 => ?_) (fun g7 => ?_)
  · refine wx_iconst (v := 1) F dR_take_21 (by decide) ?_
    refine wx_istore_n (lv' := [(3, .int 1), (2, .int r4), (0, .ref (a 0)), (1, .int x1)]) F dR_take_22 rfl (by decide) rfl ?_
    exact wx_lv [2, 3, 1, 0] rfl (hK23 _ _ _ _ ((h3 r4 M5 p6).1 g7))
  · refine wx_aload_n F 1 dR_take_11 rfl rfl ?_
    refine wx_aload_n F 1 dR_take_12 rfl rfl ?_
    refine wx_get (ci := 4) (C := qnR) (T := TR) (N := 25) (v := .int (M5 0 0)) F 0 (Nat.le_of_ble_eq_true rfl) rfl rfl hiR 0 (by decide) rfl lfR_57 rfl dR_take_13 ?_
    refine wx_iconst (v := 0) F dR_take_16 (by decide) ?_
    obtain ⟨po8, c9, h10⟩ := (h3 r4 M5 p6).2 g7
    refine wx_calli F 0 c9 (Nat.le_of_ble_eq_true rfl) rfl rfl (cw_V F.1.2.2.2.2 lmR_124 cbR_endOf rfl rfl ⟨by rw [hR]; exact Nat.le_of_ble_eq_true rfl, by rw [hR]; exact Nat.le_of_ble_eq_true rfl⟩) rfl rfl (Nat.le_of_ble_eq_true rfl) dR_take_17 (fun r11 M12 p13 => ?_)
    refine wx_istore_n (lv' := [(2, .int r11), (0, .ref (a 0)), (1, .int x1)]) F dR_take_20 rfl (by decide) rfl ?_
    refine wx_iconst (v := 1) F dR_take_21 (by decide) ?_
    refine wx_istore_n (lv' := [(3, .int 1), (2, .int r11), (0, .ref (a 0)), (1, .int x1)]) F dR_take_22 rfl (by decide) rfl ?_
    exact wx_lv [2, 3, 1, 0] rfl (hK23 _ _ _ _ (h10 r11 M12 p13))
set_option maxRecDepth 20000 in
theorem sR_take_23 {G : CX} {D : va_G} {cI cZ : ClassId} {a : Nat → Nat} {post : Int32 → MM → Prop} (F : FX G (sM D cI cZ a) cR_take 4 qnR (some .int)) (hR : gR G = rmR_take) {K23 : MM → Int32 → Int32 → Int32 → Prop} (hK23 : ∀ (M : MM) (x1 x2 x3 : Int32), K23 M x1 x2 x3 → wx G (sM D cI cZ a) 4 (Qxi G (sM D cI cZ a) post) M 23 [(0, .ref (a 0)), (1, .int x1), (2, .int x2), (3, .int x3)] []) {M : MM} {x1 x2 x3 : Int32} (h : ((M 0 0) ≤ x3 → (post x2 M)) ∧ (¬ (M 0 0) ≤ x3 → ((0 ≤ x2 → (post x2 M)) ∧ (¬ 0 ≤ x2 → (¬ (M 0 0) = 0 ∧ ∃ po3 : Int32 → MM → Prop, Ci (gl G) (sM D cI cZ a) yR_endOf wR_endOf rmR_endOf [.ref (a 0), .int ((x1 + x3) - (x1 + x3) / (M 0 0) * (M 0 0)), .int 0] M po3 ∧ ∀ (r6 : Int32) (M7 : MM), po3 r6 M7 → ((0 ≤ r6 → (∀ M10 : MM, M10 = mp M7 0 24 ((M7 0 24) + 1) → (K23 M10 x1 r6 (x3 + 1)))) ∧ (¬ 0 ≤ r6 → (∀ M12 : MM, M12 = mp M7 0 24 (M7 0 24) → (K23 M12 x1 r6 (x3 + 1)))))))))) : wx G (sM D cI cZ a) 4 (Qxi G (sM D cI cZ a) post) M 23 [(0, .ref (a 0)), (1, .int x1), (2, .int x2), (3, .int x3)] [] := by
  refine wx_iload_n F 3 dR_take_23 rfl rfl ?_
  refine wx_aload_n F 0 dR_take_24 rfl rfl ?_
  refine wx_get (ci := 4) (C := qnR) (T := TR) (N := 25) (v := .int (M 0 0)) F 0 (Nat.le_of_ble_eq_true rfl) rfl rfl hiR 0 (by decide) rfl lfR_57 rfl dR_take_25 ?_
  refine wx_icmp_ge (tgt := 76) F dR_take_28 (by decide) (fun g1 => ?_) (fun g1 => ?_)
  · refine wx_iload_n F 2 dR_take_76 rfl rfl ?_
    exact wx_iret F dR_take_77 ((h).1 g1)
  · refine wx_iload_n F 2 dR_take_31 rfl rfl ?_
    refine wx_if_ge (tgt := 76) F dR_take_32 (by decide) (fun g2 => ?_) (fun g2 => ?_)
    · refine wx_iload_n F 2 dR_take_76 rfl rfl ?_
      exact wx_iret F dR_take_77 (((h).2 g1).1 g2)
    · refine wx_aload_n F 0 dR_take_35 rfl rfl ?_
      refine wx_iload_n F 1 dR_take_36 rfl rfl ?_
      refine wx_iload_n F 3 dR_take_37 rfl rfl ?_
      refine wx_iadd F dR_take_38 ?_
      refine wx_aload_n F 0 dR_take_39 rfl rfl ?_
      refine wx_get (ci := 4) (C := qnR) (T := TR) (N := 25) (v := .int (M 0 0)) F 0 (Nat.le_of_ble_eq_true rfl) rfl rfl hiR 0 (by decide) rfl lfR_57 rfl dR_take_40 ?_
      refine wx_irem F dR_take_43 (((h).2 g1).2 g2).1 ?_
      refine wx_iconst (v := 0) F dR_take_44 (by decide) ?_
      obtain ⟨po3, c4, h5⟩ := (((h).2 g1).2 g2).2
      refine wx_calli F 0 c4 (Nat.le_of_ble_eq_true rfl) rfl rfl (cw_V F.1.2.2.2.2 lmR_124 cbR_endOf rfl rfl ⟨by rw [hR]; exact Nat.le_of_ble_eq_true rfl, by rw [hR]; exact Nat.le_of_ble_eq_true rfl⟩) rfl rfl (Nat.le_of_ble_eq_true rfl) dR_take_45 (fun r6 M7 p8 => ?_)
      refine wx_istore_n (lv' := [(2, .int r6), (0, .ref (a 0)), (1, .int x1), (3, .int x3)]) F dR_take_48 rfl (by decide) rfl ?_
      refine wx_aload_n F 1 dR_take_49 rfl rfl ?_
      refine wx_iload_n F 0 dR_take_50 rfl rfl ?_
      refine wx_if_ge (tgt := 61) F dR_take_51 (by decide) (fun g9 => ?_) (fun g9 => ?_)
      · refine wx_aload_n F 1 dR_take_61 rfl rfl ?_
        refine wx_get (ci := 4) (C := qnR) (T := TR) (N := 25) (v := .int (M7 0 24)) F 0 (Nat.le_of_ble_eq_true rfl) rfl rfl hiR 24 (by decide) rfl lfR_118 rfl dR_take_62 ?_
        refine wx_iconst (v := 1) F dR_take_65 (by decide) ?_
        refine wx_iadd F dR_take_66 ?_
        refine wx_put (ci := 4) (C := qnR) (T := TR) (N := 25) (ty := .int) F 0 (Nat.le_of_ble_eq_true rfl) rfl rfl hiR tyR tyR_ok nmR 24 (by decide) rfl lfR_118 rfl (by decide +kernel) rfl rfl (Nat.le_of_ble_eq_true rfl) rfl dR_take_67 (wx_nm (fun M10 e11 => ?_))
        refine wx_iinc (lv' := [(3, .int (x3 + 1)), (2, .int r6), (0, .ref (a 0)), (1, .int x1)]) F 3 dR_take_70 rfl (ii1 _) (by decide) rfl ?_
        refine wx_goto (tgt := 23) F dR_take_73 (by decide) ?_
        exact wx_lv [2, 3, 1, 0] rfl (hK23 _ _ _ _ (((h5 r6 M7 p8).1 g9) M10 e11))
      · refine wx_aload_n F 1 dR_take_54 rfl rfl ?_
        refine wx_get (ci := 4) (C := qnR) (T := TR) (N := 25) (v := .int (M7 0 24)) F 0 (Nat.le_of_ble_eq_true rfl) rfl rfl hiR 24 (by decide) rfl lfR_118 rfl dR_take_55 ?_
        refine wx_goto (tgt := 67) F dR_take_58 (by decide) ?_
        refine wx_put (ci := 4) (C := qnR) (T := TR) (N := 25) (ty := .int) F 0 (Nat.le_of_ble_eq_true rfl) rfl rfl hiR tyR tyR_ok nmR 24 (by decide) rfl lfR_118 rfl (by decide +kernel) rfl rfl (Nat.le_of_ble_eq_true rfl) rfl dR_take_67 (wx_nm (fun M12 e13 => ?_))
        refine wx_iinc (lv' := [(3, .int (x3 + 1)), (2, .int r6), (0, .ref (a 0)), (1, .int x1)]) F 3 dR_take_70 rfl (ii1 _) (by decide) rfl ?_
        refine wx_goto (tgt := 23) F dR_take_73 (by decide) ?_
        exact wx_lv [2, 3, 1, 0] rfl (hK23 _ _ _ _ (((h5 r6 M7 p8).2 g9) M12 e13))
theorem oR_take {l : Launch} {D : va_G} {cI cZ : ClassId} {a : Nat → Nat} {post : Int32 → MM → Prop} (hJ : IJ (sM D cI cZ a)) {M : MM} {x1 : Int32} (h : ∀ G : CX, gl G = l → gR G = rmR_take → FX G (sM D cI cZ a) cR_take 4 qnR (some .int) → wx G (sM D cI cZ a) 4 (Qxi G (sM D cI cZ a) post) M 0 [(0, .ref (a 0)), (1, .int x1)] []) : Ci l (sM D cI cZ a) yR_take wR_take rmR_take [.ref (a 0), .int x1] M post := Ci.of (cc := cR_take) (nL := 4) rfl rfl (Nat.le_of_ble_eq_true rfl) hJ h
set_option maxRecDepth 20000 in
theorem sR_unitsFor_0 {G : CX} {D : va_G} {cI cZ : ClassId} {a : Nat → Nat} {post : Int32 → MM → Prop} (F : FX G (sM D cI cZ a) cR_unitsFor 5 qnR (some .boolean)) (hR : gR G = rmR_unitsFor) {K4 : MM → Int32 → Int32 → Int32 → Prop} (hK4 : ∀ (M : MM) (x1 x2 x3 : Int32), K4 M x1 x2 x3 → wx G (sM D cI cZ a) 5 (Qxi G (sM D cI cZ a) post) M 4 [(0, .ref (a 0)), (1, .int x1), (2, .int x2), (3, .int x3)] []) {M : MM} {x1 : Int32} (h : K4 M x1 1 0) : wx G (sM D cI cZ a) 5 (Qxi G (sM D cI cZ a) post) M 0 [(0, .ref (a 0)), (1, .int x1)] [] := by
  refine wx_iconst (v := 1) F dR_unitsFor_0 (by decide) ?_
  refine wx_istore_n (lv' := [(2, .int 1), (0, .ref (a 0)), (1, .int x1)]) F dR_unitsFor_1 rfl (by decide) rfl ?_
  refine wx_iconst (v := 0) F dR_unitsFor_2 (by decide) ?_
  refine wx_istore_n (lv' := [(3, .int 0), (2, .int 1), (0, .ref (a 0)), (1, .int x1)]) F dR_unitsFor_3 rfl (by decide) rfl ?_
  exact wx_lv [2, 3, 1, 0] rfl (hK4 _ _ _ _ (h))
set_option maxRecDepth 20000 in
theorem sR_unitsFor_4 {G : CX} {D : va_G} {cI cZ : ClassId} {a : Nat → Nat} {post : Int32 → MM → Prop} (F : FX G (sM D cI cZ a) cR_unitsFor 5 qnR (some .boolean)) (hR : gR G = rmR_unitsFor) {K4 : MM → Int32 → Int32 → Int32 → Prop} (hK4 : ∀ (M : MM) (x1 x2 x3 : Int32), K4 M x1 x2 x3 → wx G (sM D cI cZ a) 5 (Qxi G (sM D cI cZ a) post) M 4 [(0, .ref (a 0)), (1, .int x1), (2, .int x2), (3, .int x3)] []) {M : MM} {x1 x2 x3 : Int32} (h : (4 ≤ x3 → (narrow .boolean (.int x2) = .int x2 ∧ post x2 M)) ∧ (¬ 4 ≤ x3 → (∃ j2 : Nat, x1 = nI j2 ∧ j2 < 24 ∧ ((¬ (((M 4 j2) >>> (x3 &&& 31)) &&& 1) = 1 → ((x2 = 0 → (K4 M x1 0 (x3 + 1))) ∧ (¬ x2 = 0 → (K4 M x1 1 (x3 + 1))))) ∧ ((((M 4 j2) >>> (x3 &&& 31)) &&& 1) = 1 → ((x2 = 0 → (K4 M x1 0 (x3 + 1))) ∧ (¬ x2 = 0 → (∃ po9 : Int32 → MM → Prop, Ci (gl G) (sM D cI cZ a) yR_held wR_held rmR_held [.ref (a 0), .int x3] M po9 ∧ ∀ (r12 : Int32) (M13 : MM), po9 r12 M13 → (∃ j15 : Nat, x3 = nI j15 ∧ j15 < 4 ∧ (((M13 14 j15) < r12 → (K4 M13 x1 0 (x3 + 1))) ∧ (¬ (M13 14 j15) < r12 → (K4 M13 x1 1 (x3 + 1))))))))))))) : wx G (sM D cI cZ a) 5 (Qxi G (sM D cI cZ a) post) M 4 [(0, .ref (a 0)), (1, .int x1), (2, .int x2), (3, .int x3)] [] := by
  refine wx_iload_n F 3 dR_unitsFor_4 rfl rfl ?_
  refine wx_iconst (v := 4) F dR_unitsFor_5 (by decide) ?_
  refine wx_icmp_ge (tgt := 65) F dR_unitsFor_6 (by decide) (fun g1 => ?_) (fun g1 => ?_)
  · refine wx_iload_n F 2 dR_unitsFor_65 rfl rfl ?_
    exact wx_zret F dR_unitsFor_66 ((h).1 g1).1 ((h).1 g1).2
  · refine wx_aload_n F 0 dR_unitsFor_9 rfl rfl ?_
    refine wx_get (ci := 4) (C := qnR) (T := TR) (N := 25) (v := .ref (a 4)) F 0 (Nat.le_of_ble_eq_true rfl) rfl rfl hiR 5 (by decide) rfl lfR_19 rfl dR_unitsFor_10 ?_
    refine wx_iload_n F 1 dR_unitsFor_13 rfl rfl ?_
    obtain ⟨j2, e3, b4, h5⟩ := (h).2 g1
    refine wx_iald (N := 24) F 4 (Nat.le_of_ble_eq_true rfl) rfl 0 rfl e3 b4 (by omega) dR_unitsFor_14 ?_
    refine wx_iload_n F 3 dR_unitsFor_15 rfl rfl ?_
    refine wx_ishr F dR_unitsFor_16 ?_
    refine wx_iconst (v := 1) F dR_unitsFor_17 (by decide) ?_
    refine wx_iand F dR_unitsFor_18 ?_
    refine wx_iconst (v := 1) F dR_unitsFor_19 (by decide) ?_
    refine wx_icmp_ne (tgt := 27) F dR_unitsFor_20 (by decide) (fun g6 => ?_) (fun g6 => ?_)
    · refine wx_iconst (v := 0) F dR_unitsFor_27 (by decide) ?_
      refine wx_istore (lv' := [(4, .int 0), (0, .ref (a 0)), (1, .int x1), (2, .int x2), (3, .int x3)]) F dR_unitsFor_28 (by decide) rfl ?_
      refine wx_iload_n F 3 dR_unitsFor_30 rfl rfl ?_
      refine wx_if_eq (tgt := 57) F dR_unitsFor_31 (by decide) (fun g7 => ?_) (fun g7 => ?_)
      · refine wx_iconst (v := 0) F dR_unitsFor_57 (by decide) ?_
        refine wx_istore_n (lv' := [(2, .int 0), (4, .int 0), (0, .ref (a 0)), (1, .int x1), (3, .int x3)]) F dR_unitsFor_58 rfl (by decide) rfl ?_
        refine wx_iinc (lv' := [(3, .int (x3 + 1)), (2, .int 0), (4, .int 0), (0, .ref (a 0)), (1, .int x1)]) F 4 dR_unitsFor_59 rfl (ii1 _) (by decide) rfl ?_
        refine wx_goto (tgt := 4) F dR_unitsFor_62 (by decide) ?_
        exact wx_lv [3, 4, 1, 0] rfl (hK4 _ _ _ _ (((h5).1 g6).1 g7))
      · refine wx_iload F 0 dR_unitsFor_34 rfl ?_
        refine wx_if_eq (tgt := 53) F dR_unitsFor_36 (by decide) (fun _ => ?_) (fun g => False.elim (by revert g; decide))
        refine wx_iconst (v := 1) F dR_unitsFor_53 (by decide) ?_
        refine wx_goto (tgt := 58) F dR_unitsFor_54 (by decide) ?_
        refine wx_istore_n (lv' := [(2, .int 1), (4, .int 0), (0, .ref (a 0)), (1, .int x1), (3, .int x3)]) F dR_unitsFor_58 rfl (by decide) rfl ?_
        refine wx_iinc (lv' := [(3, .int (x3 + 1)), (2, .int 1), (4, .int 0), (0, .ref (a 0)), (1, .int x1)]) F 4 dR_unitsFor_59 rfl (ii1 _) (by decide) rfl ?_
        refine wx_goto (tgt := 4) F dR_unitsFor_62 (by decide) ?_
        exact wx_lv [3, 4, 1, 0] rfl (hK4 _ _ _ _ (((h5).1 g6).2 g7))
    · refine wx_iconst (v := 1) F dR_unitsFor_23 (by decide) ?_
      refine wx_goto (tgt := 28) F dR_unitsFor_24 (by decide) ?_
      refine wx_istore (lv' := [(4, .int 1), (0, .ref (a 0)), (1, .int x1), (2, .int x2), (3, .int x3)]) F dR_unitsFor_28 (by decide) rfl ?_
      refine wx_iload_n F 3 dR_unitsFor_30 rfl rfl ?_
      refine wx_if_eq (tgt := 57) F dR_unitsFor_31 (by decide) (fun g8 => ?_) (fun g8 => ?_)
      · refine wx_iconst (v := 0) F dR_unitsFor_57 (by decide) ?_
        refine wx_istore_n (lv' := [(2, .int 0), (4, .int 1), (0, .ref (a 0)), (1, .int x1), (3, .int x3)]) F dR_unitsFor_58 rfl (by decide) rfl ?_
        refine wx_iinc (lv' := [(3, .int (x3 + 1)), (2, .int 0), (4, .int 1), (0, .ref (a 0)), (1, .int x1)]) F 4 dR_unitsFor_59 rfl (ii1 _) (by decide) rfl ?_
        refine wx_goto (tgt := 4) F dR_unitsFor_62 (by decide) ?_
        exact wx_lv [3, 4, 1, 0] rfl (hK4 _ _ _ _ (((h5).2 g6).1 g8))
      · refine wx_iload F 0 dR_unitsFor_34 rfl ?_
        refine wx_if_eq (tgt := 53) F dR_unitsFor_36 (by decide) (fun g => False.elim (by revert g; decide)) (fun _ => ?_)
        refine wx_aload_n F 1 dR_unitsFor_39 rfl rfl ?_
        refine wx_iload_n F 4 dR_unitsFor_40 rfl rfl ?_
        obtain ⟨po9, c10, h11⟩ := ((h5).2 g6).2 g8
        refine wx_calli F 0 c10 (Nat.le_of_ble_eq_true rfl) rfl rfl (cw_V F.1.2.2.2.2 lmR_127 cbR_held rfl rfl ⟨by rw [hR]; exact Nat.le_of_ble_eq_true rfl, by rw [hR]; exact Nat.le_of_ble_eq_true rfl⟩) rfl rfl (Nat.le_of_ble_eq_true rfl) dR_unitsFor_41 (fun r12 M13 p14 => ?_)
        refine wx_aload_n F 1 dR_unitsFor_44 rfl rfl ?_
        refine wx_get (ci := 4) (C := qnR) (T := TR) (N := 25) (v := .ref (a 14)) F 0 (Nat.le_of_ble_eq_true rfl) rfl rfl hiR 15 (by decide) rfl lfR_50 rfl dR_unitsFor_45 ?_
        refine wx_iload_n F 4 dR_unitsFor_48 rfl rfl ?_
        obtain ⟨j15, e16, b17, h18⟩ := h11 r12 M13 p14
        refine wx_iald (N := 4) F 14 (Nat.le_of_ble_eq_true rfl) rfl 0 rfl e16 b17 (by omega) dR_unitsFor_49 ?_
        refine wx_icmp_gt (tgt := 57) F dR_unitsFor_50 (by decide) (fun g19 => ?_) (fun g19 => ?_)
        · refine wx_iconst (v := 0) F dR_unitsFor_57 (by decide) ?_
          refine wx_istore_n (lv' := [(2, .int 0), (4, .int 1), (0, .ref (a 0)), (1, .int x1), (3, .int x3)]) F dR_unitsFor_58 rfl (by decide) rfl ?_
          refine wx_iinc (lv' := [(3, .int (x3 + 1)), (2, .int 0), (4, .int 1), (0, .ref (a 0)), (1, .int x1)]) F 4 dR_unitsFor_59 rfl (ii1 _) (by decide) rfl ?_
          refine wx_goto (tgt := 4) F dR_unitsFor_62 (by decide) ?_
          exact wx_lv [3, 4, 1, 0] rfl (hK4 _ _ _ _ ((h18).1 g19))
        · refine wx_iconst (v := 1) F dR_unitsFor_53 (by decide) ?_
          refine wx_goto (tgt := 58) F dR_unitsFor_54 (by decide) ?_
          refine wx_istore_n (lv' := [(2, .int 1), (4, .int 1), (0, .ref (a 0)), (1, .int x1), (3, .int x3)]) F dR_unitsFor_58 rfl (by decide) rfl ?_
          refine wx_iinc (lv' := [(3, .int (x3 + 1)), (2, .int 1), (4, .int 1), (0, .ref (a 0)), (1, .int x1)]) F 4 dR_unitsFor_59 rfl (ii1 _) (by decide) rfl ?_
          refine wx_goto (tgt := 4) F dR_unitsFor_62 (by decide) ?_
          exact wx_lv [3, 4, 1, 0] rfl (hK4 _ _ _ _ ((h18).2 g19))
theorem oR_unitsFor {l : Launch} {D : va_G} {cI cZ : ClassId} {a : Nat → Nat} {post : Int32 → MM → Prop} (hJ : IJ (sM D cI cZ a)) {M : MM} {x1 : Int32} (h : ∀ G : CX, gl G = l → gR G = rmR_unitsFor → FX G (sM D cI cZ a) cR_unitsFor 5 qnR (some .boolean) → wx G (sM D cI cZ a) 5 (Qxi G (sM D cI cZ a) post) M 0 [(0, .ref (a 0)), (1, .int x1)] []) : Ci l (sM D cI cZ a) yR_unitsFor wR_unitsFor rmR_unitsFor [.ref (a 0), .int x1] M post := Ci.of (cc := cR_unitsFor) (nL := 5) rfl rfl (Nat.le_of_ble_eq_true rfl) hJ h
set_option maxRecDepth 20000 in
theorem sR_begin_0 {G : CX} {D : va_G} {cI cZ : ClassId} {a : Nat → Nat} {post : Int32 → MM → Prop} (F : FX G (sM D cI cZ a) cR_begin 4 qnR (some .int)) (hR : gR G = rmR_begin) {K31 : MM → Int32 → Int32 → Prop} (hK31 : ∀ (M : MM) (x1 x2 : Int32), K31 M x1 x2 → wx G (sM D cI cZ a) 4 (Qxi G (sM D cI cZ a) post) M 31 [(0, .ref (a 0)), (1, .int x1), (2, .int x2)] []) {M : MM} {x1 : Int32} (h : ((M 0 18) = 0 → (post (-1) M)) ∧ (¬ (M 0 18) = 0 → ((x1 < 0 → (post (-1) M)) ∧ (¬ x1 < 0 → (((M 0 0) ≤ x1 → (post (-1) M)) ∧ (¬ (M 0 0) ≤ x1 → (∃ po4 : Int32 → MM → Prop, Ci (gl G) (sM D cI cZ a) yR_running wR_running rmR_running [.ref (a 0), .int x1] M po4 ∧ ∀ (r7 : Int32) (M8 : MM), po4 r7 M8 → ((r7 < 0 → (K31 M8 x1 0)) ∧ (¬ r7 < 0 → (post (-1) M8)))))))))) : wx G (sM D cI cZ a) 4 (Qxi G (sM D cI cZ a) post) M 0 [(0, .ref (a 0)), (1, .int x1)] [] := by
  refine wx_aload_n F 0 dR_begin_0 rfl rfl ?_
  refine wx_get (ci := 4) (C := qnR) (T := TR) (N := 25) (v := .int (M 0 18)) F 0 (Nat.le_of_ble_eq_true rfl) rfl rfl hiR 18 (by decide) rfl lfR_67 rfl dR_begin_1 ?_
  refine wx_if_eq (tgt := 27) F dR_begin_4 (by decide) (fun g1 => ?_) (fun g1 => ?_)
  · refine wx_iconst (v := (-1)) F dR_begin_27 (by decide) ?_
    exact wx_iret F dR_begin_28 ((h).1 g1)
  · refine wx_iload_n F 1 dR_begin_7 rfl rfl ?_
    refine wx_if_lt (tgt := 27) F dR_begin_8 (by decide) (fun g2 => ?_) (fun g2 => ?_)
    · refine wx_iconst (v := (-1)) F dR_begin_27 (by decide) ?_
      exact wx_iret F dR_begin_28 (((h).2 g1).1 g2)
    · refine wx_iload_n F 1 dR_begin_11 rfl rfl ?_
      refine wx_aload_n F 0 dR_begin_12 rfl rfl ?_
      refine wx_get (ci := 4) (C := qnR) (T := TR) (N := 25) (v := .int (M 0 0)) F 0 (Nat.le_of_ble_eq_true rfl) rfl rfl hiR 0 (by decide) rfl lfR_57 rfl dR_begin_13 ?_
      refine wx_icmp_ge (tgt := 27) F dR_begin_16 (by decide) (fun g3 => ?_) (fun g3 => ?_)
      · refine wx_iconst (v := (-1)) F dR_begin_27 (by decide) ?_
        exact wx_iret F dR_begin_28 ((((h).2 g1).2 g2).1 g3)
      · refine wx_aload_n F 0 dR_begin_19 rfl rfl ?_
        refine wx_iload_n F 1 dR_begin_20 rfl rfl ?_
        obtain ⟨po4, c5, h6⟩ := (((h).2 g1).2 g2).2 g3
        refine wx_calli F 0 c5 (Nat.le_of_ble_eq_true rfl) rfl rfl (cw_V F.1.2.2.2.2 lmR_131 cbR_running rfl rfl ⟨by rw [hR]; exact Nat.le_of_ble_eq_true rfl, by rw [hR]; exact Nat.le_of_ble_eq_true rfl⟩) rfl rfl (Nat.le_of_ble_eq_true rfl) dR_begin_21 (fun r7 M8 p9 => ?_)
        refine wx_if_lt (tgt := 29) F dR_begin_24 (by decide) (fun g10 => ?_) (fun g10 => ?_)
        · refine wx_iconst (v := 0) F dR_begin_29 (by decide) ?_
          refine wx_istore_n (lv' := [(2, .int 0), (0, .ref (a 0)), (1, .int x1)]) F dR_begin_30 rfl (by decide) rfl ?_
          exact wx_lv [1, 2, 0] rfl (hK31 _ _ _ ((h6 r7 M8 p9).1 g10))
        · refine wx_iconst (v := (-1)) F dR_begin_27 (by decide) ?_
          exact wx_iret F dR_begin_28 ((h6 r7 M8 p9).2 g10)
set_option maxRecDepth 20000 in
theorem sR_begin_31 {G : CX} {D : va_G} {cI cZ : ClassId} {a : Nat → Nat} {post : Int32 → MM → Prop} (F : FX G (sM D cI cZ a) cR_begin 4 qnR (some .int)) (hR : gR G = rmR_begin) {K31 : MM → Int32 → Int32 → Prop} (hK31 : ∀ (M : MM) (x1 x2 : Int32), K31 M x1 x2 → wx G (sM D cI cZ a) 4 (Qxi G (sM D cI cZ a) post) M 31 [(0, .ref (a 0)), (1, .int x1), (2, .int x2)] []) {M : MM} {x1 x2 : Int32} (h : (24 ≤ x2 → (post (-1) M)) ∧ (¬ 24 ≤ x2 → (∃ po2 : Int32 → MM → Prop, Ci (gl G) (sM D cI cZ a) yR_take wR_take rmR_take [.ref (a 0), .int x1] M po2 ∧ ∀ (r5 : Int32) (M6 : MM), po2 r5 M6 → ((0 ≤ r5 → (∃ po9 : Int32 → MM → Prop, Ci (gl G) (sM D cI cZ a) yR_unitsFor wR_unitsFor rmR_unitsFor [.ref (a 0), .int r5] M6 po9 ∧ ∀ (r12 : Int32) (M13 : MM), po9 r12 M13 → ((r12 = 0 → (∃ j18 : Nat, r5 = nI j18 ∧ j18 < 24 ∧ (∀ M16 : MM, M16 = mp M13 5 j18 1 → (∀ M22 : MM, M22 = mp M16 7 j18 (M16 0 16) → (∀ M24 : MM, M24 = mp M22 0 16 ((M22 0 16) + 1) → (K31 M24 x1 (x2 + 1))))))) ∧ (¬ r12 = 0 → (∃ j28 : Nat, r5 = nI j28 ∧ j28 < 24 ∧ (∀ M26 : MM, M26 = mp M13 5 j28 3 → (∀ M32 : MM, M32 = mp M26 6 j28 x1 → (∀ M34 : MM, M34 = mp M32 9 j28 ((M32 9 j28) + 1) → (post r5 M34))))))))) ∧ (¬ 0 ≤ r5 → (post (-1) M6)))))) : wx G (sM D cI cZ a) 4 (Qxi G (sM D cI cZ a) post) M 31 [(0, .ref (a 0)), (1, .int x1), (2, .int x2)] [] := by
  refine wx_iload_n F 2 dR_begin_31 rfl rfl ?_
  refine wx_bipush (v := 24) F dR_begin_32 (by decide) ?_
  refine wx_icmp_ge (tgt := 120) F dR_begin_34 (by decide) (fun g1 => ?_) (fun g1 => ?_)
  · refine wx_iconst (v := (-1)) F dR_begin_120 (by decide) ?_
    exact wx_iret F dR_begin_121 ((h).1 g1)
  · refine wx_aload_n F 0 dR_begin_37 rfl rfl ?_
    refine wx_iload_n F 1 dR_begin_38 rfl rfl ?_
    obtain ⟨po2, c3, h4⟩ := (h).2 g1
    refine wx_calli F 0 c3 (Nat.le_of_ble_eq_true rfl) rfl rfl (cw_V F.1.2.2.2.2 lmR_134 cbR_take rfl rfl ⟨by rw [hR]; exact Nat.le_of_ble_eq_true rfl, by rw [hR]; exact Nat.le_of_ble_eq_true rfl⟩) rfl rfl (Nat.le_of_ble_eq_true rfl) dR_begin_39 (fun r5 M6 p7 => ?_)
    refine wx_istore_n (lv' := [(3, .int r5), (0, .ref (a 0)), (1, .int x1), (2, .int x2)]) F dR_begin_42 rfl (by decide) rfl ?_
    refine wx_iload_n F 0 dR_begin_43 rfl rfl ?_
    refine wx_if_ge (tgt := 49) F dR_begin_44 (by decide) (fun g8 => ?_) (fun g8 => ?_)
    · refine wx_aload_n F 1 dR_begin_49 rfl rfl ?_
      refine wx_iload_n F 0 dR_begin_50 rfl rfl ?_
      obtain ⟨po9, c10, h11⟩ := (h4 r5 M6 p7).1 g8
      refine wx_calli F 0 c10 (Nat.le_of_ble_eq_true rfl) rfl rfl (cw_V F.1.2.2.2.2 lmR_137 cbR_unitsFor rfl rfl ⟨by rw [hR]; exact Nat.le_of_ble_eq_true rfl, by rw [hR]; exact Nat.le_of_ble_eq_true rfl⟩) rfl rfl (Nat.le_of_ble_eq_true rfl) dR_begin_51 (fun r12 M13 p14 => ?_)
      refine wx_if_eq (tgt := 87) F dR_begin_54 (by decide) (fun g15 => ?_) (fun g15 => ?_)
      · refine wx_aload_n F 1 dR_begin_87 rfl rfl ?_
        refine wx_get (ci := 4) (C := qnR) (T := TR) (N := 25) (v := .ref (a 5)) F 0 (Nat.le_of_ble_eq_true rfl) rfl rfl hiR 6 (by decide) rfl lfR_22 rfl dR_begin_88 ?_
        refine wx_iload_n F 0 dR_begin_91 rfl rfl ?_
        refine wx_iconst (v := 1) F dR_begin_92 (by decide) ?_
        obtain ⟨j18, e19, b20, h21⟩ := (h11 r12 M13 p14).1 g15
        refine wx_iast (N := 24) F 5 (Nat.le_of_ble_eq_true rfl) (fun _ => rfl) 0 rfl e19 b20 (by omega) dR_begin_93 (wx_nm (fun M16 e17 => ?_))
        refine wx_aload_n F 1 dR_begin_94 rfl rfl ?_
        refine wx_get (ci := 4) (C := qnR) (T := TR) (N := 25) (v := .ref (a 7)) F 0 (Nat.le_of_ble_eq_true rfl) rfl rfl hiR 8 (by decide) rfl lfR_28 rfl dR_begin_95 ?_
        refine wx_iload_n F 0 dR_begin_98 rfl rfl ?_
        refine wx_aload_n F 1 dR_begin_99 rfl rfl ?_
        refine wx_get (ci := 4) (C := qnR) (T := TR) (N := 25) (v := .int (M16 0 16)) F 0 (Nat.le_of_ble_eq_true rfl) rfl rfl hiR 16 (by decide) rfl lfR_93 rfl dR_begin_100 ?_
        refine wx_iast (N := 24) F 7 (Nat.le_of_ble_eq_true rfl) (fun _ => rfl) 0 rfl e19 b20 (by omega) dR_begin_103 (wx_nm (fun M22 e23 => ?_))
        refine wx_aload_n F 1 dR_begin_104 rfl rfl ?_
        refine wx_aload_n F 1 dR_begin_105 rfl rfl ?_
        refine wx_get (ci := 4) (C := qnR) (T := TR) (N := 25) (v := .int (M22 0 16)) F 0 (Nat.le_of_ble_eq_true rfl) rfl rfl hiR 16 (by decide) rfl lfR_93 rfl dR_begin_106 ?_
        refine wx_iconst (v := 1) F dR_begin_109 (by decide) ?_
        refine wx_iadd F dR_begin_110 ?_
        refine wx_put (ci := 4) (C := qnR) (T := TR) (N := 25) (ty := .int) F 0 (Nat.le_of_ble_eq_true rfl) rfl rfl hiR tyR tyR_ok nmR 16 (by decide) rfl lfR_93 rfl (by decide +kernel) rfl rfl (Nat.le_of_ble_eq_true rfl) rfl dR_begin_111 (wx_nm (fun M24 e25 => ?_))
        refine wx_iinc (lv' := [(2, .int (x2 + 1)), (3, .int r5), (0, .ref (a 0)), (1, .int x1)]) F 3 dR_begin_114 rfl (ii1 _) (by decide) rfl ?_
        refine wx_goto (tgt := 31) F dR_begin_117 (by decide) ?_
        exact wx_lv [2, 3, 0] rfl (hK31 _ _ _ (((h21 M16 e17) M22 e23) M24 e25))
      · refine wx_aload_n F 1 dR_begin_57 rfl rfl ?_
        refine wx_get (ci := 4) (C := qnR) (T := TR) (N := 25) (v := .ref (a 5)) F 0 (Nat.le_of_ble_eq_true rfl) rfl rfl hiR 6 (by decide) rfl lfR_22 rfl dR_begin_58 ?_
        refine wx_iload_n F 0 dR_begin_61 rfl rfl ?_
        refine wx_iconst (v := 3) F dR_begin_62 (by decide) ?_
        obtain ⟨j28, e29, b30, h31⟩ := (h11 r12 M13 p14).2 g15
        refine wx_iast (N := 24) F 5 (Nat.le_of_ble_eq_true rfl) (fun _ => rfl) 0 rfl e29 b30 (by omega) dR_begin_63 (wx_nm (fun M26 e27 => ?_))
        refine wx_aload_n F 1 dR_begin_64 rfl rfl ?_
        refine wx_get (ci := 4) (C := qnR) (T := TR) (N := 25) (v := .ref (a 6)) F 0 (Nat.le_of_ble_eq_true rfl) rfl rfl hiR 7 (by decide) rfl lfR_25 rfl dR_begin_65 ?_
        refine wx_iload_n F 0 dR_begin_68 rfl rfl ?_
        refine wx_iload_n F 2 dR_begin_69 rfl rfl ?_
        refine wx_iast (N := 24) F 6 (Nat.le_of_ble_eq_true rfl) (fun _ => rfl) 0 rfl e29 b30 (by omega) dR_begin_70 (wx_nm (fun M32 e33 => ?_))
        refine wx_aload_n F 1 dR_begin_71 rfl rfl ?_
        refine wx_get (ci := 4) (C := qnR) (T := TR) (N := 25) (v := .ref (a 9)) F 0 (Nat.le_of_ble_eq_true rfl) rfl rfl hiR 10 (by decide) rfl lfR_34 rfl dR_begin_72 ?_
        refine wx_iload_n F 0 dR_begin_75 rfl rfl ?_
        refine wx_aload_n F 1 dR_begin_76 rfl rfl ?_
        refine wx_get (ci := 4) (C := qnR) (T := TR) (N := 25) (v := .ref (a 9)) F 0 (Nat.le_of_ble_eq_true rfl) rfl rfl hiR 10 (by decide) rfl lfR_34 rfl dR_begin_77 ?_
        refine wx_iload_n F 0 dR_begin_80 rfl rfl ?_
        refine wx_iald (N := 24) F 9 (Nat.le_of_ble_eq_true rfl) rfl 0 rfl e29 b30 (by omega) dR_begin_81 ?_
        refine wx_iconst (v := 1) F dR_begin_82 (by decide) ?_
        refine wx_iadd F dR_begin_83 ?_
        refine wx_iast (N := 24) F 9 (Nat.le_of_ble_eq_true rfl) (fun _ => rfl) 0 rfl e29 b30 (by omega) dR_begin_84 (wx_nm (fun M34 e35 => ?_))
        refine wx_iload_n F 0 dR_begin_85 rfl rfl ?_
        exact wx_iret F dR_begin_86 (((h31 M26 e27) M32 e33) M34 e35)
    · refine wx_iconst (v := (-1)) F dR_begin_47 (by decide) ?_
      exact wx_iret F dR_begin_48 ((h4 r5 M6 p7).2 g8)
theorem oR_begin {l : Launch} {D : va_G} {cI cZ : ClassId} {a : Nat → Nat} {post : Int32 → MM → Prop} (hJ : IJ (sM D cI cZ a)) {M : MM} {x1 : Int32} (h : ∀ G : CX, gl G = l → gR G = rmR_begin → FX G (sM D cI cZ a) cR_begin 4 qnR (some .int) → wx G (sM D cI cZ a) 4 (Qxi G (sM D cI cZ a) post) M 0 [(0, .ref (a 0)), (1, .int x1)] []) : Ci l (sM D cI cZ a) yR_begin wR_begin rmR_begin [.ref (a 0), .int x1] M post := Ci.of (cc := cR_begin) (nL := 4) rfl rfl (Nat.le_of_ble_eq_true rfl) hJ h
set_option maxRecDepth 20000 in
theorem sR_release_0 {G : CX} {D : va_G} {cI cZ : ClassId} {a : Nat → Nat} {post : MM → Prop} (F : FX G (sM D cI cZ a) cR_release 6 qnR none) (hR : gR G = rmR_release) {K9 : MM → Int32 → Int32 → Prop} (hK9 : ∀ (M : MM) (x1 x2 : Int32), K9 M x1 x2 → wx G (sM D cI cZ a) 6 (Qxv G (sM D cI cZ a) post) M 9 [(0, .ref (a 0)), (1, .int x1), (2, .int x2)] []) {M : MM} {x1 : Int32} (h : ∃ j3 : Nat, x1 = nI j3 ∧ j3 < 24 ∧ (∀ M1 : MM, M1 = mp M 5 j3 5 → (K9 M1 x1 0))) : wx G (sM D cI cZ a) 6 (Qxv G (sM D cI cZ a) post) M 0 [(0, .ref (a 0)), (1, .int x1)] [] := by
  refine wx_aload_n F 0 dR_release_0 rfl rfl ?_
  refine wx_get (ci := 4) (C := qnR) (T := TR) (N := 25) (v := .ref (a 5)) F 0 (Nat.le_of_ble_eq_true rfl) rfl rfl hiR 6 (by decide) rfl lfR_22 rfl dR_release_1 ?_
  refine wx_iload_n F 1 dR_release_4 rfl rfl ?_
  refine wx_iconst (v := 5) F dR_release_5 (by decide) ?_
  obtain ⟨j3, e4, b5, h6⟩ := h
  refine wx_iast (N := 24) F 5 (Nat.le_of_ble_eq_true rfl) (fun _ => rfl) 0 rfl e4 b5 (by omega) dR_release_6 (wx_nm (fun M1 e2 => ?_))
  refine wx_iconst (v := 0) F dR_release_7 (by decide) ?_
  refine wx_istore_n (lv' := [(2, .int 0), (0, .ref (a 0)), (1, .int x1)]) F dR_release_8 rfl (by decide) rfl ?_
  exact wx_lv [1, 2, 0] rfl (hK9 _ _ _ (h6 M1 e2))
set_option maxRecDepth 20000 in
theorem sR_release_9 {G : CX} {D : va_G} {cI cZ : ClassId} {a : Nat → Nat} {post : MM → Prop} (F : FX G (sM D cI cZ a) cR_release 6 qnR none) (hR : gR G = rmR_release) {K20 : MM → Int32 → Int32 → Int32 → Int32 → Prop} (hK20 : ∀ (M : MM) (x1 x2 x3 x4 : Int32), K20 M x1 x2 x3 x4 → wx G (sM D cI cZ a) 6 (Qxv G (sM D cI cZ a) post) M 20 [(0, .ref (a 0)), (1, .int x1), (2, .int x2), (3, .int x3), (4, .int x4)] []) {M : MM} {x1 x2 : Int32} (h : (24 ≤ x2 → (post M)) ∧ (¬ 24 ≤ x2 → (K20 M x1 x2 (-1) 0))) : wx G (sM D cI cZ a) 6 (Qxv G (sM D cI cZ a) post) M 9 [(0, .ref (a 0)), (1, .int x1), (2, .int x2)] [] := by
  refine wx_iload_n F 2 dR_release_9 rfl rfl ?_
  refine wx_bipush (v := 24) F dR_release_10 (by decide) ?_
  refine wx_icmp_ge (tgt := 121) F dR_release_12 (by decide) (fun g1 => ?_) (fun g1 => ?_)
  · exact wx_vret F dR_release_121 ((h).1 g1)
  · refine wx_iconst (v := (-1)) F dR_release_15 (by decide) ?_
    refine wx_istore_n (lv' := [(3, .int (-1)), (0, .ref (a 0)), (1, .int x1), (2, .int x2)]) F dR_release_16 rfl (by decide) rfl ?_
    refine wx_iconst (v := 0) F dR_release_17 (by decide) ?_
    refine wx_istore (lv' := [(4, .int 0), (3, .int (-1)), (0, .ref (a 0)), (1, .int x1), (2, .int x2)]) F dR_release_18 (by decide) rfl ?_
    exact wx_lv [2, 3, 4, 1, 0] rfl (hK20 _ _ _ _ _ ((h).2 g1))
set_option maxRecDepth 20000 in
theorem sR_release_20 {G : CX} {D : va_G} {cI cZ : ClassId} {a : Nat → Nat} {post : MM → Prop} (F : FX G (sM D cI cZ a) cR_release 6 qnR none) (hR : gR G = rmR_release) {K9 : MM → Int32 → Int32 → Prop} (hK9 : ∀ (M : MM) (x1 x2 : Int32), K9 M x1 x2 → wx G (sM D cI cZ a) 6 (Qxv G (sM D cI cZ a) post) M 9 [(0, .ref (a 0)), (1, .int x1), (2, .int x2)] []) {K20 : MM → Int32 → Int32 → Int32 → Int32 → Prop} (hK20 : ∀ (M : MM) (x1 x2 x3 x4 : Int32), K20 M x1 x2 x3 x4 → wx G (sM D cI cZ a) 6 (Qxv G (sM D cI cZ a) post) M 20 [(0, .ref (a 0)), (1, .int x1), (2, .int x2), (3, .int x3), (4, .int x4)] []) {M : MM} {x1 x2 x3 x4 : Int32} (h : ((M 0 1) ≤ x4 → ((x3 < 0 → (K9 M x1 (x2 + 1))) ∧ (¬ x3 < 0 → (∃ po3 : MM → Prop, Cv (gl G) (sM D cI cZ a) yR_ready wR_ready rmR_ready [.ref (a 0), .int x3, .int (M 0 0)] M po3 ∧ ∀ (M7 : MM), po3 M7 → (K9 M7 x1 (x2 + 1)))))) ∧ (¬ (M 0 1) ≤ x4 → (∃ j9 : Nat, x4 = nI j9 ∧ j9 < 24 ∧ ((¬ (M 5 j9) = 1 → (K20 M x1 x2 x3 (x4 + 1))) ∧ ((M 5 j9) = 1 → (∃ j14 : Nat, x1 = nI j14 ∧ j14 < 24 ∧ ((((M 4 j9) &&& (M 4 j14)) = 0 → (K20 M x1 x2 x3 (x4 + 1))) ∧ (¬ ((M 4 j9) &&& (M 4 j14)) = 0 → ((x3 < 0 → (K20 M x1 x2 x4 (x4 + 1))) ∧ (¬ x3 < 0 → (∃ j20 : Nat, x3 = nI j20 ∧ j20 < 24 ∧ (((M 7 j20) ≤ (M 7 j9) → (K20 M x1 x2 x3 (x4 + 1))) ∧ (¬ (M 7 j20) ≤ (M 7 j9) → (K20 M x1 x2 x4 (x4 + 1))))))))))))))) : wx G (sM D cI cZ a) 6 (Qxv G (sM D cI cZ a) post) M 20 [(0, .ref (a 0)), (1, .int x1), (2, .int x2), (3, .int x3), (4, .int x4)] [] := by
  refine wx_iload F 4 dR_release_20 rfl ?_
  refine wx_aload_n F 0 dR_release_22 rfl rfl ?_
  refine wx_get (ci := 4) (C := qnR) (T := TR) (N := 25) (v := .int (M 0 1)) F 0 (Nat.le_of_ble_eq_true rfl) rfl rfl hiR 1 (by decide) rfl lfR_60 rfl dR_release_23 ?_
  refine wx_icmp_ge (tgt := 102) F dR_release_26 (by decide) (fun g1 => ?_) (fun g1 => ?_)
  · refine wx_iload_n F 3 dR_release_102 rfl rfl ?_
    refine wx_if_lt (tgt := 115) F dR_release_103 (by decide) (fun g2 => ?_) (fun g2 => ?_)
    · refine wx_iinc (lv' := [(2, .int (x2 + 1)), (0, .ref (a 0)), (1, .int x1), (3, .int x3), (4, .int x4)]) F 2 dR_release_115 rfl (ii1 _) (by decide) rfl ?_
      refine wx_goto (tgt := 9) F dR_release_118 (by decide) ?_
      exact wx_lv [1, 2, 0] rfl (hK9 _ _ _ (((h).1 g1).1 g2))
    · refine wx_aload_n F 0 dR_release_106 rfl rfl ?_
      refine wx_iload_n F 3 dR_release_107 rfl rfl ?_
      refine wx_aload_n F 0 dR_release_108 rfl rfl ?_
      refine wx_get (ci := 4) (C := qnR) (T := TR) (N := 25) (v := .int (M 0 0)) F 0 (Nat.le_of_ble_eq_true rfl) rfl rfl hiR 0 (by decide) rfl lfR_57 rfl dR_release_109 ?_
      obtain ⟨po3, c4, h5⟩ := ((h).1 g1).2 g2
      refine wx_callv F 0 c4 (Nat.le_of_ble_eq_true rfl) rfl rfl (cw_V F.1.2.2.2.2 lmR_89 cbR_ready rfl rfl ⟨by rw [hR]; exact Nat.le_of_ble_eq_true rfl, by rw [hR]; exact Nat.le_of_ble_eq_true rfl⟩) rfl rfl (Nat.le_of_ble_eq_true rfl) dR_release_112 (fun M7 p8 => ?_)
      refine wx_iinc (lv' := [(2, .int (x2 + 1)), (0, .ref (a 0)), (1, .int x1), (3, .int x3), (4, .int x4)]) F 2 dR_release_115 rfl (ii1 _) (by decide) rfl ?_
      refine wx_goto (tgt := 9) F dR_release_118 (by decide) ?_
      exact wx_lv [1, 2, 0] rfl (hK9 _ _ _ (h5 M7 p8))
  · refine wx_aload_n F 0 dR_release_29 rfl rfl ?_
    refine wx_get (ci := 4) (C := qnR) (T := TR) (N := 25) (v := .ref (a 5)) F 0 (Nat.le_of_ble_eq_true rfl) rfl rfl hiR 6 (by decide) rfl lfR_22 rfl dR_release_30 ?_
    refine wx_iload F 4 dR_release_33 rfl ?_
    obtain ⟨j9, e10, b11, h12⟩ := (h).2 g1
    refine wx_iald (N := 24) F 5 (Nat.le_of_ble_eq_true rfl) rfl 0 rfl e10 b11 (by omega) dR_release_35 ?_
    refine wx_iconst (v := 1) F dR_release_36 (by decide) ?_
    refine wx_icmp_ne (tgt := 61) F dR_release_37 (by decide) (fun g13 => ?_) (fun g13 => ?_)
    · refine wx_iconst (v := 0) F dR_release_61 (by decide) ?_
      refine wx_istore (lv' := [(5, .int 0), (0, .ref (a 0)), (1, .int x1), (2, .int x2), (3, .int x3), (4, .int x4)]) F dR_release_62 (by decide) rfl ?_
      refine wx_iload F 0 dR_release_64 rfl ?_
      refine wx_if_eq (tgt := 94) F dR_release_66 (by decide) (fun _ => ?_) (fun g => False.elim (by revert g; decide))
      refine wx_iload_n F 4 dR_release_94 rfl rfl ?_
      refine wx_istore_n (lv' := [(3, .int x3), (5, .int 0), (0, .ref (a 0)), (1, .int x1), (2, .int x2), (4, .int x4)]) F dR_release_95 rfl (by decide) rfl ?_
      refine wx_iinc (lv' := [(4, .int (x4 + 1)), (3, .int x3), (5, .int 0), (0, .ref (a 0)), (1, .int x1), (2, .int x2)]) F 5 dR_release_96 rfl (ii1 _) (by decide) rfl ?_
      refine wx_goto (tgt := 20) F dR_release_99 (by decide) ?_
      exact wx_lv [3, 4, 5, 1, 0] rfl (hK20 _ _ _ _ _ ((h12).1 g13))
    · refine wx_aload_n F 0 dR_release_40 rfl rfl ?_
      refine wx_get (ci := 4) (C := qnR) (T := TR) (N := 25) (v := .ref (a 4)) F 0 (Nat.le_of_ble_eq_true rfl) rfl rfl hiR 5 (by decide) rfl lfR_19 rfl dR_release_41 ?_
      refine wx_iload F 4 dR_release_44 rfl ?_
      refine wx_iald (N := 24) F 4 (Nat.le_of_ble_eq_true rfl) rfl 0 rfl e10 b11 (by omega) dR_release_46 ?_
      refine wx_aload_n F 0 dR_release_47 rfl rfl ?_
      refine wx_get (ci := 4) (C := qnR) (T := TR) (N := 25) (v := .ref (a 4)) F 0 (Nat.le_of_ble_eq_true rfl) rfl rfl hiR 5 (by decide) rfl lfR_19 rfl dR_release_48 ?_
      refine wx_iload_n F 1 dR_release_51 rfl rfl ?_
      obtain ⟨j14, e15, b16, h17⟩ := (h12).2 g13
      refine wx_iald (N := 24) F 4 (Nat.le_of_ble_eq_true rfl) rfl 0 rfl e15 b16 (by omega) dR_release_52 ?_
      refine wx_iand F dR_release_53 ?_
      refine wx_if_eq (tgt := 61) F dR_release_54 (by decide) (fun g18 => ?_) (fun g18 => ?_)
      · refine wx_iconst (v := 0) F dR_release_61 (by decide) ?_
        refine wx_istore (lv' := [(5, .int 0), (0, .ref (a 0)), (1, .int x1), (2, .int x2), (3, .int x3), (4, .int x4)]) F dR_release_62 (by decide) rfl ?_
        refine wx_iload F 0 dR_release_64 rfl ?_
        refine wx_if_eq (tgt := 94) F dR_release_66 (by decide) (fun _ => ?_) (fun g => False.elim (by revert g; decide))
        refine wx_iload_n F 4 dR_release_94 rfl rfl ?_
        refine wx_istore_n (lv' := [(3, .int x3), (5, .int 0), (0, .ref (a 0)), (1, .int x1), (2, .int x2), (4, .int x4)]) F dR_release_95 rfl (by decide) rfl ?_
        refine wx_iinc (lv' := [(4, .int (x4 + 1)), (3, .int x3), (5, .int 0), (0, .ref (a 0)), (1, .int x1), (2, .int x2)]) F 5 dR_release_96 rfl (ii1 _) (by decide) rfl ?_
        refine wx_goto (tgt := 20) F dR_release_99 (by decide) ?_
        exact wx_lv [3, 4, 5, 1, 0] rfl (hK20 _ _ _ _ _ ((h17).1 g18))
      · refine wx_iconst (v := 1) F dR_release_57 (by decide) ?_
        refine wx_goto (tgt := 62) F dR_release_58 (by decide) ?_
        refine wx_istore (lv' := [(5, .int 1), (0, .ref (a 0)), (1, .int x1), (2, .int x2), (3, .int x3), (4, .int x4)]) F dR_release_62 (by decide) rfl ?_
        refine wx_iload F 0 dR_release_64 rfl ?_
        refine wx_if_eq (tgt := 94) F dR_release_66 (by decide) (fun g => False.elim (by revert g; decide)) (fun _ => ?_)
        refine wx_iload_n F 4 dR_release_69 rfl rfl ?_
        refine wx_if_lt (tgt := 89) F dR_release_70 (by decide) (fun g19 => ?_) (fun g19 => ?_)
        · refine wx_iload F 5 dR_release_89 rfl ?_
          refine wx_goto (tgt := 95) F dR_release_91 (by decide) ?_
          refine wx_istore_n (lv' := [(3, .int x4), (5, .int 1), (0, .ref (a 0)), (1, .int x1), (2, .int x2), (4, .int x4)]) F dR_release_95 rfl (by decide) rfl ?_
          refine wx_iinc (lv' := [(4, .int (x4 + 1)), (3, .int x4), (5, .int 1), (0, .ref (a 0)), (1, .int x1), (2, .int x2)]) F 5 dR_release_96 rfl (ii1 _) (by decide) rfl ?_
          refine wx_goto (tgt := 20) F dR_release_99 (by decide) ?_
          exact wx_lv [3, 4, 5, 1, 0] rfl (hK20 _ _ _ _ _ (((h17).2 g18).1 g19))
        · refine wx_aload_n F 1 dR_release_73 rfl rfl ?_
          refine wx_get (ci := 4) (C := qnR) (T := TR) (N := 25) (v := .ref (a 7)) F 0 (Nat.le_of_ble_eq_true rfl) rfl rfl hiR 8 (by decide) rfl lfR_28 rfl dR_release_74 ?_
          refine wx_iload F 5 dR_release_77 rfl ?_
          refine wx_iald (N := 24) F 7 (Nat.le_of_ble_eq_true rfl) rfl 0 rfl e10 b11 (by omega) dR_release_79 ?_
          refine wx_aload_n F 1 dR_release_80 rfl rfl ?_
          refine wx_get (ci := 4) (C := qnR) (T := TR) (N := 25) (v := .ref (a 7)) F 0 (Nat.le_of_ble_eq_true rfl) rfl rfl hiR 8 (by decide) rfl lfR_28 rfl dR_release_81 ?_
          refine wx_iload_n F 4 dR_release_84 rfl rfl ?_
          obtain ⟨j20, e21, b22, h23⟩ := ((h17).2 g18).2 g19
          refine wx_iald (N := 24) F 7 (Nat.le_of_ble_eq_true rfl) rfl 0 rfl e21 b22 (by omega) dR_release_85 ?_
          refine wx_icmp_ge (tgt := 94) F dR_release_86 (by decide) (fun g24 => ?_) (fun g24 => ?_)
          · refine wx_iload_n F 4 dR_release_94 rfl rfl ?_
            refine wx_istore_n (lv' := [(3, .int x3), (5, .int 1), (0, .ref (a 0)), (1, .int x1), (2, .int x2), (4, .int x4)]) F dR_release_95 rfl (by decide) rfl ?_
            refine wx_iinc (lv' := [(4, .int (x4 + 1)), (3, .int x3), (5, .int 1), (0, .ref (a 0)), (1, .int x1), (2, .int x2)]) F 5 dR_release_96 rfl (ii1 _) (by decide) rfl ?_
            refine wx_goto (tgt := 20) F dR_release_99 (by decide) ?_
            exact wx_lv [3, 4, 5, 1, 0] rfl (hK20 _ _ _ _ _ ((h23).1 g24))
          · refine wx_iload F 5 dR_release_89 rfl ?_
            refine wx_goto (tgt := 95) F dR_release_91 (by decide) ?_
            refine wx_istore_n (lv' := [(3, .int x4), (5, .int 1), (0, .ref (a 0)), (1, .int x1), (2, .int x2), (4, .int x4)]) F dR_release_95 rfl (by decide) rfl ?_
            refine wx_iinc (lv' := [(4, .int (x4 + 1)), (3, .int x4), (5, .int 1), (0, .ref (a 0)), (1, .int x1), (2, .int x2)]) F 5 dR_release_96 rfl (ii1 _) (by decide) rfl ?_
            refine wx_goto (tgt := 20) F dR_release_99 (by decide) ?_
            exact wx_lv [3, 4, 5, 1, 0] rfl (hK20 _ _ _ _ _ ((h23).2 g24))
theorem oR_release {l : Launch} {D : va_G} {cI cZ : ClassId} {a : Nat → Nat} {post : MM → Prop} (hJ : IJ (sM D cI cZ a)) {M : MM} {x1 : Int32} (h : ∀ G : CX, gl G = l → gR G = rmR_release → FX G (sM D cI cZ a) cR_release 6 qnR none → wx G (sM D cI cZ a) 6 (Qxv G (sM D cI cZ a) post) M 0 [(0, .ref (a 0)), (1, .int x1)] []) : Cv l (sM D cI cZ a) yR_release wR_release rmR_release [.ref (a 0), .int x1] M post := Cv.of (cc := cR_release) (nL := 6) rfl rfl (Nat.le_of_ble_eq_true rfl) hJ h
set_option maxRecDepth 20000 in
theorem sR_pass_0 {G : CX} {D : va_G} {cI cZ : ClassId} {a : Nat → Nat} {post : MM → Prop} (F : FX G (sM D cI cZ a) cR_pass 6 qnR none) (hR : gR G = rmR_pass) {K44 : MM → Int32 → Int32 → Int32 → Int32 → Prop} (hK44 : ∀ (M : MM) (x1 x2 x3 x4 : Int32), K44 M x1 x2 x3 x4 → wx G (sM D cI cZ a) 6 (Qxv G (sM D cI cZ a) post) M 44 [(0, .ref (a 0)), (1, .int x1), (2, .int x2), (3, .int x3), (4, .int x4)] []) {M : MM} {x1 x2 x3 : Int32} (h : ∃ j1 : Nat, x1 = nI j1 ∧ j1 < 24 ∧ ((¬ (M 1 j1) = 1 → (K44 M x1 x2 x3 0)) ∧ ((M 1 j1) = 1 → ((x3 < 0 → (post M)) ∧ (¬ x3 < 0 → (((M 11 j1) ≤ x3 → (post M)) ∧ (¬ (M 11 j1) ≤ x3 → (∃ j8 : Nat, ((6 * x1) + x3) = nI j8 ∧ j8 < 144 ∧ (∃ po12 : MM → Prop, Cv (gl G) (sM D cI cZ a) yR_token wR_token rmR_token [.ref (a 0), .int (M 12 j8), .int x2] M po12 ∧ ∀ (M16 : MM), po12 M16 → (post M16)))))))))) : wx G (sM D cI cZ a) 6 (Qxv G (sM D cI cZ a) post) M 0 [(0, .ref (a 0)), (1, .int x1), (2, .int x2), (3, .int x3)] [] := by
  refine wx_aload_n F 0 dR_pass_0 rfl rfl ?_
  refine wx_get (ci := 4) (C := qnR) (T := TR) (N := 25) (v := .ref (a 1)) F 0 (Nat.le_of_ble_eq_true rfl) rfl rfl hiR 2 (by decide) rfl lfR_7 rfl dR_pass_1 ?_
  refine wx_iload_n F 1 dR_pass_4 rfl rfl ?_
  obtain ⟨j1, e2, b3, h4⟩ := h
  refine wx_iald (N := 24) F 1 (Nat.le_of_ble_eq_true rfl) rfl 0 rfl e2 b3 (by omega) dR_pass_5 ?_
  refine wx_iconst (v := 1) F dR_pass_6 (by decide) ?_
  refine wx_icmp_ne (tgt := 41) F dR_pass_7 (by decide) (fun g5 => ?_) (fun g5 => ?_)
  · refine wx_iconst (v := 0) F dR_pass_41 (by decide) ?_
    refine wx_istore (lv' := [(4, .int 0), (0, .ref (a 0)), (1, .int x1), (2, .int x2), (3, .int x3)]) F dR_pass_42 (by decide) rfl ?_
    exact wx_lv [1, 2, 3, 4, 0] rfl (hK44 _ _ _ _ _ ((h4).1 g5))
  · refine wx_iload_n F 3 dR_pass_10 rfl rfl ?_
    refine wx_if_lt (tgt := 40) F dR_pass_11 (by decide) (fun g6 => ?_) (fun g6 => ?_)
    · exact wx_vret F dR_pass_40 (((h4).2 g5).1 g6)
    · refine wx_iload_n F 3 dR_pass_14 rfl rfl ?_
      refine wx_aload_n F 0 dR_pass_15 rfl rfl ?_
      refine wx_get (ci := 4) (C := qnR) (T := TR) (N := 25) (v := .ref (a 11)) F 0 (Nat.le_of_ble_eq_true rfl) rfl rfl hiR 12 (by decide) rfl lfR_41 rfl dR_pass_16 ?_
      refine wx_iload_n F 1 dR_pass_19 rfl rfl ?_
      refine wx_iald (N := 24) F 11 (Nat.le_of_ble_eq_true rfl) rfl 0 rfl e2 b3 (by omega) dR_pass_20 ?_
      refine wx_icmp_ge (tgt := 40) F dR_pass_21 (by decide) (fun g7 => ?_) (fun g7 => ?_)
      · exact wx_vret F dR_pass_40 ((((h4).2 g5).2 g6).1 g7)
      · refine wx_aload_n F 0 dR_pass_24 rfl rfl ?_
        refine wx_aload_n F 0 dR_pass_25 rfl rfl ?_
        refine wx_get (ci := 4) (C := qnR) (T := TR) (N := 25) (v := .ref (a 12)) F 0 (Nat.le_of_ble_eq_true rfl) rfl rfl hiR 13 (by decide) rfl lfR_44 rfl dR_pass_26 ?_
        refine wx_bipush (v := 6) F dR_pass_29 (by decide) ?_
        refine wx_iload_n F 1 dR_pass_31 rfl rfl ?_
        refine wx_imul F dR_pass_32 ?_
        refine wx_iload_n F 3 dR_pass_33 rfl rfl ?_
        refine wx_iadd F dR_pass_34 ?_
        obtain ⟨j8, e9, b10, h11⟩ := (((h4).2 g5).2 g6).2 g7
        refine wx_iald (N := 144) F 12 (Nat.le_of_ble_eq_true rfl) rfl 0 rfl e9 b10 (by omega) dR_pass_35 ?_
        refine wx_iload_n F 2 dR_pass_36 rfl rfl ?_
        obtain ⟨po12, c13, h14⟩ := h11
        refine wx_callv F 0 c13 (Nat.le_of_ble_eq_true rfl) rfl rfl (cw_V F.1.2.2.2.2 lmR_96 cbR_token rfl rfl ⟨by rw [hR]; exact Nat.le_of_ble_eq_true rfl, by rw [hR]; exact Nat.le_of_ble_eq_true rfl⟩) rfl rfl (Nat.le_of_ble_eq_true rfl) dR_pass_37 (fun M16 p17 => ?_)
        exact wx_vret F dR_pass_40 (h14 M16 p17)
set_option maxRecDepth 20000 in
theorem sR_pass_44 {G : CX} {D : va_G} {cI cZ : ClassId} {a : Nat → Nat} {post : MM → Prop} (F : FX G (sM D cI cZ a) cR_pass 6 qnR none) (hR : gR G = rmR_pass) {K44 : MM → Int32 → Int32 → Int32 → Int32 → Prop} (hK44 : ∀ (M : MM) (x1 x2 x3 x4 : Int32), K44 M x1 x2 x3 x4 → wx G (sM D cI cZ a) 6 (Qxv G (sM D cI cZ a) post) M 44 [(0, .ref (a 0)), (1, .int x1), (2, .int x2), (3, .int x3), (4, .int x4)] []) {M : MM} {x1 x2 x3 x4 : Int32} (h : ∃ j1 : Nat, x1 = nI j1 ∧ j1 < 24 ∧ (((M 11 j1) ≤ x4 → (post M)) ∧ (¬ (M 11 j1) ≤ x4 → (∃ j6 : Nat, ((6 * x1) + x4) = nI j6 ∧ j6 < 144 ∧ (∃ j10 : Nat, (M 12 j6) = nI j10 ∧ j10 < 24 ∧ (∀ M14 : MM, M14 = mp M 8 j10 ((M 8 j10) + 1) → (∃ po16 : Int32 → MM → Prop, Ci (gl G) (sM D cI cZ a) yR_into wR_into rmR_into [.ref (a 0), .int (M 12 j6), .int 1] M14 po16 ∧ ∀ (r19 : Int32) (M20 : MM), po16 r19 M20 → ((¬ (M14 8 j10) = r19 → (K44 M20 x1 x2 x3 (x4 + 1))) ∧ ((M14 8 j10) = r19 → (∀ M23 : MM, M23 = mp M20 8 j10 0 → (∃ po25 : MM → Prop, Cv (gl G) (sM D cI cZ a) yR_token wR_token rmR_token [.ref (a 0), .int (M 12 j6), .int x2] M23 po25 ∧ ∀ (M29 : MM), po25 M29 → (K44 M29 x1 x2 x3 (x4 + 1))))))))))))) : wx G (sM D cI cZ a) 6 (Qxv G (sM D cI cZ a) post) M 44 [(0, .ref (a 0)), (1, .int x1), (2, .int x2), (3, .int x3), (4, .int x4)] [] := by
  refine wx_iload F 4 dR_pass_44 rfl ?_
  refine wx_aload_n F 0 dR_pass_46 rfl rfl ?_
  refine wx_get (ci := 4) (C := qnR) (T := TR) (N := 25) (v := .ref (a 11)) F 0 (Nat.le_of_ble_eq_true rfl) rfl rfl hiR 12 (by decide) rfl lfR_41 rfl dR_pass_47 ?_
  refine wx_iload_n F 1 dR_pass_50 rfl rfl ?_
  obtain ⟨j1, e2, b3, h4⟩ := h
  refine wx_iald (N := 24) F 11 (Nat.le_of_ble_eq_true rfl) rfl 0 rfl e2 b3 (by omega) dR_pass_51 ?_
  refine wx_icmp_ge (tgt := 123) F dR_pass_52 (by decide) (fun g5 => ?_) (fun g5 => ?_)
  · exact wx_vret F dR_pass_123 ((h4).1 g5)
  · refine wx_aload_n F 0 dR_pass_55 rfl rfl ?_
    refine wx_get (ci := 4) (C := qnR) (T := TR) (N := 25) (v := .ref (a 12)) F 0 (Nat.le_of_ble_eq_true rfl) rfl rfl hiR 13 (by decide) rfl lfR_44 rfl dR_pass_56 ?_
    refine wx_bipush (v := 6) F dR_pass_59 (by decide) ?_
    refine wx_iload_n F 1 dR_pass_61 rfl rfl ?_
    refine wx_imul F dR_pass_62 ?_
    refine wx_iload F 4 dR_pass_63 rfl ?_
    refine wx_iadd F dR_pass_65 ?_
    obtain ⟨j6, e7, b8, h9⟩ := (h4).2 g5
    refine wx_iald (N := 144) F 12 (Nat.le_of_ble_eq_true rfl) rfl 0 rfl e7 b8 (by omega) dR_pass_66 ?_
    refine wx_istore (lv' := [(5, .int (M 12 j6)), (0, .ref (a 0)), (1, .int x1), (2, .int x2), (3, .int x3), (4, .int x4)]) F dR_pass_67 (by decide) rfl ?_
    refine wx_aload_n F 1 dR_pass_69 rfl rfl ?_
    refine wx_get (ci := 4) (C := qnR) (T := TR) (N := 25) (v := .ref (a 8)) F 0 (Nat.le_of_ble_eq_true rfl) rfl rfl hiR 9 (by decide) rfl lfR_31 rfl dR_pass_70 ?_
    refine wx_iload F 0 dR_pass_73 rfl ?_
    refine wx_aload_n F 1 dR_pass_75 rfl rfl ?_
    refine wx_get (ci := 4) (C := qnR) (T := TR) (N := 25) (v := .ref (a 8)) F 0 (Nat.le_of_ble_eq_true rfl) rfl rfl hiR 9 (by decide) rfl lfR_31 rfl dR_pass_76 ?_
    refine wx_iload F 0 dR_pass_79 rfl ?_
    obtain ⟨j10, e11, b12, h13⟩ := h9
    refine wx_iald (N := 24) F 8 (Nat.le_of_ble_eq_true rfl) rfl 0 rfl e11 b12 (by omega) dR_pass_81 ?_
    refine wx_iconst (v := 1) F dR_pass_82 (by decide) ?_
    refine wx_iadd F dR_pass_83 ?_
    refine wx_iast (N := 24) F 8 (Nat.le_of_ble_eq_true rfl) (fun _ => rfl) 0 rfl e11 b12 (by omega) dR_pass_84 (wx_nm (fun M14 e15 => ?_))
    refine wx_aload_n F 1 dR_pass_85 rfl rfl ?_
    refine wx_get (ci := 4) (C := qnR) (T := TR) (N := 25) (v := .ref (a 8)) F 0 (Nat.le_of_ble_eq_true rfl) rfl rfl hiR 9 (by decide) rfl lfR_31 rfl dR_pass_86 ?_
    refine wx_iload F 0 dR_pass_89 rfl ?_
    refine wx_iald (N := 24) F 8 (Nat.le_of_ble_eq_true rfl) rfl 0 rfl e11 b12 (by omega) dR_pass_91 ?_
    refine wx_aload_n F 1 dR_pass_92 rfl rfl ?_
    refine wx_iload F 0 dR_pass_93 rfl ?_
    refine wx_iconst (v := 1) F dR_pass_95 (by decide) ?_
    obtain ⟨po16, c17, h18⟩ := h13 M14 e15
    refine wx_calli F 0 c17 (Nat.le_of_ble_eq_true rfl) rfl rfl (cw_V F.1.2.2.2.2 lmR_75 cbR_into rfl rfl ⟨by rw [hR]; exact Nat.le_of_ble_eq_true rfl, by rw [hR]; exact Nat.le_of_ble_eq_true rfl⟩) rfl rfl (Nat.le_of_ble_eq_true rfl) dR_pass_96 (fun r19 M20 p21 => ?_)
    refine wx_icmp_ne (tgt := 117) F dR_pass_99 (by decide) (fun g22 => ?_) (fun g22 => ?_)
    · refine wx_iinc (lv' := [(4, .int (x4 + 1)), (5, .int (M 12 j6)), (0, .ref (a 0)), (1, .int x1), (2, .int x2), (3, .int x3)]) F 5 dR_pass_117 rfl (ii1 _) (by decide) rfl ?_
      refine wx_goto (tgt := 44) F dR_pass_120 (by decide) ?_
      exact wx_lv [2, 3, 4, 5, 0] rfl (hK44 _ _ _ _ _ ((h18 r19 M20 p21).1 g22))
    · refine wx_aload_n F 1 dR_pass_102 rfl rfl ?_
      refine wx_get (ci := 4) (C := qnR) (T := TR) (N := 25) (v := .ref (a 8)) F 0 (Nat.le_of_ble_eq_true rfl) rfl rfl hiR 9 (by decide) rfl lfR_31 rfl dR_pass_103 ?_
      refine wx_iload F 0 dR_pass_106 rfl ?_
      refine wx_iconst (v := 0) F dR_pass_108 (by decide) ?_
      refine wx_iast (N := 24) F 8 (Nat.le_of_ble_eq_true rfl) (fun _ => rfl) 0 rfl e11 b12 (by omega) dR_pass_109 (wx_nm (fun M23 e24 => ?_))
      refine wx_aload_n F 1 dR_pass_110 rfl rfl ?_
      refine wx_iload F 0 dR_pass_111 rfl ?_
      refine wx_iload_n F 3 dR_pass_113 rfl rfl ?_
      obtain ⟨po25, c26, h27⟩ := ((h18 r19 M20 p21).2 g22) M23 e24
      refine wx_callv F 0 c26 (Nat.le_of_ble_eq_true rfl) rfl rfl (cw_V F.1.2.2.2.2 lmR_96 cbR_token rfl rfl ⟨by rw [hR]; exact Nat.le_of_ble_eq_true rfl, by rw [hR]; exact Nat.le_of_ble_eq_true rfl⟩) rfl rfl (Nat.le_of_ble_eq_true rfl) dR_pass_114 (fun M29 p30 => ?_)
      refine wx_iinc (lv' := [(4, .int (x4 + 1)), (5, .int (M 12 j6)), (0, .ref (a 0)), (1, .int x1), (2, .int x2), (3, .int x3)]) F 5 dR_pass_117 rfl (ii1 _) (by decide) rfl ?_
      refine wx_goto (tgt := 44) F dR_pass_120 (by decide) ?_
      exact wx_lv [2, 3, 4, 5, 0] rfl (hK44 _ _ _ _ _ (h27 M29 p30))
theorem oR_pass {l : Launch} {D : va_G} {cI cZ : ClassId} {a : Nat → Nat} {post : MM → Prop} (hJ : IJ (sM D cI cZ a)) {M : MM} {x1 x2 x3 : Int32} (h : ∀ G : CX, gl G = l → gR G = rmR_pass → FX G (sM D cI cZ a) cR_pass 6 qnR none → wx G (sM D cI cZ a) 6 (Qxv G (sM D cI cZ a) post) M 0 [(0, .ref (a 0)), (1, .int x1), (2, .int x2), (3, .int x3)] []) : Cv l (sM D cI cZ a) yR_pass wR_pass rmR_pass [.ref (a 0), .int x1, .int x2, .int x3] M post := Cv.of (cc := cR_pass) (nL := 6) rfl rfl (Nat.le_of_ble_eq_true rfl) hJ h
set_option maxRecDepth 20000 in
theorem sR_end_0 {G : CX} {D : va_G} {cI cZ : ClassId} {a : Nat → Nat} {post : Int32 → MM → Prop} (F : FX G (sM D cI cZ a) cR_end 10 qnR (some .int)) (hR : gR G = rmR_end) {K13 : MM → Int32 → Int32 → Int32 → Int32 → Int32 → Int32 → Int32 → Int32 → Prop} (hK13 : ∀ (M : MM) (x1 x2 x3 x4 x5 x6 x7 x8 : Int32), K13 M x1 x2 x3 x4 x5 x6 x7 x8 → wx G (sM D cI cZ a) 10 (Qxi G (sM D cI cZ a) post) M 13 [(0, .ref (a 0)), (1, .int x1), (2, .int x2), (3, .int x3), (4, .int x4), (5, .int x5), (6, .int x6), (7, .int x7), (8, .int x8)] []) {M : MM} {x1 x2 x3 x4 : Int32} (h : K13 M x1 x2 x3 x4 x1 0 x4 0) : wx G (sM D cI cZ a) 10 (Qxi G (sM D cI cZ a) post) M 0 [(0, .ref (a 0)), (1, .int x1), (2, .int x2), (3, .int x3), (4, .int x4)] [] := by
  refine wx_iload_n F 1 dR_end_0 rfl rfl ?_
  refine wx_istore (lv' := [(5, .int x1), (0, .ref (a 0)), (1, .int x1), (2, .int x2), (3, .int x3), (4, .int x4)]) F dR_end_1 (by decide) rfl ?_
  refine wx_iconst (v := 0) F dR_end_3 (by decide) ?_
  refine wx_istore (lv' := [(6, .int 0), (5, .int x1), (0, .ref (a 0)), (1, .int x1), (2, .int x2), (3, .int x3), (4, .int x4)]) F dR_end_4 (by decide) rfl ?_
  refine wx_iload F 6 dR_end_6 rfl ?_
  refine wx_istore (lv' := [(7, .int x4), (6, .int 0), (5, .int x1), (0, .ref (a 0)), (1, .int x1), (2, .int x2), (3, .int x3), (4, .int x4)]) F dR_end_8 (by decide) rfl ?_
  refine wx_iconst (v := 0) F dR_end_10 (by decide) ?_
  refine wx_istore (lv' := [(8, .int 0), (7, .int x4), (6, .int 0), (5, .int x1), (0, .ref (a 0)), (1, .int x1), (2, .int x2), (3, .int x3), (4, .int x4)]) F dR_end_11 (by decide) rfl ?_
  exact wx_lv [4, 5, 6, 7, 8, 3, 2, 1, 0] rfl (hK13 _ _ _ _ _ _ _ _ _ (h))
set_option maxRecDepth 20000 in
theorem sR_end_13 {G : CX} {D : va_G} {cI cZ : ClassId} {a : Nat → Nat} {post : Int32 → MM → Prop} (F : FX G (sM D cI cZ a) cR_end 10 qnR (some .int)) (hR : gR G = rmR_end) {K71 : MM → Int32 → Int32 → Int32 → Int32 → Int32 → Int32 → Int32 → Int32 → Prop} (hK71 : ∀ (M : MM) (x1 x2 x3 x4 x5 x6 x7 x8 : Int32), K71 M x1 x2 x3 x4 x5 x6 x7 x8 → wx G (sM D cI cZ a) 10 (Qxi G (sM D cI cZ a) post) M 71 [(0, .ref (a 0)), (1, .int x1), (2, .int x2), (3, .int x3), (4, .int x4), (5, .int x5), (6, .int x6), (7, .int x7), (8, .int x8)] []) {M : MM} {x1 x2 x3 x4 x5 x6 x7 x8 : Int32} (h : (5 ≤ x8 → (post x6 M)) ∧ (¬ 5 ≤ x8 → ((x5 < 0 → (post x6 M)) ∧ (¬ x5 < 0 → (∃ j5 : Nat, x5 = nI j5 ∧ j5 < 24 ∧ (∀ M3 : MM, M3 = mp M 5 j5 0 → ((¬ x7 = 0 → (K71 M3 x1 x2 x3 x4 x5 (x6 + 1) 1 x8)) ∧ (x7 = 0 → ((¬ (M3 1 j5) = 2 → (K71 M3 x1 x2 x3 x4 x5 (x6 + 1) 0 x8)) ∧ ((M3 1 j5) = 2 → (((M3 10 j5) = 0 → (K71 M3 x1 x2 x3 x4 x5 (x6 + 1) 0 x8)) ∧ (¬ (M3 10 j5) = 0 → (K71 M3 x1 x2 x3 x4 x5 (x6 + 1) 1 x8))))))))))))) : wx G (sM D cI cZ a) 10 (Qxi G (sM D cI cZ a) post) M 13 [(0, .ref (a 0)), (1, .int x1), (2, .int x2), (3, .int x3), (4, .int x4), (5, .int x5), (6, .int x6), (7, .int x7), (8, .int x8)] [] := by
  refine wx_iload F 8 dR_end_13 rfl ?_
  refine wx_iconst (v := 5) F dR_end_15 (by decide) ?_
  refine wx_icmp_ge (tgt := 160) F dR_end_16 (by decide) (fun g1 => ?_) (fun g1 => ?_)
  · refine wx_iload F 6 dR_end_160 rfl ?_
    exact wx_iret F dR_end_162 ((h).1 g1)
  · refine wx_iload F 5 dR_end_19 rfl ?_
    refine wx_if_lt (tgt := 160) F dR_end_21 (by decide) (fun g2 => ?_) (fun g2 => ?_)
    · refine wx_iload F 6 dR_end_160 rfl ?_
      exact wx_iret F dR_end_162 (((h).2 g1).1 g2)
    · refine wx_aload_n F 0 dR_end_24 rfl rfl ?_
      refine wx_get (ci := 4) (C := qnR) (T := TR) (N := 25) (v := .ref (a 5)) F 0 (Nat.le_of_ble_eq_true rfl) rfl rfl hiR 6 (by decide) rfl lfR_22 rfl dR_end_25 ?_
      refine wx_iload F 5 dR_end_28 rfl ?_
      refine wx_iconst (v := 0) F dR_end_30 (by decide) ?_
      obtain ⟨j5, e6, b7, h8⟩ := ((h).2 g1).2 g2
      refine wx_iast (N := 24) F 5 (Nat.le_of_ble_eq_true rfl) (fun _ => rfl) 0 rfl e6 b7 (by omega) dR_end_31 (wx_nm (fun M3 e4 => ?_))
      refine wx_iload F 6 dR_end_32 rfl ?_
      refine wx_iconst (v := 1) F dR_end_34 (by decide) ?_
      refine wx_iadd F dR_end_35 ?_
      refine wx_istore (lv' := [(6, .int (x6 + 1)), (0, .ref (a 0)), (1, .int x1), (2, .int x2), (3, .int x3), (4, .int x4), (5, .int x5), (7, .int x7), (8, .int x8)]) F dR_end_36 (by decide) rfl ?_
      refine wx_iload F 7 dR_end_38 rfl ?_
      refine wx_if_ne (tgt := 64) F dR_end_40 (by decide) (fun g9 => ?_) (fun g9 => ?_)
      · refine wx_iconst (v := 1) F dR_end_64 (by decide) ?_
        refine wx_goto (tgt := 69) F dR_end_65 (by decide) ?_
        refine wx_istore (lv' := [(7, .int 1), (6, .int (x6 + 1)), (0, .ref (a 0)), (1, .int x1), (2, .int x2), (3, .int x3), (4, .int x4), (5, .int x5), (8, .int x8)]) F dR_end_69 (by decide) rfl ?_
        exact wx_lv [2, 3, 4, 5, 6, 7, 1, 0, 8] rfl (hK71 _ _ _ _ _ _ _ _ _ ((h8 M3 e4).1 g9))
      · refine wx_aload_n F 1 dR_end_43 rfl rfl ?_
        refine wx_get (ci := 4) (C := qnR) (T := TR) (N := 25) (v := .ref (a 1)) F 0 (Nat.le_of_ble_eq_true rfl) rfl rfl hiR 2 (by decide) rfl lfR_7 rfl dR_end_44 ?_
        refine wx_iload F 6 dR_end_47 rfl ?_
        refine wx_iald (N := 24) F 1 (Nat.le_of_ble_eq_true rfl) rfl 0 rfl e6 b7 (by omega) dR_end_49 ?_
        refine wx_iconst (v := 2) F dR_end_50 (by decide) ?_
        refine wx_icmp_ne (tgt := 68) F dR_end_51 (by decide) (fun g10 => ?_) (fun g10 => ?_)
        · refine wx_iconst (v := 0) F dR_end_68 (by decide) ?_
          refine wx_istore (lv' := [(7, .int 0), (6, .int (x6 + 1)), (0, .ref (a 0)), (1, .int x1), (2, .int x2), (3, .int x3), (4, .int x4), (5, .int x5), (8, .int x8)]) F dR_end_69 (by decide) rfl ?_
          exact wx_lv [2, 3, 4, 5, 6, 7, 1, 0, 8] rfl (hK71 _ _ _ _ _ _ _ _ _ (((h8 M3 e4).2 g9).1 g10))
        · refine wx_aload_n F 1 dR_end_54 rfl rfl ?_
          refine wx_get (ci := 4) (C := qnR) (T := TR) (N := 25) (v := .ref (a 10)) F 0 (Nat.le_of_ble_eq_true rfl) rfl rfl hiR 11 (by decide) rfl lfR_37 rfl dR_end_55 ?_
          refine wx_iload F 6 dR_end_58 rfl ?_
          refine wx_zald (N := 24) F 10 (Nat.le_of_ble_eq_true rfl) rfl 1 rfl e6 b7 (by omega) dR_end_60 ?_
          refine wx_if_eq (tgt := 68) F dR_end_61 (by decide) (fun g11 => ?_) (fun g11 => ?_)
          · refine wx_iconst (v := 0) F dR_end_68 (by decide) ?_
            refine wx_istore (lv' := [(7, .int 0), (6, .int (x6 + 1)), (0, .ref (a 0)), (1, .int x1), (2, .int x2), (3, .int x3), (4, .int x4), (5, .int x5), (8, .int x8)]) F dR_end_69 (by decide) rfl ?_
            exact wx_lv [2, 3, 4, 5, 6, 7, 1, 0, 8] rfl (hK71 _ _ _ _ _ _ _ _ _ ((((h8 M3 e4).2 g9).2 g10).1 g11))
          · refine wx_iconst (v := 1) F dR_end_64 (by decide) ?_
            refine wx_goto (tgt := 69) F dR_end_65 (by decide) ?_
            refine wx_istore (lv' := [(7, .int 1), (6, .int (x6 + 1)), (0, .ref (a 0)), (1, .int x1), (2, .int x2), (3, .int x3), (4, .int x4), (5, .int x5), (8, .int x8)]) F dR_end_69 (by decide) rfl ?_
            exact wx_lv [2, 3, 4, 5, 6, 7, 1, 0, 8] rfl (hK71 _ _ _ _ _ _ _ _ _ ((((h8 M3 e4).2 g9).2 g10).2 g11))
set_option maxRecDepth 20000 in
theorem sR_end_71 {G : CX} {D : va_G} {cI cZ : ClassId} {a : Nat → Nat} {post : Int32 → MM → Prop} (F : FX G (sM D cI cZ a) cR_end 10 qnR (some .int)) (hR : gR G = rmR_end) {K91 : MM → Int32 → Int32 → Int32 → Int32 → Int32 → Int32 → Int32 → Int32 → Prop} (hK91 : ∀ (M : MM) (x1 x2 x3 x4 x5 x6 x7 x8 : Int32), K91 M x1 x2 x3 x4 x5 x6 x7 x8 → wx G (sM D cI cZ a) 10 (Qxi G (sM D cI cZ a) post) M 91 [(0, .ref (a 0)), (1, .int x1), (2, .int x2), (3, .int x3), (4, .int x4), (5, .int x5), (6, .int x6), (7, .int x7), (8, .int x8)] []) {M : MM} {x1 x2 x3 x4 x5 x6 x7 x8 : Int32} (h : (¬ x7 = 0 → (K91 M x1 x2 x3 x4 x5 x6 x7 x8)) ∧ (x7 = 0 → ((¬ (M 0 19) = 0 → (K91 M x1 x2 x3 x4 x5 x6 x7 x8)) ∧ ((M 0 19) = 0 → (∃ po3 : MM → Prop, Cv (gl G) (sM D cI cZ a) yR_pass wR_pass rmR_pass [.ref (a 0), .int x5, .int x2, .int x3] M po3 ∧ ∀ (M7 : MM), po3 M7 → (K91 M7 x1 x2 x3 x4 x5 x6 x7 x8)))))) : wx G (sM D cI cZ a) 10 (Qxi G (sM D cI cZ a) post) M 71 [(0, .ref (a 0)), (1, .int x1), (2, .int x2), (3, .int x3), (4, .int x4), (5, .int x5), (6, .int x6), (7, .int x7), (8, .int x8)] [] := by
  refine wx_iload F 7 dR_end_71 rfl ?_
  refine wx_if_ne (tgt := 91) F dR_end_73 (by decide) (fun g1 => ?_) (fun g1 => ?_)
  · exact wx_lv [0, 1, 2, 3, 4, 5, 6, 7, 8] rfl (hK91 _ _ _ _ _ _ _ _ _ ((h).1 g1))
  · refine wx_aload_n F 0 dR_end_76 rfl rfl ?_
    refine wx_get (ci := 4) (C := qnR) (T := TR) (N := 25) (v := .int (M 0 19)) F 0 (Nat.le_of_ble_eq_true rfl) rfl rfl hiR 19 (by decide) rfl lfR_112 rfl dR_end_77 ?_
    refine wx_if_ne (tgt := 91) F dR_end_80 (by decide) (fun g2 => ?_) (fun g2 => ?_)
    · exact wx_lv [0, 1, 2, 3, 4, 5, 6, 7, 8] rfl (hK91 _ _ _ _ _ _ _ _ _ (((h).2 g1).1 g2))
    · refine wx_aload_n F 0 dR_end_83 rfl rfl ?_
      refine wx_iload F 5 dR_end_84 rfl ?_
      refine wx_iload_n F 2 dR_end_86 rfl rfl ?_
      refine wx_iload_n F 3 dR_end_87 rfl rfl ?_
      obtain ⟨po3, c4, h5⟩ := ((h).2 g1).2 g2
      refine wx_callv F 0 c4 (Nat.le_of_ble_eq_true rfl) rfl rfl (cw_V F.1.2.2.2.2 lmR_140 cbR_pass rfl rfl ⟨by rw [hR]; exact Nat.le_of_ble_eq_true rfl, by rw [hR]; exact Nat.le_of_ble_eq_true rfl⟩) rfl rfl (Nat.le_of_ble_eq_true rfl) dR_end_88 (fun M7 p8 => ?_)
      exact wx_lv [0, 1, 2, 3, 4, 5, 6, 7, 8] rfl (hK91 _ _ _ _ _ _ _ _ _ (h5 M7 p8))
set_option maxRecDepth 20000 in
theorem sR_end_91 {G : CX} {D : va_G} {cI cZ : ClassId} {a : Nat → Nat} {post : Int32 → MM → Prop} (F : FX G (sM D cI cZ a) cR_end 10 qnR (some .int)) (hR : gR G = rmR_end) {K118 : MM → Int32 → Int32 → Int32 → Int32 → Int32 → Int32 → Int32 → Int32 → Int32 → Prop} (hK118 : ∀ (M : MM) (x1 x2 x3 x4 x5 x6 x7 x8 x9 : Int32), K118 M x1 x2 x3 x4 x5 x6 x7 x8 x9 → wx G (sM D cI cZ a) 10 (Qxi G (sM D cI cZ a) post) M 118 [(0, .ref (a 0)), (1, .int x1), (2, .int x2), (3, .int x3), (4, .int x4), (5, .int x5), (6, .int x6), (7, .int x7), (8, .int x8), (9, .int x9)] []) {M : MM} {x1 x2 x3 x4 x5 x6 x7 x8 : Int32} (h : ∃ j1 : Nat, x5 = nI j1 ∧ j1 < 24 ∧ (((M 2 j1) < 0 → (K118 M x1 x2 x3 x4 x5 x6 x7 x8 (M 2 j1))) ∧ (¬ (M 2 j1) < 0 → ((x7 = 0 → (K118 M x1 x2 x3 x4 x5 x6 x7 x8 (M 2 j1))) ∧ (¬ x7 = 0 → (∃ j9 : Nat, (M 2 j1) = nI j9 ∧ j9 < 24 ∧ (∀ M7 : MM, M7 = mp M 10 j9 1 → (K118 M7 x1 x2 x3 x4 x5 x6 x7 x8 (M 2 j1))))))))) : wx G (sM D cI cZ a) 10 (Qxi G (sM D cI cZ a) post) M 91 [(0, .ref (a 0)), (1, .int x1), (2, .int x2), (3, .int x3), (4, .int x4), (5, .int x5), (6, .int x6), (7, .int x7), (8, .int x8)] [] := by
  refine wx_aload_n F 0 dR_end_91 rfl rfl ?_
  refine wx_get (ci := 4) (C := qnR) (T := TR) (N := 25) (v := .ref (a 2)) F 0 (Nat.le_of_ble_eq_true rfl) rfl rfl hiR 3 (by decide) rfl lfR_13 rfl dR_end_92 ?_
  refine wx_iload F 5 dR_end_95 rfl ?_
  obtain ⟨j1, e2, b3, h4⟩ := h
  refine wx_iald (N := 24) F 2 (Nat.le_of_ble_eq_true rfl) rfl 0 rfl e2 b3 (by omega) dR_end_97 ?_
  refine wx_istore (lv' := [(9, .int (M 2 j1)), (0, .ref (a 0)), (1, .int x1), (2, .int x2), (3, .int x3), (4, .int x4), (5, .int x5), (6, .int x6), (7, .int x7), (8, .int x8)]) F dR_end_98 (by decide) rfl ?_
  refine wx_iload F 0 dR_end_100 rfl ?_
  refine wx_if_lt (tgt := 118) F dR_end_102 (by decide) (fun g5 => ?_) (fun g5 => ?_)
  · exact wx_lv [1, 2, 3, 4, 5, 6, 7, 8, 9, 0] rfl (hK118 _ _ _ _ _ _ _ _ _ _ ((h4).1 g5))
  · refine wx_iload F 8 dR_end_105 rfl ?_
    refine wx_if_eq (tgt := 118) F dR_end_107 (by decide) (fun g6 => ?_) (fun g6 => ?_)
    · exact wx_lv [1, 2, 3, 4, 5, 6, 7, 8, 9, 0] rfl (hK118 _ _ _ _ _ _ _ _ _ _ (((h4).2 g5).1 g6))
    · refine wx_aload_n F 1 dR_end_110 rfl rfl ?_
      refine wx_get (ci := 4) (C := qnR) (T := TR) (N := 25) (v := .ref (a 10)) F 0 (Nat.le_of_ble_eq_true rfl) rfl rfl hiR 11 (by decide) rfl lfR_37 rfl dR_end_111 ?_
      refine wx_iload F 0 dR_end_114 rfl ?_
      refine wx_iconst (v := 1) F dR_end_116 (by decide) ?_
      obtain ⟨j9, e10, b11, h12⟩ := ((h4).2 g5).2 g6
      refine wx_zast (N := 24) F 10 (Nat.le_of_ble_eq_true rfl) (fun _ => rfl) 1 rfl e10 b11 (by omega) rfl dR_end_117 (wx_nm (fun M7 e8 => ?_))
      exact wx_lv [1, 2, 3, 4, 5, 6, 7, 8, 9, 0] rfl (hK118 _ _ _ _ _ _ _ _ _ _ (h12 M7 e8))
set_option maxRecDepth 20000 in
theorem sR_end_118 {G : CX} {D : va_G} {cI cZ : ClassId} {a : Nat → Nat} {post : Int32 → MM → Prop} (F : FX G (sM D cI cZ a) cR_end 10 qnR (some .int)) (hR : gR G = rmR_end) {K13 : MM → Int32 → Int32 → Int32 → Int32 → Int32 → Int32 → Int32 → Int32 → Prop} (hK13 : ∀ (M : MM) (x1 x2 x3 x4 x5 x6 x7 x8 : Int32), K13 M x1 x2 x3 x4 x5 x6 x7 x8 → wx G (sM D cI cZ a) 10 (Qxi G (sM D cI cZ a) post) M 13 [(0, .ref (a 0)), (1, .int x1), (2, .int x2), (3, .int x3), (4, .int x4), (5, .int x5), (6, .int x6), (7, .int x7), (8, .int x8)] []) {M : MM} {x1 x2 x3 x4 x5 x6 x7 x8 x9 : Int32} (h : (x9 < 0 → (K13 M x1 x2 x3 x4 (-1) x6 0 (x8 + 1))) ∧ (¬ x9 < 0 → (∃ j2 : Nat, x9 = nI j2 ∧ j2 < 24 ∧ ((¬ (M 1 j2) = 2 → (K13 M x1 x2 x3 x4 (-1) x6 0 (x8 + 1))) ∧ ((M 1 j2) = 2 → (∃ po7 : Int32 → MM → Prop, Ci (gl G) (sM D cI cZ a) yR_activeChild wR_activeChild rmR_activeChild [.ref (a 0), .int x9] M po7 ∧ ∀ (r10 : Int32) (M11 : MM), po7 r10 M11 → ((¬ r10 = 0 → (K13 M11 x1 x2 x3 x4 (-1) x6 0 (x8 + 1))) ∧ (r10 = 0 → (K13 M11 x1 x2 x3 x4 x9 x6 0 (x8 + 1)))))))))) : wx G (sM D cI cZ a) 10 (Qxi G (sM D cI cZ a) post) M 118 [(0, .ref (a 0)), (1, .int x1), (2, .int x2), (3, .int x3), (4, .int x4), (5, .int x5), (6, .int x6), (7, .int x7), (8, .int x8), (9, .int x9)] [] := by
  refine wx_iload F 9 dR_end_118 rfl ?_
  refine wx_if_lt (tgt := 148) F dR_end_120 (by decide) (fun g1 => ?_) (fun g1 => ?_)
  · refine wx_iconst (v := (-1)) F dR_end_148 (by decide) ?_
    refine wx_istore (lv' := [(5, .int (-1)), (0, .ref (a 0)), (1, .int x1), (2, .int x2), (3, .int x3), (4, .int x4), (6, .int x6), (7, .int x7), (8, .int x8), (9, .int x9)]) F dR_end_149 (by decide) rfl ?_
    refine wx_iconst (v := 0) F dR_end_151 (by decide) ?_
    refine wx_istore (lv' := [(7, .int 0), (5, .int (-1)), (0, .ref (a 0)), (1, .int x1), (2, .int x2), (3, .int x3), (4, .int x4), (6, .int x6), (8, .int x8), (9, .int x9)]) F dR_end_152 (by decide) rfl ?_
    refine wx_iinc (lv' := [(8, .int (x8 + 1)), (7, .int 0), (5, .int (-1)), (0, .ref (a 0)), (1, .int x1), (2, .int x2), (3, .int x3), (4, .int x4), (6, .int x6), (9, .int x9)]) F 8 dR_end_154 rfl (ii1 _) (by decide) rfl ?_
    refine wx_goto (tgt := 13) F dR_end_157 (by decide) ?_
    exact wx_lv [3, 4, 5, 6, 7, 2, 8, 1, 0] rfl (hK13 _ _ _ _ _ _ _ _ _ ((h).1 g1))
  · refine wx_aload_n F 0 dR_end_123 rfl rfl ?_
    refine wx_get (ci := 4) (C := qnR) (T := TR) (N := 25) (v := .ref (a 1)) F 0 (Nat.le_of_ble_eq_true rfl) rfl rfl hiR 2 (by decide) rfl lfR_7 rfl dR_end_124 ?_
    refine wx_iload F 9 dR_end_127 rfl ?_
    obtain ⟨j2, e3, b4, h5⟩ := (h).2 g1
    refine wx_iald (N := 24) F 1 (Nat.le_of_ble_eq_true rfl) rfl 0 rfl e3 b4 (by omega) dR_end_129 ?_
    refine wx_iconst (v := 2) F dR_end_130 (by decide) ?_
    refine wx_icmp_ne (tgt := 148) F dR_end_131 (by decide) (fun g6 => ?_) (fun g6 => ?_)
    · refine wx_iconst (v := (-1)) F dR_end_148 (by decide) ?_
      refine wx_istore (lv' := [(5, .int (-1)), (0, .ref (a 0)), (1, .int x1), (2, .int x2), (3, .int x3), (4, .int x4), (6, .int x6), (7, .int x7), (8, .int x8), (9, .int x9)]) F dR_end_149 (by decide) rfl ?_
      refine wx_iconst (v := 0) F dR_end_151 (by decide) ?_
      refine wx_istore (lv' := [(7, .int 0), (5, .int (-1)), (0, .ref (a 0)), (1, .int x1), (2, .int x2), (3, .int x3), (4, .int x4), (6, .int x6), (8, .int x8), (9, .int x9)]) F dR_end_152 (by decide) rfl ?_
      refine wx_iinc (lv' := [(8, .int (x8 + 1)), (7, .int 0), (5, .int (-1)), (0, .ref (a 0)), (1, .int x1), (2, .int x2), (3, .int x3), (4, .int x4), (6, .int x6), (9, .int x9)]) F 8 dR_end_154 rfl (ii1 _) (by decide) rfl ?_
      refine wx_goto (tgt := 13) F dR_end_157 (by decide) ?_
      exact wx_lv [3, 4, 5, 6, 7, 2, 8, 1, 0] rfl (hK13 _ _ _ _ _ _ _ _ _ ((h5).1 g6))
    · refine wx_aload_n F 0 dR_end_134 rfl rfl ?_
      refine wx_iload F 9 dR_end_135 rfl ?_
      obtain ⟨po7, c8, h9⟩ := (h5).2 g6
      refine wx_calli F 0 c8 (Nat.le_of_ble_eq_true rfl) rfl rfl (cw_V F.1.2.2.2.2 lmR_144 cbR_activeChild rfl rfl ⟨by rw [hR]; exact Nat.le_of_ble_eq_true rfl, by rw [hR]; exact Nat.le_of_ble_eq_true rfl⟩) rfl rfl (Nat.le_of_ble_eq_true rfl) dR_end_137 (fun r10 M11 p12 => ?_)
      refine wx_if_ne (tgt := 148) F dR_end_140 (by decide) (fun g13 => ?_) (fun g13 => ?_)
      · refine wx_iconst (v := (-1)) F dR_end_148 (by decide) ?_
        refine wx_istore (lv' := [(5, .int (-1)), (0, .ref (a 0)), (1, .int x1), (2, .int x2), (3, .int x3), (4, .int x4), (6, .int x6), (7, .int x7), (8, .int x8), (9, .int x9)]) F dR_end_149 (by decide) rfl ?_
        refine wx_iconst (v := 0) F dR_end_151 (by decide) ?_
        refine wx_istore (lv' := [(7, .int 0), (5, .int (-1)), (0, .ref (a 0)), (1, .int x1), (2, .int x2), (3, .int x3), (4, .int x4), (6, .int x6), (8, .int x8), (9, .int x9)]) F dR_end_152 (by decide) rfl ?_
        refine wx_iinc (lv' := [(8, .int (x8 + 1)), (7, .int 0), (5, .int (-1)), (0, .ref (a 0)), (1, .int x1), (2, .int x2), (3, .int x3), (4, .int x4), (6, .int x6), (9, .int x9)]) F 8 dR_end_154 rfl (ii1 _) (by decide) rfl ?_
        refine wx_goto (tgt := 13) F dR_end_157 (by decide) ?_
        exact wx_lv [3, 4, 5, 6, 7, 2, 8, 1, 0] rfl (hK13 _ _ _ _ _ _ _ _ _ ((h9 r10 M11 p12).1 g13))
      · refine wx_iload F 9 dR_end_143 rfl ?_
        refine wx_goto (tgt := 149) F dR_end_145 (by decide) ?_
        refine wx_istore (lv' := [(5, .int x9), (0, .ref (a 0)), (1, .int x1), (2, .int x2), (3, .int x3), (4, .int x4), (6, .int x6), (7, .int x7), (8, .int x8), (9, .int x9)]) F dR_end_149 (by decide) rfl ?_
        refine wx_iconst (v := 0) F dR_end_151 (by decide) ?_
        refine wx_istore (lv' := [(7, .int 0), (5, .int x9), (0, .ref (a 0)), (1, .int x1), (2, .int x2), (3, .int x3), (4, .int x4), (6, .int x6), (8, .int x8), (9, .int x9)]) F dR_end_152 (by decide) rfl ?_
        refine wx_iinc (lv' := [(8, .int (x8 + 1)), (7, .int 0), (5, .int x9), (0, .ref (a 0)), (1, .int x1), (2, .int x2), (3, .int x3), (4, .int x4), (6, .int x6), (9, .int x9)]) F 8 dR_end_154 rfl (ii1 _) (by decide) rfl ?_
        refine wx_goto (tgt := 13) F dR_end_157 (by decide) ?_
        exact wx_lv [3, 4, 5, 6, 7, 2, 8, 1, 0] rfl (hK13 _ _ _ _ _ _ _ _ _ ((h9 r10 M11 p12).2 g13))
theorem oR_end {l : Launch} {D : va_G} {cI cZ : ClassId} {a : Nat → Nat} {post : Int32 → MM → Prop} (hJ : IJ (sM D cI cZ a)) {M : MM} {x1 x2 x3 x4 : Int32} (h : ∀ G : CX, gl G = l → gR G = rmR_end → FX G (sM D cI cZ a) cR_end 10 qnR (some .int) → wx G (sM D cI cZ a) 10 (Qxi G (sM D cI cZ a) post) M 0 [(0, .ref (a 0)), (1, .int x1), (2, .int x2), (3, .int x3), (4, .int x4)] []) : Ci l (sM D cI cZ a) yR_end wR_end rmR_end [.ref (a 0), .int x1, .int x2, .int x3, .int x4] M post := Ci.of (cc := cR_end) (nL := 10) rfl rfl (Nat.le_of_ble_eq_true rfl) hJ h
set_option maxRecDepth 20000 in
theorem sR_settle_0 {G : CX} {D : va_G} {cI cZ : ClassId} {a : Nat → Nat} {post : MM → Prop} (F : FX G (sM D cI cZ a) cR_settle 3 qnR none) (hR : gR G = rmR_settle) {K4 : MM → Int32 → Int32 → Prop} (hK4 : ∀ (M : MM) (x1 x2 : Int32), K4 M x1 x2 → wx G (sM D cI cZ a) 3 (Qxv G (sM D cI cZ a) post) M 4 [(0, .ref (a 0)), (1, .int x1), (2, .int x2)] []) {M : MM} (h : K4 M 0 0) : wx G (sM D cI cZ a) 3 (Qxv G (sM D cI cZ a) post) M 0 [(0, .ref (a 0))] [] := by
  refine wx_iconst (v := 0) F dR_settle_0 (by decide) ?_
  refine wx_istore_n (lv' := [(1, .int 0), (0, .ref (a 0))]) F dR_settle_1 rfl (by decide) rfl ?_
  refine wx_iconst (v := 0) F dR_settle_2 (by decide) ?_
  refine wx_istore_n (lv' := [(2, .int 0), (1, .int 0), (0, .ref (a 0))]) F dR_settle_3 rfl (by decide) rfl ?_
  exact wx_lv [2, 1, 0] rfl (hK4 _ _ _ (h))
set_option maxRecDepth 20000 in
theorem sR_settle_4 {G : CX} {D : va_G} {cI cZ : ClassId} {a : Nat → Nat} {post : MM → Prop} (F : FX G (sM D cI cZ a) cR_settle 3 qnR none) (hR : gR G = rmR_settle) {K4 : MM → Int32 → Int32 → Prop} (hK4 : ∀ (M : MM) (x1 x2 : Int32), K4 M x1 x2 → wx G (sM D cI cZ a) 3 (Qxv G (sM D cI cZ a) post) M 4 [(0, .ref (a 0)), (1, .int x1), (2, .int x2)] []) {M : MM} {x1 x2 : Int32} (h : ((M 0 1) ≤ x2 → ((x1 = 0 → ((¬ (M 0 19) = 0 → (∀ M4 : MM, M4 = mp M 0 18 0 → (post M4))) ∧ ((M 0 19) = 0 → ((0 ≤ (M 0 20) → (∀ M7 : MM, M7 = mp M 0 18 0 → (post M7))) ∧ (¬ 0 ≤ (M 0 20) → ((¬ (M 0 22) = (M 0 21) → (∃ po10 : MM → Prop, Cv (gl G) (sM D cI cZ a) yR_nextRound wR_nextRound rmR_nextRound [.ref (a 0)] M po10 ∧ ∀ (M14 : MM), po10 M14 → (post M14))) ∧ ((M 0 22) = (M 0 21) → (∀ M16 : MM, M16 = mp M 0 18 0 → (post M16))))))))) ∧ (¬ x1 = 0 → (post M)))) ∧ (¬ (M 0 1) ≤ x2 → ((¬ x1 = 0 → (K4 M 1 (x2 + 1))) ∧ (x1 = 0 → (∃ j19 : Nat, x2 = nI j19 ∧ j19 < 24 ∧ (((M 5 j19) = 0 → (K4 M 0 (x2 + 1))) ∧ (¬ (M 5 j19) = 0 → (K4 M 1 (x2 + 1))))))))) : wx G (sM D cI cZ a) 3 (Qxv G (sM D cI cZ a) post) M 4 [(0, .ref (a 0)), (1, .int x1), (2, .int x2)] [] := by
  refine wx_iload_n F 2 dR_settle_4 rfl rfl ?_
  refine wx_aload_n F 0 dR_settle_5 rfl rfl ?_
  refine wx_get (ci := 4) (C := qnR) (T := TR) (N := 25) (v := .int (M 0 1)) F 0 (Nat.le_of_ble_eq_true rfl) rfl rfl hiR 1 (by decide) rfl lfR_60 rfl dR_settle_6 ?_
  refine wx_icmp_ge (tgt := 37) F dR_settle_9 (by decide) (fun g1 => ?_) (fun g1 => ?_)
  · refine wx_iload_n F 1 dR_settle_37 rfl rfl ?_
    refine wx_if_eq (tgt := 42) F dR_settle_38 (by decide) (fun g2 => ?_) (fun g2 => ?_)
    · refine wx_aload_n F 0 dR_settle_42 rfl rfl ?_
      refine wx_get (ci := 4) (C := qnR) (T := TR) (N := 25) (v := .int (M 0 19)) F 0 (Nat.le_of_ble_eq_true rfl) rfl rfl hiR 19 (by decide) rfl lfR_112 rfl dR_settle_43 ?_
      refine wx_if_ne (tgt := 67) F dR_settle_46 (by decide) (fun g3 => ?_) (fun g3 => ?_)
      · refine wx_aload_n F 0 dR_settle_67 rfl rfl ?_
        refine wx_iconst (v := 0) F dR_settle_68 (by decide) ?_
        refine wx_put (ci := 4) (C := qnR) (T := TR) (N := 25) (ty := .boolean) F 0 (Nat.le_of_ble_eq_true rfl) rfl rfl hiR tyR tyR_ok nmR 18 (by decide) rfl lfR_67 rfl (by decide +kernel) rfl rfl (Nat.le_of_ble_eq_true rfl) rfl dR_settle_69 (wx_nm (fun M4 e5 => ?_))
        refine wx_goto (tgt := 79) F dR_settle_72 (by decide) ?_
        exact wx_vret F dR_settle_79 (((((h).1 g1).1 g2).1 g3) M4 e5)
      · refine wx_aload_n F 0 dR_settle_49 rfl rfl ?_
        refine wx_get (ci := 4) (C := qnR) (T := TR) (N := 25) (v := .int (M 0 20)) F 0 (Nat.le_of_ble_eq_true rfl) rfl rfl hiR 20 (by decide) rfl lfR_53 rfl dR_settle_50 ?_
        refine wx_if_ge (tgt := 67) F dR_settle_53 (by decide) (fun g6 => ?_) (fun g6 => ?_)
        · refine wx_aload_n F 0 dR_settle_67 rfl rfl ?_
          refine wx_iconst (v := 0) F dR_settle_68 (by decide) ?_
          refine wx_put (ci := 4) (C := qnR) (T := TR) (N := 25) (ty := .boolean) F 0 (Nat.le_of_ble_eq_true rfl) rfl rfl hiR tyR tyR_ok nmR 18 (by decide) rfl lfR_67 rfl (by decide +kernel) rfl rfl (Nat.le_of_ble_eq_true rfl) rfl dR_settle_69 (wx_nm (fun M7 e8 => ?_))
          refine wx_goto (tgt := 79) F dR_settle_72 (by decide) ?_
          exact wx_vret F dR_settle_79 ((((((h).1 g1).1 g2).2 g3).1 g6) M7 e8)
        · refine wx_aload_n F 0 dR_settle_56 rfl rfl ?_
          refine wx_get (ci := 4) (C := qnR) (T := TR) (N := 25) (v := .int (M 0 22)) F 0 (Nat.le_of_ble_eq_true rfl) rfl rfl hiR 22 (by decide) rfl lfR_99 rfl dR_settle_57 ?_
          refine wx_aload_n F 0 dR_settle_60 rfl rfl ?_
          refine wx_get (ci := 4) (C := qnR) (T := TR) (N := 25) (v := .int (M 0 21)) F 0 (Nat.le_of_ble_eq_true rfl) rfl rfl hiR 21 (by decide) rfl lfR_115 rfl dR_settle_61 ?_
          refine wx_icmp_ne (tgt := 75) F dR_settle_64 (by decide) (fun g9 => ?_) (fun g9 => ?_)
          · refine wx_aload_n F 0 dR_settle_75 rfl rfl ?_
            obtain ⟨po10, c11, h12⟩ := (((((h).1 g1).1 g2).2 g3).2 g6).1 g9
            refine wx_callv F 0 c11 (Nat.le_of_ble_eq_true rfl) rfl rfl (cw_V F.1.2.2.2.2 lmR_121 cbR_nextRound rfl rfl ⟨by rw [hR]; exact Nat.le_of_ble_eq_true rfl, by rw [hR]; exact Nat.le_of_ble_eq_true rfl⟩) rfl rfl (Nat.le_of_ble_eq_true rfl) dR_settle_76 (fun M14 p15 => ?_)
            exact wx_vret F dR_settle_79 (h12 M14 p15)
          · refine wx_aload_n F 0 dR_settle_67 rfl rfl ?_
            refine wx_iconst (v := 0) F dR_settle_68 (by decide) ?_
            refine wx_put (ci := 4) (C := qnR) (T := TR) (N := 25) (ty := .boolean) F 0 (Nat.le_of_ble_eq_true rfl) rfl rfl hiR tyR tyR_ok nmR 18 (by decide) rfl lfR_67 rfl (by decide +kernel) rfl rfl (Nat.le_of_ble_eq_true rfl) rfl dR_settle_69 (wx_nm (fun M16 e17 => ?_))
            refine wx_goto (tgt := 79) F dR_settle_72 (by decide) ?_
            exact wx_vret F dR_settle_79 (((((((h).1 g1).1 g2).2 g3).2 g6).2 g9) M16 e17)
    · exact wx_vret F dR_settle_41 (((h).1 g1).2 g2)
  · refine wx_iload_n F 1 dR_settle_12 rfl rfl ?_
    refine wx_if_ne (tgt := 25) F dR_settle_13 (by decide) (fun g18 => ?_) (fun g18 => ?_)
    · refine wx_iconst (v := 1) F dR_settle_25 (by decide) ?_
      refine wx_goto (tgt := 30) F dR_settle_26 (by decide) ?_
      refine wx_istore_n (lv' := [(1, .int 1), (0, .ref (a 0)), (2, .int x2)]) F dR_settle_30 rfl (by decide) rfl ?_
      refine wx_iinc (lv' := [(2, .int (x2 + 1)), (1, .int 1), (0, .ref (a 0))]) F 2 dR_settle_31 rfl (ii1 _) (by decide) rfl ?_
      refine wx_goto (tgt := 4) F dR_settle_34 (by decide) ?_
      exact wx_lv [2, 1, 0] rfl (hK4 _ _ _ (((h).2 g1).1 g18))
    · refine wx_aload_n F 0 dR_settle_16 rfl rfl ?_
      refine wx_get (ci := 4) (C := qnR) (T := TR) (N := 25) (v := .ref (a 5)) F 0 (Nat.le_of_ble_eq_true rfl) rfl rfl hiR 6 (by decide) rfl lfR_22 rfl dR_settle_17 ?_
      refine wx_iload_n F 2 dR_settle_20 rfl rfl ?_
      obtain ⟨j19, e20, b21, h22⟩ := ((h).2 g1).2 g18
      refine wx_iald (N := 24) F 5 (Nat.le_of_ble_eq_true rfl) rfl 0 rfl e20 b21 (by omega) dR_settle_21 ?_
      refine wx_if_eq (tgt := 29) F dR_settle_22 (by decide) (fun g23 => ?_) (fun g23 => ?_)
      · refine wx_iconst (v := 0) F dR_settle_29 (by decide) ?_
        refine wx_istore_n (lv' := [(1, .int 0), (0, .ref (a 0)), (2, .int x2)]) F dR_settle_30 rfl (by decide) rfl ?_
        refine wx_iinc (lv' := [(2, .int (x2 + 1)), (1, .int 0), (0, .ref (a 0))]) F 2 dR_settle_31 rfl (ii1 _) (by decide) rfl ?_
        refine wx_goto (tgt := 4) F dR_settle_34 (by decide) ?_
        exact wx_lv [2, 1, 0] rfl (hK4 _ _ _ ((h22).1 g23))
      · refine wx_iconst (v := 1) F dR_settle_25 (by decide) ?_
        refine wx_goto (tgt := 30) F dR_settle_26 (by decide) ?_
        refine wx_istore_n (lv' := [(1, .int 1), (0, .ref (a 0)), (2, .int x2)]) F dR_settle_30 rfl (by decide) rfl ?_
        refine wx_iinc (lv' := [(2, .int (x2 + 1)), (1, .int 1), (0, .ref (a 0))]) F 2 dR_settle_31 rfl (ii1 _) (by decide) rfl ?_
        refine wx_goto (tgt := 4) F dR_settle_34 (by decide) ?_
        exact wx_lv [2, 1, 0] rfl (hK4 _ _ _ ((h22).2 g23))
theorem oR_settle {l : Launch} {D : va_G} {cI cZ : ClassId} {a : Nat → Nat} {post : MM → Prop} (hJ : IJ (sM D cI cZ a)) {M : MM} (h : ∀ G : CX, gl G = l → gR G = rmR_settle → FX G (sM D cI cZ a) cR_settle 3 qnR none → wx G (sM D cI cZ a) 3 (Qxv G (sM D cI cZ a) post) M 0 [(0, .ref (a 0))] []) : Cv l (sM D cI cZ a) yR_settle wR_settle rmR_settle [.ref (a 0)] M post := Cv.of (cc := cR_settle) (nL := 3) rfl rfl (Nat.le_of_ble_eq_true rfl) hJ h
set_option maxRecDepth 20000 in
theorem sR_finish_0 {G : CX} {D : va_G} {cI cZ : ClassId} {a : Nat → Nat} {post : Int32 → MM → Prop} (F : FX G (sM D cI cZ a) cR_finish 5 qnR (some .int)) (hR : gR G = rmR_finish) {M : MM} {x1 x2 : Int32} (h : ∃ po1 : Int32 → MM → Prop, Ci (gl G) (sM D cI cZ a) yR_running wR_running rmR_running [.ref (a 0), .int x1] M po1 ∧ ∀ (r4 : Int32) (M5 : MM), po1 r4 M5 → ((0 ≤ r4 → (∃ po8 : MM → Prop, Cv (gl G) (sM D cI cZ a) yR_release wR_release rmR_release [.ref (a 0), .int r4] M5 po8 ∧ ∀ (M12 : MM), po8 M12 → ((¬ (M12 0 19) = 0 → (∃ po15 : Int32 → MM → Prop, Ci (gl G) (sM D cI cZ a) yR_end wR_end rmR_end [.ref (a 0), .int r4, .int x1, .int x2, .int 0] M12 po15 ∧ ∀ (r18 : Int32) (M19 : MM), po15 r18 M19 → (∃ po21 : MM → Prop, Cv (gl G) (sM D cI cZ a) yR_settle wR_settle rmR_settle [.ref (a 0)] M19 po21 ∧ ∀ (M25 : MM), po21 M25 → (post r18 M25)))) ∧ ((M12 0 19) = 0 → (∃ j27 : Nat, r4 = nI j27 ∧ j27 < 24 ∧ (((M12 1 j27) < 2 → (∃ po32 : Int32 → MM → Prop, Ci (gl G) (sM D cI cZ a) yR_end wR_end rmR_end [.ref (a 0), .int r4, .int x1, .int x2, .int 0] M12 po32 ∧ ∀ (r35 : Int32) (M36 : MM), po32 r35 M36 → (∃ po38 : MM → Prop, Cv (gl G) (sM D cI cZ a) yR_settle wR_settle rmR_settle [.ref (a 0)] M36 po38 ∧ ∀ (M42 : MM), po38 M42 → (post r35 M42)))) ∧ (¬ (M12 1 j27) < 2 → (∀ M44 : MM, M44 = mp M12 10 j27 0 → (∃ po46 : MM → Prop, Cv (gl G) (sM D cI cZ a) yR_wake wR_wake rmR_wake [.ref (a 0), .int r4, .int x1] M44 po46 ∧ ∀ (M50 : MM), po46 M50 → ((¬ (M50 1 j27) = 2 → (∃ po53 : Int32 → MM → Prop, Ci (gl G) (sM D cI cZ a) yR_end wR_end rmR_end [.ref (a 0), .int r4, .int x1, .int x2, .int 0] M50 po53 ∧ ∀ (r56 : Int32) (M57 : MM), po53 r56 M57 → (∃ po59 : MM → Prop, Cv (gl G) (sM D cI cZ a) yR_settle wR_settle rmR_settle [.ref (a 0)] M57 po59 ∧ ∀ (M63 : MM), po59 M63 → (post r56 M63)))) ∧ ((M50 1 j27) = 2 → (∃ po65 : Int32 → MM → Prop, Ci (gl G) (sM D cI cZ a) yR_activeChild wR_activeChild rmR_activeChild [.ref (a 0), .int r4] M50 po65 ∧ ∀ (r68 : Int32) (M69 : MM), po65 r68 M69 → ((r68 = 0 → (∃ po72 : Int32 → MM → Prop, Ci (gl G) (sM D cI cZ a) yR_end wR_end rmR_end [.ref (a 0), .int r4, .int x1, .int x2, .int 0] M69 po72 ∧ ∀ (r75 : Int32) (M76 : MM), po72 r75 M76 → (∃ po78 : MM → Prop, Cv (gl G) (sM D cI cZ a) yR_settle wR_settle rmR_settle [.ref (a 0)] M76 po78 ∧ ∀ (M82 : MM), po78 M82 → (post r75 M82)))) ∧ (¬ r68 = 0 → (∀ M84 : MM, M84 = mp M69 5 j27 2 → (post 0 M84)))))))))))))))) ∧ (¬ 0 ≤ r4 → (post (-1) M5)))) : wx G (sM D cI cZ a) 5 (Qxi G (sM D cI cZ a) post) M 0 [(0, .ref (a 0)), (1, .int x1), (2, .int x2)] [] := by
  refine wx_aload_n F 0 dR_finish_0 rfl rfl ?_
  refine wx_iload_n F 1 dR_finish_1 rfl rfl ?_
  obtain ⟨po1, c2, h3⟩ := h
  refine wx_calli F 0 c2 (Nat.le_of_ble_eq_true rfl) rfl rfl (cw_V F.1.2.2.2.2 lmR_131 cbR_running rfl rfl ⟨by rw [hR]; exact Nat.le_of_ble_eq_true rfl, by rw [hR]; exact Nat.le_of_ble_eq_true rfl⟩) rfl rfl (Nat.le_of_ble_eq_true rfl) dR_finish_2 (fun r4 M5 p6 => ?_)
  refine wx_istore_n (lv' := [(3, .int r4), (0, .ref (a 0)), (1, .int x1), (2, .int x2)]) F dR_finish_5 rfl (by decide) rfl ?_
  refine wx_iload_n F 0 dR_finish_6 rfl rfl ?_
  refine wx_if_ge (tgt := 12) F dR_finish_7 (by decide) (fun g7 => ?_) (fun g7 => ?_)
  · refine wx_aload_n F 1 dR_finish_12 rfl rfl ?_
    refine wx_iload_n F 0 dR_finish_13 rfl rfl ?_
    obtain ⟨po8, c9, h10⟩ := (h3 r4 M5 p6).1 g7
    refine wx_callv F 0 c9 (Nat.le_of_ble_eq_true rfl) rfl rfl (cw_V F.1.2.2.2.2 lmR_147 cbR_release rfl rfl ⟨by rw [hR]; exact Nat.le_of_ble_eq_true rfl, by rw [hR]; exact Nat.le_of_ble_eq_true rfl⟩) rfl rfl (Nat.le_of_ble_eq_true rfl) dR_finish_14 (fun M12 p13 => ?_)
    refine wx_aload_n F 1 dR_finish_17 rfl rfl ?_
    refine wx_get (ci := 4) (C := qnR) (T := TR) (N := 25) (v := .int (M12 0 19)) F 0 (Nat.le_of_ble_eq_true rfl) rfl rfl hiR 19 (by decide) rfl lfR_112 rfl dR_finish_18 ?_
    refine wx_if_ne (tgt := 74) F dR_finish_21 (by decide) (fun g14 => ?_) (fun g14 => ?_)
    · refine wx_aload_n F 1 dR_finish_74 rfl rfl ?_
      refine wx_iload_n F 0 dR_finish_75 rfl rfl ?_
      refine wx_iload_n F 2 dR_finish_76 rfl rfl ?_
      refine wx_iload_n F 3 dR_finish_77 rfl rfl ?_
      refine wx_iconst (v := 0) F dR_finish_78 (by decide) ?_
      obtain ⟨po15, c16, h17⟩ := (h10 M12 p13).1 g14
      refine wx_calli F 0 c16 (Nat.le_of_ble_eq_true rfl) rfl rfl (cw_V F.1.2.2.2.2 lmR_151 cbR_end rfl rfl ⟨by rw [hR]; exact Nat.le_of_ble_eq_true rfl, by rw [hR]; exact Nat.le_of_ble_eq_true rfl⟩) rfl rfl (Nat.le_of_ble_eq_true rfl) dR_finish_79 (fun r18 M19 p20 => ?_)
      refine wx_istore (lv' := [(4, .int r18), (3, .int r4), (0, .ref (a 0)), (1, .int x1), (2, .int x2)]) F dR_finish_82 (by decide) rfl ?_
      refine wx_aload_n F 2 dR_finish_84 rfl rfl ?_
      obtain ⟨po21, c22, h23⟩ := h17 r18 M19 p20
      refine wx_callv F 0 c22 (Nat.le_of_ble_eq_true rfl) rfl rfl (cw_V F.1.2.2.2.2 lmR_155 cbR_settle rfl rfl ⟨by rw [hR]; exact Nat.le_of_ble_eq_true rfl, by rw [hR]; exact Nat.le_of_ble_eq_true rfl⟩) rfl rfl (Nat.le_of_ble_eq_true rfl) dR_finish_85 (fun M25 p26 => ?_)
      refine wx_iload F 0 dR_finish_88 rfl ?_
      exact wx_iret F dR_finish_90 (h23 M25 p26)
    · refine wx_aload_n F 1 dR_finish_24 rfl rfl ?_
      refine wx_get (ci := 4) (C := qnR) (T := TR) (N := 25) (v := .ref (a 1)) F 0 (Nat.le_of_ble_eq_true rfl) rfl rfl hiR 2 (by decide) rfl lfR_7 rfl dR_finish_25 ?_
      refine wx_iload_n F 0 dR_finish_28 rfl rfl ?_
      obtain ⟨j27, e28, b29, h30⟩ := (h10 M12 p13).2 g14
      refine wx_iald (N := 24) F 1 (Nat.le_of_ble_eq_true rfl) rfl 0 rfl e28 b29 (by omega) dR_finish_29 ?_
      refine wx_iconst (v := 2) F dR_finish_30 (by decide) ?_
      refine wx_icmp_lt (tgt := 74) F dR_finish_31 (by decide) (fun g31 => ?_) (fun g31 => ?_)
      · refine wx_aload_n F 1 dR_finish_74 rfl rfl ?_
        refine wx_iload_n F 0 dR_finish_75 rfl rfl ?_
        refine wx_iload_n F 2 dR_finish_76 rfl rfl ?_
        refine wx_iload_n F 3 dR_finish_77 rfl rfl ?_
        refine wx_iconst (v := 0) F dR_finish_78 (by decide) ?_
        obtain ⟨po32, c33, h34⟩ := (h30).1 g31
        refine wx_calli F 0 c33 (Nat.le_of_ble_eq_true rfl) rfl rfl (cw_V F.1.2.2.2.2 lmR_151 cbR_end rfl rfl ⟨by rw [hR]; exact Nat.le_of_ble_eq_true rfl, by rw [hR]; exact Nat.le_of_ble_eq_true rfl⟩) rfl rfl (Nat.le_of_ble_eq_true rfl) dR_finish_79 (fun r35 M36 p37 => ?_)
        refine wx_istore (lv' := [(4, .int r35), (3, .int r4), (0, .ref (a 0)), (1, .int x1), (2, .int x2)]) F dR_finish_82 (by decide) rfl ?_
        refine wx_aload_n F 2 dR_finish_84 rfl rfl ?_
        obtain ⟨po38, c39, h40⟩ := h34 r35 M36 p37
        refine wx_callv F 0 c39 (Nat.le_of_ble_eq_true rfl) rfl rfl (cw_V F.1.2.2.2.2 lmR_155 cbR_settle rfl rfl ⟨by rw [hR]; exact Nat.le_of_ble_eq_true rfl, by rw [hR]; exact Nat.le_of_ble_eq_true rfl⟩) rfl rfl (Nat.le_of_ble_eq_true rfl) dR_finish_85 (fun M42 p43 => ?_)
        refine wx_iload F 0 dR_finish_88 rfl ?_
        exact wx_iret F dR_finish_90 (h40 M42 p43)
      · refine wx_aload_n F 1 dR_finish_34 rfl rfl ?_
        refine wx_get (ci := 4) (C := qnR) (T := TR) (N := 25) (v := .ref (a 10)) F 0 (Nat.le_of_ble_eq_true rfl) rfl rfl hiR 11 (by decide) rfl lfR_37 rfl dR_finish_35 ?_
        refine wx_iload_n F 0 dR_finish_38 rfl rfl ?_
        refine wx_iconst (v := 0) F dR_finish_39 (by decide) ?_
        refine wx_zast (N := 24) F 10 (Nat.le_of_ble_eq_true rfl) (fun _ => rfl) 1 rfl e28 b29 (by omega) rfl dR_finish_40 (wx_nm (fun M44 e45 => ?_))
        refine wx_aload_n F 1 dR_finish_41 rfl rfl ?_
        refine wx_iload_n F 0 dR_finish_42 rfl rfl ?_
        refine wx_iload_n F 2 dR_finish_43 rfl rfl ?_
        obtain ⟨po46, c47, h48⟩ := ((h30).2 g31) M44 e45
        refine wx_callv F 0 c47 (Nat.le_of_ble_eq_true rfl) rfl rfl (cw_V F.1.2.2.2.2 lmR_102 cbR_wake rfl rfl ⟨by rw [hR]; exact Nat.le_of_ble_eq_true rfl, by rw [hR]; exact Nat.le_of_ble_eq_true rfl⟩) rfl rfl (Nat.le_of_ble_eq_true rfl) dR_finish_44 (fun M50 p51 => ?_)
        refine wx_aload_n F 1 dR_finish_47 rfl rfl ?_
        refine wx_get (ci := 4) (C := qnR) (T := TR) (N := 25) (v := .ref (a 1)) F 0 (Nat.le_of_ble_eq_true rfl) rfl rfl hiR 2 (by decide) rfl lfR_7 rfl dR_finish_48 ?_
        refine wx_iload_n F 0 dR_finish_51 rfl rfl ?_
        refine wx_iald (N := 24) F 1 (Nat.le_of_ble_eq_true rfl) rfl 0 rfl e28 b29 (by omega) dR_finish_52 ?_
        refine wx_iconst (v := 2) F dR_finish_53 (by decide) ?_
        refine wx_icmp_ne (tgt := 74) F dR_finish_54 (by decide) (fun g52 => ?_) (fun g52 => ?_)
        · refine wx_aload_n F 1 dR_finish_74 rfl rfl ?_
          refine wx_iload_n F 0 dR_finish_75 rfl rfl ?_
          refine wx_iload_n F 2 dR_finish_76 rfl rfl ?_
          refine wx_iload_n F 3 dR_finish_77 rfl rfl ?_
          refine wx_iconst (v := 0) F dR_finish_78 (by decide) ?_
          obtain ⟨po53, c54, h55⟩ := (h48 M50 p51).1 g52
          refine wx_calli F 0 c54 (Nat.le_of_ble_eq_true rfl) rfl rfl (cw_V F.1.2.2.2.2 lmR_151 cbR_end rfl rfl ⟨by rw [hR]; exact Nat.le_of_ble_eq_true rfl, by rw [hR]; exact Nat.le_of_ble_eq_true rfl⟩) rfl rfl (Nat.le_of_ble_eq_true rfl) dR_finish_79 (fun r56 M57 p58 => ?_)
          refine wx_istore (lv' := [(4, .int r56), (3, .int r4), (0, .ref (a 0)), (1, .int x1), (2, .int x2)]) F dR_finish_82 (by decide) rfl ?_
          refine wx_aload_n F 2 dR_finish_84 rfl rfl ?_
          obtain ⟨po59, c60, h61⟩ := h55 r56 M57 p58
          refine wx_callv F 0 c60 (Nat.le_of_ble_eq_true rfl) rfl rfl (cw_V F.1.2.2.2.2 lmR_155 cbR_settle rfl rfl ⟨by rw [hR]; exact Nat.le_of_ble_eq_true rfl, by rw [hR]; exact Nat.le_of_ble_eq_true rfl⟩) rfl rfl (Nat.le_of_ble_eq_true rfl) dR_finish_85 (fun M63 p64 => ?_)
          refine wx_iload F 0 dR_finish_88 rfl ?_
          exact wx_iret F dR_finish_90 (h61 M63 p64)
        · refine wx_aload_n F 1 dR_finish_57 rfl rfl ?_
          refine wx_iload_n F 0 dR_finish_58 rfl rfl ?_
          obtain ⟨po65, c66, h67⟩ := (h48 M50 p51).2 g52
          refine wx_calli F 0 c66 (Nat.le_of_ble_eq_true rfl) rfl rfl (cw_V F.1.2.2.2.2 lmR_144 cbR_activeChild rfl rfl ⟨by rw [hR]; exact Nat.le_of_ble_eq_true rfl, by rw [hR]; exact Nat.le_of_ble_eq_true rfl⟩) rfl rfl (Nat.le_of_ble_eq_true rfl) dR_finish_59 (fun r68 M69 p70 => ?_)
          refine wx_if_eq (tgt := 74) F dR_finish_62 (by decide) (fun g71 => ?_) (fun g71 => ?_)
          · refine wx_aload_n F 1 dR_finish_74 rfl rfl ?_
            refine wx_iload_n F 0 dR_finish_75 rfl rfl ?_
            refine wx_iload_n F 2 dR_finish_76 rfl rfl ?_
            refine wx_iload_n F 3 dR_finish_77 rfl rfl ?_
            refine wx_iconst (v := 0) F dR_finish_78 (by decide) ?_
            obtain ⟨po72, c73, h74⟩ := (h67 r68 M69 p70).1 g71
            refine wx_calli F 0 c73 (Nat.le_of_ble_eq_true rfl) rfl rfl (cw_V F.1.2.2.2.2 lmR_151 cbR_end rfl rfl ⟨by rw [hR]; exact Nat.le_of_ble_eq_true rfl, by rw [hR]; exact Nat.le_of_ble_eq_true rfl⟩) rfl rfl (Nat.le_of_ble_eq_true rfl) dR_finish_79 (fun r75 M76 p77 => ?_)
            refine wx_istore (lv' := [(4, .int r75), (3, .int r4), (0, .ref (a 0)), (1, .int x1), (2, .int x2)]) F dR_finish_82 (by decide) rfl ?_
            refine wx_aload_n F 2 dR_finish_84 rfl rfl ?_
            obtain ⟨po78, c79, h80⟩ := h74 r75 M76 p77
            refine wx_callv F 0 c79 (Nat.le_of_ble_eq_true rfl) rfl rfl (cw_V F.1.2.2.2.2 lmR_155 cbR_settle rfl rfl ⟨by rw [hR]; exact Nat.le_of_ble_eq_true rfl, by rw [hR]; exact Nat.le_of_ble_eq_true rfl⟩) rfl rfl (Nat.le_of_ble_eq_true rfl) dR_finish_85 (fun M82 p83 => ?_)
            refine wx_iload F 0 dR_finish_88 rfl ?_
            exact wx_iret F dR_finish_90 (h80 M82 p83)
          · refine wx_aload_n F 1 dR_finish_65 rfl rfl ?_
            refine wx_get (ci := 4) (C := qnR) (T := TR) (N := 25) (v := .ref (a 5)) F 0 (Nat.le_of_ble_eq_true rfl) rfl rfl hiR 6 (by decide) rfl lfR_22 rfl dR_finish_66 ?_
            refine wx_iload_n F 0 dR_finish_69 rfl rfl ?_
            refine wx_iconst (v := 2) F dR_finish_70 (by decide) ?_
            refine wx_iast (N := 24) F 5 (Nat.le_of_ble_eq_true rfl) (fun _ => rfl) 0 rfl e28 b29 (by omega) dR_finish_71 (wx_nm (fun M84 e85 => ?_))
            refine wx_iconst (v := 0) F dR_finish_72 (by decide) ?_
            exact wx_iret F dR_finish_73 (((h67 r68 M69 p70).2 g71) M84 e85)
  · refine wx_iconst (v := (-1)) F dR_finish_10 (by decide) ?_
    exact wx_iret F dR_finish_11 ((h3 r4 M5 p6).2 g7)
theorem oR_finish {l : Launch} {D : va_G} {cI cZ : ClassId} {a : Nat → Nat} {post : Int32 → MM → Prop} (hJ : IJ (sM D cI cZ a)) {M : MM} {x1 x2 : Int32} (h : ∃ po1 : Int32 → MM → Prop, Ci l (sM D cI cZ a) yR_running wR_running rmR_running [.ref (a 0), .int x1] M po1 ∧ ∀ (r4 : Int32) (M5 : MM), po1 r4 M5 → ((0 ≤ r4 → (∃ po8 : MM → Prop, Cv l (sM D cI cZ a) yR_release wR_release rmR_release [.ref (a 0), .int r4] M5 po8 ∧ ∀ (M12 : MM), po8 M12 → ((¬ (M12 0 19) = 0 → (∃ po15 : Int32 → MM → Prop, Ci l (sM D cI cZ a) yR_end wR_end rmR_end [.ref (a 0), .int r4, .int x1, .int x2, .int 0] M12 po15 ∧ ∀ (r18 : Int32) (M19 : MM), po15 r18 M19 → (∃ po21 : MM → Prop, Cv l (sM D cI cZ a) yR_settle wR_settle rmR_settle [.ref (a 0)] M19 po21 ∧ ∀ (M25 : MM), po21 M25 → (post r18 M25)))) ∧ ((M12 0 19) = 0 → (∃ j27 : Nat, r4 = nI j27 ∧ j27 < 24 ∧ (((M12 1 j27) < 2 → (∃ po32 : Int32 → MM → Prop, Ci l (sM D cI cZ a) yR_end wR_end rmR_end [.ref (a 0), .int r4, .int x1, .int x2, .int 0] M12 po32 ∧ ∀ (r35 : Int32) (M36 : MM), po32 r35 M36 → (∃ po38 : MM → Prop, Cv l (sM D cI cZ a) yR_settle wR_settle rmR_settle [.ref (a 0)] M36 po38 ∧ ∀ (M42 : MM), po38 M42 → (post r35 M42)))) ∧ (¬ (M12 1 j27) < 2 → (∀ M44 : MM, M44 = mp M12 10 j27 0 → (∃ po46 : MM → Prop, Cv l (sM D cI cZ a) yR_wake wR_wake rmR_wake [.ref (a 0), .int r4, .int x1] M44 po46 ∧ ∀ (M50 : MM), po46 M50 → ((¬ (M50 1 j27) = 2 → (∃ po53 : Int32 → MM → Prop, Ci l (sM D cI cZ a) yR_end wR_end rmR_end [.ref (a 0), .int r4, .int x1, .int x2, .int 0] M50 po53 ∧ ∀ (r56 : Int32) (M57 : MM), po53 r56 M57 → (∃ po59 : MM → Prop, Cv l (sM D cI cZ a) yR_settle wR_settle rmR_settle [.ref (a 0)] M57 po59 ∧ ∀ (M63 : MM), po59 M63 → (post r56 M63)))) ∧ ((M50 1 j27) = 2 → (∃ po65 : Int32 → MM → Prop, Ci l (sM D cI cZ a) yR_activeChild wR_activeChild rmR_activeChild [.ref (a 0), .int r4] M50 po65 ∧ ∀ (r68 : Int32) (M69 : MM), po65 r68 M69 → ((r68 = 0 → (∃ po72 : Int32 → MM → Prop, Ci l (sM D cI cZ a) yR_end wR_end rmR_end [.ref (a 0), .int r4, .int x1, .int x2, .int 0] M69 po72 ∧ ∀ (r75 : Int32) (M76 : MM), po72 r75 M76 → (∃ po78 : MM → Prop, Cv l (sM D cI cZ a) yR_settle wR_settle rmR_settle [.ref (a 0)] M76 po78 ∧ ∀ (M82 : MM), po78 M82 → (post r75 M82)))) ∧ (¬ r68 = 0 → (∀ M84 : MM, M84 = mp M69 5 j27 2 → (post 0 M84)))))))))))))))) ∧ (¬ 0 ≤ r4 → (post (-1) M5)))) : Ci l (sM D cI cZ a) yR_finish wR_finish rmR_finish [.ref (a 0), .int x1, .int x2] M post := Ci.of (cc := cR_finish) (nL := 5) rfl rfl (Nat.le_of_ble_eq_true rfl) hJ (fun G hl hR F => by subst hl; exact sR_finish_0 F hR h)
set_option maxRecDepth 20000 in
theorem sR_fail_0 {G : CX} {D : va_G} {cI cZ : ClassId} {a : Nat → Nat} {post : Int32 → MM → Prop} (F : FX G (sM D cI cZ a) cR_fail 4 qnR (some .int)) (hR : gR G = rmR_fail) {M : MM} {x1 : Int32} (h : ∃ po1 : Int32 → MM → Prop, Ci (gl G) (sM D cI cZ a) yR_running wR_running rmR_running [.ref (a 0), .int x1] M po1 ∧ ∀ (r4 : Int32) (M5 : MM), po1 r4 M5 → ((0 ≤ r4 → ((0 ≤ (M5 0 20) → (∀ M9 : MM, M9 = mp M5 0 20 (M5 0 20) → (∃ po11 : MM → Prop, Cv (gl G) (sM D cI cZ a) yR_release wR_release rmR_release [.ref (a 0), .int r4] M9 po11 ∧ ∀ (M15 : MM), po11 M15 → (∃ po17 : Int32 → MM → Prop, Ci (gl G) (sM D cI cZ a) yR_end wR_end rmR_end [.ref (a 0), .int r4, .int x1, .int 0, .int 1] M15 po17 ∧ ∀ (r20 : Int32) (M21 : MM), po17 r20 M21 → (∃ po23 : MM → Prop, Cv (gl G) (sM D cI cZ a) yR_settle wR_settle rmR_settle [.ref (a 0)] M21 po23 ∧ ∀ (M27 : MM), po23 M27 → (post r20 M27)))))) ∧ (¬ 0 ≤ (M5 0 20) → (∀ M29 : MM, M29 = mp M5 0 20 r4 → (∃ po31 : MM → Prop, Cv (gl G) (sM D cI cZ a) yR_release wR_release rmR_release [.ref (a 0), .int r4] M29 po31 ∧ ∀ (M35 : MM), po31 M35 → (∃ po37 : Int32 → MM → Prop, Ci (gl G) (sM D cI cZ a) yR_end wR_end rmR_end [.ref (a 0), .int r4, .int x1, .int 0, .int 1] M35 po37 ∧ ∀ (r40 : Int32) (M41 : MM), po37 r40 M41 → (∃ po43 : MM → Prop, Cv (gl G) (sM D cI cZ a) yR_settle wR_settle rmR_settle [.ref (a 0)] M41 po43 ∧ ∀ (M47 : MM), po43 M47 → (post r40 M47)))))))) ∧ (¬ 0 ≤ r4 → (post (-1) M5)))) : wx G (sM D cI cZ a) 4 (Qxi G (sM D cI cZ a) post) M 0 [(0, .ref (a 0)), (1, .int x1)] [] := by
  refine wx_aload_n F 0 dR_fail_0 rfl rfl ?_
  refine wx_iload_n F 1 dR_fail_1 rfl rfl ?_
  obtain ⟨po1, c2, h3⟩ := h
  refine wx_calli F 0 c2 (Nat.le_of_ble_eq_true rfl) rfl rfl (cw_V F.1.2.2.2.2 lmR_131 cbR_running rfl rfl ⟨by rw [hR]; exact Nat.le_of_ble_eq_true rfl, by rw [hR]; exact Nat.le_of_ble_eq_true rfl⟩) rfl rfl (Nat.le_of_ble_eq_true rfl) dR_fail_2 (fun r4 M5 p6 => ?_)
  refine wx_istore_n (lv' := [(2, .int r4), (0, .ref (a 0)), (1, .int x1)]) F dR_fail_5 rfl (by decide) rfl ?_
  refine wx_iload_n F 0 dR_fail_6 rfl rfl ?_
  refine wx_if_ge (tgt := 12) F dR_fail_7 (by decide) (fun g7 => ?_) (fun g7 => ?_)
  · refine wx_aload_n F 1 dR_fail_12 rfl rfl ?_
    refine wx_aload_n F 1 dR_fail_13 rfl rfl ?_
    refine wx_get (ci := 4) (C := qnR) (T := TR) (N := 25) (v := .int (M5 0 20)) F 0 (Nat.le_of_ble_eq_true rfl) rfl rfl hiR 20 (by decide) rfl lfR_53 rfl dR_fail_14 ?_
    refine wx_if_ge (tgt := 24) F dR_fail_17 (by decide) (fun g8 => ?_) (fun g8 => ?_)
    · refine wx_aload_n F 1 dR_fail_24 rfl rfl ?_
      refine wx_get (ci := 4) (C := qnR) (T := TR) (N := 25) (v := .int (M5 0 20)) F 0 (Nat.le_of_ble_eq_true rfl) rfl rfl hiR 20 (by decide) rfl lfR_53 rfl dR_fail_25 ?_
      refine wx_put (ci := 4) (C := qnR) (T := TR) (N := 25) (ty := .int) F 0 (Nat.le_of_ble_eq_true rfl) rfl rfl hiR tyR tyR_ok nmR 20 (by decide) rfl lfR_53 rfl (by decide +kernel) rfl rfl (Nat.le_of_ble_eq_true rfl) rfl dR_fail_28 (wx_nm (fun M9 e10 => ?_))
      refine wx_aload_n F 1 dR_fail_31 rfl rfl ?_
      refine wx_iload_n F 0 dR_fail_32 rfl rfl ?_
      obtain ⟨po11, c12, h13⟩ := (((h3 r4 M5 p6).1 g7).1 g8) M9 e10
      refine wx_callv F 0 c12 (Nat.le_of_ble_eq_true rfl) rfl rfl (cw_V F.1.2.2.2.2 lmR_147 cbR_release rfl rfl ⟨by rw [hR]; exact Nat.le_of_ble_eq_true rfl, by rw [hR]; exact Nat.le_of_ble_eq_true rfl⟩) rfl rfl (Nat.le_of_ble_eq_true rfl) dR_fail_33 (fun M15 p16 => ?_)
      refine wx_aload_n F 1 dR_fail_36 rfl rfl ?_
      refine wx_iload_n F 0 dR_fail_37 rfl rfl ?_
      refine wx_iload_n F 2 dR_fail_38 rfl rfl ?_
      refine wx_iconst (v := 0) F dR_fail_39 (by decide) ?_
      refine wx_iconst (v := 1) F dR_fail_40 (by decide) ?_
      obtain ⟨po17, c18, h19⟩ := h13 M15 p16
      refine wx_calli F 0 c18 (Nat.le_of_ble_eq_true rfl) rfl rfl (cw_V F.1.2.2.2.2 lmR_151 cbR_end rfl rfl ⟨by rw [hR]; exact Nat.le_of_ble_eq_true rfl, by rw [hR]; exact Nat.le_of_ble_eq_true rfl⟩) rfl rfl (Nat.le_of_ble_eq_true rfl) dR_fail_41 (fun r20 M21 p22 => ?_)
      refine wx_istore_n (lv' := [(3, .int r20), (2, .int r4), (0, .ref (a 0)), (1, .int x1)]) F dR_fail_44 rfl (by decide) rfl ?_
      refine wx_aload_n F 2 dR_fail_45 rfl rfl ?_
      obtain ⟨po23, c24, h25⟩ := h19 r20 M21 p22
      refine wx_callv F 0 c24 (Nat.le_of_ble_eq_true rfl) rfl rfl (cw_V F.1.2.2.2.2 lmR_155 cbR_settle rfl rfl ⟨by rw [hR]; exact Nat.le_of_ble_eq_true rfl, by rw [hR]; exact Nat.le_of_ble_eq_true rfl⟩) rfl rfl (Nat.le_of_ble_eq_true rfl) dR_fail_46 (fun M27 p28 => ?_)
      refine wx_iload_n F 0 dR_fail_49 rfl rfl ?_
      exact wx_iret F dR_fail_50 (h25 M27 p28)
    · refine wx_iload_n F 0 dR_fail_20 rfl rfl ?_
      refine wx_goto (tgt := 28) F dR_fail_21 (by decide) ?_
      refine wx_put (ci := 4) (C := qnR) (T := TR) (N := 25) (ty := .int) F 0 (Nat.le_of_ble_eq_true rfl) rfl rfl hiR tyR tyR_ok nmR 20 (by decide) rfl lfR_53 rfl (by decide +kernel) rfl rfl (Nat.le_of_ble_eq_true rfl) rfl dR_fail_28 (wx_nm (fun M29 e30 => ?_))
      refine wx_aload_n F 1 dR_fail_31 rfl rfl ?_
      refine wx_iload_n F 0 dR_fail_32 rfl rfl ?_
      obtain ⟨po31, c32, h33⟩ := (((h3 r4 M5 p6).1 g7).2 g8) M29 e30
      refine wx_callv F 0 c32 (Nat.le_of_ble_eq_true rfl) rfl rfl (cw_V F.1.2.2.2.2 lmR_147 cbR_release rfl rfl ⟨by rw [hR]; exact Nat.le_of_ble_eq_true rfl, by rw [hR]; exact Nat.le_of_ble_eq_true rfl⟩) rfl rfl (Nat.le_of_ble_eq_true rfl) dR_fail_33 (fun M35 p36 => ?_)
      refine wx_aload_n F 1 dR_fail_36 rfl rfl ?_
      refine wx_iload_n F 0 dR_fail_37 rfl rfl ?_
      refine wx_iload_n F 2 dR_fail_38 rfl rfl ?_
      refine wx_iconst (v := 0) F dR_fail_39 (by decide) ?_
      refine wx_iconst (v := 1) F dR_fail_40 (by decide) ?_
      obtain ⟨po37, c38, h39⟩ := h33 M35 p36
      refine wx_calli F 0 c38 (Nat.le_of_ble_eq_true rfl) rfl rfl (cw_V F.1.2.2.2.2 lmR_151 cbR_end rfl rfl ⟨by rw [hR]; exact Nat.le_of_ble_eq_true rfl, by rw [hR]; exact Nat.le_of_ble_eq_true rfl⟩) rfl rfl (Nat.le_of_ble_eq_true rfl) dR_fail_41 (fun r40 M41 p42 => ?_)
      refine wx_istore_n (lv' := [(3, .int r40), (2, .int r4), (0, .ref (a 0)), (1, .int x1)]) F dR_fail_44 rfl (by decide) rfl ?_
      refine wx_aload_n F 2 dR_fail_45 rfl rfl ?_
      obtain ⟨po43, c44, h45⟩ := h39 r40 M41 p42
      refine wx_callv F 0 c44 (Nat.le_of_ble_eq_true rfl) rfl rfl (cw_V F.1.2.2.2.2 lmR_155 cbR_settle rfl rfl ⟨by rw [hR]; exact Nat.le_of_ble_eq_true rfl, by rw [hR]; exact Nat.le_of_ble_eq_true rfl⟩) rfl rfl (Nat.le_of_ble_eq_true rfl) dR_fail_46 (fun M47 p48 => ?_)
      refine wx_iload_n F 0 dR_fail_49 rfl rfl ?_
      exact wx_iret F dR_fail_50 (h45 M47 p48)
  · refine wx_iconst (v := (-1)) F dR_fail_10 (by decide) ?_
    exact wx_iret F dR_fail_11 ((h3 r4 M5 p6).2 g7)
theorem oR_fail {l : Launch} {D : va_G} {cI cZ : ClassId} {a : Nat → Nat} {post : Int32 → MM → Prop} (hJ : IJ (sM D cI cZ a)) {M : MM} {x1 : Int32} (h : ∃ po1 : Int32 → MM → Prop, Ci l (sM D cI cZ a) yR_running wR_running rmR_running [.ref (a 0), .int x1] M po1 ∧ ∀ (r4 : Int32) (M5 : MM), po1 r4 M5 → ((0 ≤ r4 → ((0 ≤ (M5 0 20) → (∀ M9 : MM, M9 = mp M5 0 20 (M5 0 20) → (∃ po11 : MM → Prop, Cv l (sM D cI cZ a) yR_release wR_release rmR_release [.ref (a 0), .int r4] M9 po11 ∧ ∀ (M15 : MM), po11 M15 → (∃ po17 : Int32 → MM → Prop, Ci l (sM D cI cZ a) yR_end wR_end rmR_end [.ref (a 0), .int r4, .int x1, .int 0, .int 1] M15 po17 ∧ ∀ (r20 : Int32) (M21 : MM), po17 r20 M21 → (∃ po23 : MM → Prop, Cv l (sM D cI cZ a) yR_settle wR_settle rmR_settle [.ref (a 0)] M21 po23 ∧ ∀ (M27 : MM), po23 M27 → (post r20 M27)))))) ∧ (¬ 0 ≤ (M5 0 20) → (∀ M29 : MM, M29 = mp M5 0 20 r4 → (∃ po31 : MM → Prop, Cv l (sM D cI cZ a) yR_release wR_release rmR_release [.ref (a 0), .int r4] M29 po31 ∧ ∀ (M35 : MM), po31 M35 → (∃ po37 : Int32 → MM → Prop, Ci l (sM D cI cZ a) yR_end wR_end rmR_end [.ref (a 0), .int r4, .int x1, .int 0, .int 1] M35 po37 ∧ ∀ (r40 : Int32) (M41 : MM), po37 r40 M41 → (∃ po43 : MM → Prop, Cv l (sM D cI cZ a) yR_settle wR_settle rmR_settle [.ref (a 0)] M41 po43 ∧ ∀ (M47 : MM), po43 M47 → (post r40 M47)))))))) ∧ (¬ 0 ≤ r4 → (post (-1) M5)))) : Ci l (sM D cI cZ a) yR_fail wR_fail rmR_fail [.ref (a 0), .int x1] M post := Ci.of (cc := cR_fail) (nL := 4) rfl rfl (Nat.le_of_ble_eq_true rfl) hJ (fun G hl hR F => by subst hl; exact sR_fail_0 F hR h)
set_option maxRecDepth 20000 in
theorem sR_cancel_0 {G : CX} {D : va_G} {cI cZ : ClassId} {a : Nat → Nat} {post : Int32 → MM → Prop} (F : FX G (sM D cI cZ a) cR_cancel 4 qnR (some .int)) (hR : gR G = rmR_cancel) {K25 : MM → Int32 → Int32 → Prop} (hK25 : ∀ (M : MM) (x1 x2 : Int32), K25 M x1 x2 → wx G (sM D cI cZ a) 4 (Qxi G (sM D cI cZ a) post) M 25 [(0, .ref (a 0)), (1, .int x1), (2, .int x2)] []) {M : MM} (h : ((M 0 18) = 0 → (post (-1) M)) ∧ (¬ (M 0 18) = 0 → (((M 0 19) = 0 → (∀ M3 : MM, M3 = mp M 0 19 1 → (K25 M3 0 0))) ∧ (¬ (M 0 19) = 0 → (post (-1) M))))) : wx G (sM D cI cZ a) 4 (Qxi G (sM D cI cZ a) post) M 0 [(0, .ref (a 0))] [] := by
  refine wx_aload_n F 0 dR_cancel_0 rfl rfl ?_
  refine wx_get (ci := 4) (C := qnR) (T := TR) (N := 25) (v := .int (M 0 18)) F 0 (Nat.le_of_ble_eq_true rfl) rfl rfl hiR 18 (by decide) rfl lfR_67 rfl dR_cancel_1 ?_
  refine wx_if_eq (tgt := 14) F dR_cancel_4 (by decide) (fun g1 => ?_) (fun g1 => ?_)
  · refine wx_iconst (v := (-1)) F dR_cancel_14 (by decide) ?_
    exact wx_iret F dR_cancel_15 ((h).1 g1)
  · refine wx_aload_n F 0 dR_cancel_7 rfl rfl ?_
    refine wx_get (ci := 4) (C := qnR) (T := TR) (N := 25) (v := .int (M 0 19)) F 0 (Nat.le_of_ble_eq_true rfl) rfl rfl hiR 19 (by decide) rfl lfR_112 rfl dR_cancel_8 ?_
    refine wx_if_eq (tgt := 16) F dR_cancel_11 (by decide) (fun g2 => ?_) (fun g2 => ?_)
    · refine wx_aload_n F 0 dR_cancel_16 rfl rfl ?_
      refine wx_iconst (v := 1) F dR_cancel_17 (by decide) ?_
      refine wx_put (ci := 4) (C := qnR) (T := TR) (N := 25) (ty := .boolean) F 0 (Nat.le_of_ble_eq_true rfl) rfl rfl hiR tyR tyR_ok nmR 19 (by decide) rfl lfR_112 rfl (by decide +kernel) rfl rfl (Nat.le_of_ble_eq_true rfl) rfl dR_cancel_18 (wx_nm (fun M3 e4 => ?_))
      refine wx_iconst (v := 0) F dR_cancel_21 (by decide) ?_
      refine wx_istore_n (lv' := [(1, .int 0), (0, .ref (a 0))]) F dR_cancel_22 rfl (by decide) rfl ?_
      refine wx_iconst (v := 0) F dR_cancel_23 (by decide) ?_
      refine wx_istore_n (lv' := [(2, .int 0), (1, .int 0), (0, .ref (a 0))]) F dR_cancel_24 rfl (by decide) rfl ?_
      exact wx_lv [2, 1, 0] rfl (hK25 _ _ _ ((((h).2 g1).1 g2) M3 e4))
    · refine wx_iconst (v := (-1)) F dR_cancel_14 (by decide) ?_
      exact wx_iret F dR_cancel_15 (((h).2 g1).2 g2)
set_option maxRecDepth 20000 in
theorem sR_cancel_25 {G : CX} {D : va_G} {cI cZ : ClassId} {a : Nat → Nat} {post : Int32 → MM → Prop} (F : FX G (sM D cI cZ a) cR_cancel 4 qnR (some .int)) (hR : gR G = rmR_cancel) {K25 : MM → Int32 → Int32 → Prop} (hK25 : ∀ (M : MM) (x1 x2 : Int32), K25 M x1 x2 → wx G (sM D cI cZ a) 4 (Qxi G (sM D cI cZ a) post) M 25 [(0, .ref (a 0)), (1, .int x1), (2, .int x2)] []) {K72 : MM → Int32 → Int32 → Prop} (hK72 : ∀ (M : MM) (x1 x2 : Int32), K72 M x1 x2 → wx G (sM D cI cZ a) 4 (Qxi G (sM D cI cZ a) post) M 72 [(0, .ref (a 0)), (1, .int x1), (2, .int x2)] []) {M : MM} {x1 x2 : Int32} (h : ((M 0 1) ≤ x2 → (K72 M x1 0)) ∧ (¬ (M 0 1) ≤ x2 → (∃ j2 : Nat, x2 = nI j2 ∧ j2 < 24 ∧ (((M 5 j2) = 4 → (∀ M7 : MM, M7 = mp M 5 j2 0 → (K25 M7 (x1 + 1) (x2 + 1)))) ∧ (¬ (M 5 j2) = 4 → ((¬ (M 5 j2) = 1 → (K25 M x1 (x2 + 1))) ∧ ((M 5 j2) = 1 → (∀ M10 : MM, M10 = mp M 5 j2 0 → (K25 M10 (x1 + 1) (x2 + 1)))))))))) : wx G (sM D cI cZ a) 4 (Qxi G (sM D cI cZ a) post) M 25 [(0, .ref (a 0)), (1, .int x1), (2, .int x2)] [] := by
  refine wx_iload_n F 2 dR_cancel_25 rfl rfl ?_
  refine wx_aload_n F 0 dR_cancel_26 rfl rfl ?_
  refine wx_get (ci := 4) (C := qnR) (T := TR) (N := 25) (v := .int (M 0 1)) F 0 (Nat.le_of_ble_eq_true rfl) rfl rfl hiR 1 (by decide) rfl lfR_60 rfl dR_cancel_27 ?_
  refine wx_icmp_ge (tgt := 70) F dR_cancel_30 (by decide) (fun g1 => ?_) (fun g1 => ?_)
  · refine wx_iconst (v := 0) F dR_cancel_70 (by decide) ?_
    refine wx_istore_n (lv' := [(2, .int 0), (0, .ref (a 0)), (1, .int x1)]) F dR_cancel_71 rfl (by decide) rfl ?_
    exact wx_lv [1, 2, 0] rfl (hK72 _ _ _ ((h).1 g1))
  · refine wx_aload_n F 0 dR_cancel_33 rfl rfl ?_
    refine wx_get (ci := 4) (C := qnR) (T := TR) (N := 25) (v := .ref (a 5)) F 0 (Nat.le_of_ble_eq_true rfl) rfl rfl hiR 6 (by decide) rfl lfR_22 rfl dR_cancel_34 ?_
    refine wx_iload_n F 2 dR_cancel_37 rfl rfl ?_
    obtain ⟨j2, e3, b4, h5⟩ := (h).2 g1
    refine wx_iald (N := 24) F 5 (Nat.le_of_ble_eq_true rfl) rfl 0 rfl e3 b4 (by omega) dR_cancel_38 ?_
    refine wx_iconst (v := 4) F dR_cancel_39 (by decide) ?_
    refine wx_icmp_eq (tgt := 53) F dR_cancel_40 (by decide) (fun g6 => ?_) (fun g6 => ?_)
    · refine wx_aload_n F 0 dR_cancel_53 rfl rfl ?_
      refine wx_get (ci := 4) (C := qnR) (T := TR) (N := 25) (v := .ref (a 5)) F 0 (Nat.le_of_ble_eq_true rfl) rfl rfl hiR 6 (by decide) rfl lfR_22 rfl dR_cancel_54 ?_
      refine wx_iload_n F 2 dR_cancel_57 rfl rfl ?_
      refine wx_iconst (v := 0) F dR_cancel_58 (by decide) ?_
      refine wx_iast (N := 24) F 5 (Nat.le_of_ble_eq_true rfl) (fun _ => rfl) 0 rfl e3 b4 (by omega) dR_cancel_59 (wx_nm (fun M7 e8 => ?_))
      refine wx_iload_n F 1 dR_cancel_60 rfl rfl ?_
      refine wx_iconst (v := 1) F dR_cancel_61 (by decide) ?_
      refine wx_iadd F dR_cancel_62 ?_
      refine wx_istore_n (lv' := [(1, .int (x1 + 1)), (0, .ref (a 0)), (2, .int x2)]) F dR_cancel_63 rfl (by decide) rfl ?_
      refine wx_iinc (lv' := [(2, .int (x2 + 1)), (1, .int (x1 + 1)), (0, .ref (a 0))]) F 2 dR_cancel_64 rfl (ii1 _) (by decide) rfl ?_
      refine wx_goto (tgt := 25) F dR_cancel_67 (by decide) ?_
      exact wx_lv [2, 1, 0] rfl (hK25 _ _ _ (((h5).1 g6) M7 e8))
    · refine wx_aload_n F 0 dR_cancel_43 rfl rfl ?_
      refine wx_get (ci := 4) (C := qnR) (T := TR) (N := 25) (v := .ref (a 5)) F 0 (Nat.le_of_ble_eq_true rfl) rfl rfl hiR 6 (by decide) rfl lfR_22 rfl dR_cancel_44 ?_
      refine wx_iload_n F 2 dR_cancel_47 rfl rfl ?_
      refine wx_iald (N := 24) F 5 (Nat.le_of_ble_eq_true rfl) rfl 0 rfl e3 b4 (by omega) dR_cancel_48 ?_
      refine wx_iconst (v := 1) F dR_cancel_49 (by decide) ?_
      refine wx_icmp_ne (tgt := 64) F dR_cancel_50 (by decide) (fun g9 => ?_) (fun g9 => ?_)
      · refine wx_iinc (lv' := [(2, .int (x2 + 1)), (0, .ref (a 0)), (1, .int x1)]) F 2 dR_cancel_64 rfl (ii1 _) (by decide) rfl ?_
        refine wx_goto (tgt := 25) F dR_cancel_67 (by decide) ?_
        exact wx_lv [1, 2, 0] rfl (hK25 _ _ _ (((h5).2 g6).1 g9))
      · refine wx_aload_n F 0 dR_cancel_53 rfl rfl ?_
        refine wx_get (ci := 4) (C := qnR) (T := TR) (N := 25) (v := .ref (a 5)) F 0 (Nat.le_of_ble_eq_true rfl) rfl rfl hiR 6 (by decide) rfl lfR_22 rfl dR_cancel_54 ?_
        refine wx_iload_n F 2 dR_cancel_57 rfl rfl ?_
        refine wx_iconst (v := 0) F dR_cancel_58 (by decide) ?_
        refine wx_iast (N := 24) F 5 (Nat.le_of_ble_eq_true rfl) (fun _ => rfl) 0 rfl e3 b4 (by omega) dR_cancel_59 (wx_nm (fun M10 e11 => ?_))
        refine wx_iload_n F 1 dR_cancel_60 rfl rfl ?_
        refine wx_iconst (v := 1) F dR_cancel_61 (by decide) ?_
        refine wx_iadd F dR_cancel_62 ?_
        refine wx_istore_n (lv' := [(1, .int (x1 + 1)), (0, .ref (a 0)), (2, .int x2)]) F dR_cancel_63 rfl (by decide) rfl ?_
        refine wx_iinc (lv' := [(2, .int (x2 + 1)), (1, .int (x1 + 1)), (0, .ref (a 0))]) F 2 dR_cancel_64 rfl (ii1 _) (by decide) rfl ?_
        refine wx_goto (tgt := 25) F dR_cancel_67 (by decide) ?_
        exact wx_lv [2, 1, 0] rfl (hK25 _ _ _ ((((h5).2 g6).2 g9) M10 e11))
set_option maxRecDepth 20000 in
theorem sR_cancel_72 {G : CX} {D : va_G} {cI cZ : ClassId} {a : Nat → Nat} {post : Int32 → MM → Prop} (F : FX G (sM D cI cZ a) cR_cancel 4 qnR (some .int)) (hR : gR G = rmR_cancel) {K79 : MM → Int32 → Int32 → Int32 → Prop} (hK79 : ∀ (M : MM) (x1 x2 x3 : Int32), K79 M x1 x2 x3 → wx G (sM D cI cZ a) 4 (Qxi G (sM D cI cZ a) post) M 79 [(0, .ref (a 0)), (1, .int x1), (2, .int x2), (3, .int x3)] []) {M : MM} {x1 x2 : Int32} (h : (4 ≤ x2 → (∃ po2 : MM → Prop, Cv (gl G) (sM D cI cZ a) yR_settle wR_settle rmR_settle [.ref (a 0)] M po2 ∧ ∀ (M6 : MM), po2 M6 → (post x1 M6))) ∧ (¬ 4 ≤ x2 → (K79 M x1 x2 0))) : wx G (sM D cI cZ a) 4 (Qxi G (sM D cI cZ a) post) M 72 [(0, .ref (a 0)), (1, .int x1), (2, .int x2)] [] := by
  refine wx_iload_n F 2 dR_cancel_72 rfl rfl ?_
  refine wx_iconst (v := 4) F dR_cancel_73 (by decide) ?_
  refine wx_icmp_ge (tgt := 124) F dR_cancel_74 (by decide) (fun g1 => ?_) (fun g1 => ?_)
  · refine wx_aload_n F 0 dR_cancel_124 rfl rfl ?_
    obtain ⟨po2, c3, h4⟩ := (h).1 g1
    refine wx_callv F 0 c3 (Nat.le_of_ble_eq_true rfl) rfl rfl (cw_V F.1.2.2.2.2 lmR_155 cbR_settle rfl rfl ⟨by rw [hR]; exact Nat.le_of_ble_eq_true rfl, by rw [hR]; exact Nat.le_of_ble_eq_true rfl⟩) rfl rfl (Nat.le_of_ble_eq_true rfl) dR_cancel_125 (fun M6 p7 => ?_)
    refine wx_iload_n F 1 dR_cancel_128 rfl rfl ?_
    exact wx_iret F dR_cancel_129 (h4 M6 p7)
  · refine wx_iconst (v := 0) F dR_cancel_77 (by decide) ?_
    refine wx_istore_n (lv' := [(3, .int 0), (0, .ref (a 0)), (1, .int x1), (2, .int x2)]) F dR_cancel_78 rfl (by decide) rfl ?_
    exact wx_lv [1, 2, 3, 0] rfl (hK79 _ _ _ _ ((h).2 g1))
set_option maxRecDepth 20000 in
theorem sR_cancel_79 {G : CX} {D : va_G} {cI cZ : ClassId} {a : Nat → Nat} {post : Int32 → MM → Prop} (F : FX G (sM D cI cZ a) cR_cancel 4 qnR (some .int)) (hR : gR G = rmR_cancel) {K72 : MM → Int32 → Int32 → Prop} (hK72 : ∀ (M : MM) (x1 x2 : Int32), K72 M x1 x2 → wx G (sM D cI cZ a) 4 (Qxi G (sM D cI cZ a) post) M 72 [(0, .ref (a 0)), (1, .int x1), (2, .int x2)] []) {K79 : MM → Int32 → Int32 → Int32 → Prop} (hK79 : ∀ (M : MM) (x1 x2 x3 : Int32), K79 M x1 x2 x3 → wx G (sM D cI cZ a) 4 (Qxi G (sM D cI cZ a) post) M 79 [(0, .ref (a 0)), (1, .int x1), (2, .int x2), (3, .int x3)] []) {M : MM} {x1 x2 x3 : Int32} (h : ((M 0 1) ≤ x3 → (K72 M x1 (x2 + 1))) ∧ (¬ (M 0 1) ≤ x3 → (∃ j2 : Nat, x3 = nI j2 ∧ j2 < 24 ∧ ((¬ (M 5 j2) = 2 → (K79 M x1 x2 (x3 + 1))) ∧ ((M 5 j2) = 2 → (∃ po7 : Int32 → MM → Prop, Ci (gl G) (sM D cI cZ a) yR_activeChild wR_activeChild rmR_activeChild [.ref (a 0), .int x3] M po7 ∧ ∀ (r10 : Int32) (M11 : MM), po7 r10 M11 → ((¬ r10 = 0 → (K79 M11 x1 x2 (x3 + 1))) ∧ (r10 = 0 → (∀ M14 : MM, M14 = mp M11 5 j2 0 → (K79 M14 x1 x2 (x3 + 1))))))))))) : wx G (sM D cI cZ a) 4 (Qxi G (sM D cI cZ a) post) M 79 [(0, .ref (a 0)), (1, .int x1), (2, .int x2), (3, .int x3)] [] := by
  refine wx_iload_n F 3 dR_cancel_79 rfl rfl ?_
  refine wx_aload_n F 0 dR_cancel_80 rfl rfl ?_
  refine wx_get (ci := 4) (C := qnR) (T := TR) (N := 25) (v := .int (M 0 1)) F 0 (Nat.le_of_ble_eq_true rfl) rfl rfl hiR 1 (by decide) rfl lfR_60 rfl dR_cancel_81 ?_
  refine wx_icmp_ge (tgt := 118) F dR_cancel_84 (by decide) (fun g1 => ?_) (fun g1 => ?_)
  · refine wx_iinc (lv' := [(2, .int (x2 + 1)), (0, .ref (a 0)), (1, .int x1), (3, .int x3)]) F 2 dR_cancel_118 rfl (ii1 _) (by decide) rfl ?_
    refine wx_goto (tgt := 72) F dR_cancel_121 (by decide) ?_
    exact wx_lv [1, 2, 0] rfl (hK72 _ _ _ ((h).1 g1))
  · refine wx_aload_n F 0 dR_cancel_87 rfl rfl ?_
    refine wx_get (ci := 4) (C := qnR) (T := TR) (N := 25) (v := .ref (a 5)) F 0 (Nat.le_of_ble_eq_true rfl) rfl rfl hiR 6 (by decide) rfl lfR_22 rfl dR_cancel_88 ?_
    refine wx_iload_n F 3 dR_cancel_91 rfl rfl ?_
    obtain ⟨j2, e3, b4, h5⟩ := (h).2 g1
    refine wx_iald (N := 24) F 5 (Nat.le_of_ble_eq_true rfl) rfl 0 rfl e3 b4 (by omega) dR_cancel_92 ?_
    refine wx_iconst (v := 2) F dR_cancel_93 (by decide) ?_
    refine wx_icmp_ne (tgt := 112) F dR_cancel_94 (by decide) (fun g6 => ?_) (fun g6 => ?_)
    · refine wx_iinc (lv' := [(3, .int (x3 + 1)), (0, .ref (a 0)), (1, .int x1), (2, .int x2)]) F 3 dR_cancel_112 rfl (ii1 _) (by decide) rfl ?_
      refine wx_goto (tgt := 79) F dR_cancel_115 (by decide) ?_
      exact wx_lv [1, 2, 3, 0] rfl (hK79 _ _ _ _ ((h5).1 g6))
    · refine wx_aload_n F 0 dR_cancel_97 rfl rfl ?_
      refine wx_iload_n F 3 dR_cancel_98 rfl rfl ?_
      obtain ⟨po7, c8, h9⟩ := (h5).2 g6
      refine wx_calli F 0 c8 (Nat.le_of_ble_eq_true rfl) rfl rfl (cw_V F.1.2.2.2.2 lmR_144 cbR_activeChild rfl rfl ⟨by rw [hR]; exact Nat.le_of_ble_eq_true rfl, by rw [hR]; exact Nat.le_of_ble_eq_true rfl⟩) rfl rfl (Nat.le_of_ble_eq_true rfl) dR_cancel_99 (fun r10 M11 p12 => ?_)
      refine wx_if_ne (tgt := 112) F dR_cancel_102 (by decide) (fun g13 => ?_) (fun g13 => ?_)
      · refine wx_iinc (lv' := [(3, .int (x3 + 1)), (0, .ref (a 0)), (1, .int x1), (2, .int x2)]) F 3 dR_cancel_112 rfl (ii1 _) (by decide) rfl ?_
        refine wx_goto (tgt := 79) F dR_cancel_115 (by decide) ?_
        exact wx_lv [1, 2, 3, 0] rfl (hK79 _ _ _ _ ((h9 r10 M11 p12).1 g13))
      · refine wx_aload_n F 0 dR_cancel_105 rfl rfl ?_
        refine wx_get (ci := 4) (C := qnR) (T := TR) (N := 25) (v := .ref (a 5)) F 0 (Nat.le_of_ble_eq_true rfl) rfl rfl hiR 6 (by decide) rfl lfR_22 rfl dR_cancel_106 ?_
        refine wx_iload_n F 3 dR_cancel_109 rfl rfl ?_
        refine wx_iconst (v := 0) F dR_cancel_110 (by decide) ?_
        refine wx_iast (N := 24) F 5 (Nat.le_of_ble_eq_true rfl) (fun _ => rfl) 0 rfl e3 b4 (by omega) dR_cancel_111 (wx_nm (fun M14 e15 => ?_))
        refine wx_iinc (lv' := [(3, .int (x3 + 1)), (0, .ref (a 0)), (1, .int x1), (2, .int x2)]) F 3 dR_cancel_112 rfl (ii1 _) (by decide) rfl ?_
        refine wx_goto (tgt := 79) F dR_cancel_115 (by decide) ?_
        exact wx_lv [1, 2, 3, 0] rfl (hK79 _ _ _ _ (((h9 r10 M11 p12).2 g13) M14 e15))
theorem oR_cancel {l : Launch} {D : va_G} {cI cZ : ClassId} {a : Nat → Nat} {post : Int32 → MM → Prop} (hJ : IJ (sM D cI cZ a)) {M : MM} (h : ∀ G : CX, gl G = l → gR G = rmR_cancel → FX G (sM D cI cZ a) cR_cancel 4 qnR (some .int) → wx G (sM D cI cZ a) 4 (Qxi G (sM D cI cZ a) post) M 0 [(0, .ref (a 0))] []) : Ci l (sM D cI cZ a) yR_cancel wR_cancel rmR_cancel [.ref (a 0)] M post := Ci.of (cc := cR_cancel) (nL := 4) rfl rfl (Nat.le_of_ble_eq_true rfl) hJ h
set_option maxRecDepth 20000 in
theorem sR_state_0 {G : CX} {D : va_G} {cI cZ : ClassId} {a : Nat → Nat} {post : Int32 → MM → Prop} (F : FX G (sM D cI cZ a) cR_state 1 qnR (some .int)) (hR : gR G = rmR_state) {M : MM} (h : ((M 0 18) = 0 → ((¬ (M 0 17) = 0 → (((M 0 19) = 0 → (((M 0 20) < 0 → (post 3 M)) ∧ (¬ (M 0 20) < 0 → (post 4 M)))) ∧ (¬ (M 0 19) = 0 → (post 5 M)))) ∧ ((M 0 17) = 0 → (post 0 M)))) ∧ (¬ (M 0 18) = 0 → (((M 0 19) = 0 → (post 1 M)) ∧ (¬ (M 0 19) = 0 → (post 2 M))))) : wx G (sM D cI cZ a) 1 (Qxi G (sM D cI cZ a) post) M 0 [(0, .ref (a 0))] [] := by
  refine wx_aload_n F 0 dR_state_0 rfl rfl ?_
  refine wx_get (ci := 4) (C := qnR) (T := TR) (N := 25) (v := .int (M 0 18)) F 0 (Nat.le_of_ble_eq_true rfl) rfl rfl hiR 18 (by decide) rfl lfR_67 rfl dR_state_1 ?_
  refine wx_if_eq (tgt := 20) F dR_state_4 (by decide) (fun g1 => ?_) (fun g1 => ?_)
  · refine wx_aload_n F 0 dR_state_20 rfl rfl ?_
    refine wx_get (ci := 4) (C := qnR) (T := TR) (N := 25) (v := .int (M 0 17)) F 0 (Nat.le_of_ble_eq_true rfl) rfl rfl hiR 17 (by decide) rfl lfR_109 rfl dR_state_21 ?_
    refine wx_if_ne (tgt := 31) F dR_state_24 (by decide) (fun g2 => ?_) (fun g2 => ?_)
    · refine wx_aload_n F 0 dR_state_31 rfl rfl ?_
      refine wx_get (ci := 4) (C := qnR) (T := TR) (N := 25) (v := .int (M 0 19)) F 0 (Nat.le_of_ble_eq_true rfl) rfl rfl hiR 19 (by decide) rfl lfR_112 rfl dR_state_32 ?_
      refine wx_if_eq (tgt := 42) F dR_state_35 (by decide) (fun g3 => ?_) (fun g3 => ?_)
      · refine wx_aload_n F 0 dR_state_42 rfl rfl ?_
        refine wx_get (ci := 4) (C := qnR) (T := TR) (N := 25) (v := .int (M 0 20)) F 0 (Nat.le_of_ble_eq_true rfl) rfl rfl hiR 20 (by decide) rfl lfR_53 rfl dR_state_43 ?_
        refine wx_if_lt (tgt := 53) F dR_state_46 (by decide) (fun g4 => ?_) (fun g4 => ?_)
        · refine wx_iconst (v := 3) F dR_state_53 (by decide) ?_
          exact wx_iret F dR_state_54 (((((h).1 g1).1 g2).1 g3).1 g4)
        · refine wx_iconst (v := 4) F dR_state_49 (by decide) ?_
          refine wx_goto (tgt := 54) F dR_state_50 (by decide) ?_
          exact wx_iret F dR_state_54 (((((h).1 g1).1 g2).1 g3).2 g4)
      · refine wx_iconst (v := 5) F dR_state_38 (by decide) ?_
        refine wx_goto (tgt := 54) F dR_state_39 (by decide) ?_
        exact wx_iret F dR_state_54 ((((h).1 g1).1 g2).2 g3)
    · refine wx_iconst (v := 0) F dR_state_27 (by decide) ?_
      refine wx_goto (tgt := 54) F dR_state_28 (by decide) ?_
      exact wx_iret F dR_state_54 (((h).1 g1).2 g2)
  · refine wx_aload_n F 0 dR_state_7 rfl rfl ?_
    refine wx_get (ci := 4) (C := qnR) (T := TR) (N := 25) (v := .int (M 0 19)) F 0 (Nat.le_of_ble_eq_true rfl) rfl rfl hiR 19 (by decide) rfl lfR_112 rfl dR_state_8 ?_
    refine wx_if_eq (tgt := 18) F dR_state_11 (by decide) (fun g5 => ?_) (fun g5 => ?_)
    · refine wx_iconst (v := 1) F dR_state_18 (by decide) ?_
      exact wx_iret F dR_state_19 (((h).2 g1).1 g5)
    · refine wx_iconst (v := 2) F dR_state_14 (by decide) ?_
      refine wx_goto (tgt := 19) F dR_state_15 (by decide) ?_
      exact wx_iret F dR_state_19 (((h).2 g1).2 g5)
theorem oR_state {l : Launch} {D : va_G} {cI cZ : ClassId} {a : Nat → Nat} {post : Int32 → MM → Prop} (hJ : IJ (sM D cI cZ a)) {M : MM} (h : ((M 0 18) = 0 → ((¬ (M 0 17) = 0 → (((M 0 19) = 0 → (((M 0 20) < 0 → (post 3 M)) ∧ (¬ (M 0 20) < 0 → (post 4 M)))) ∧ (¬ (M 0 19) = 0 → (post 5 M)))) ∧ ((M 0 17) = 0 → (post 0 M)))) ∧ (¬ (M 0 18) = 0 → (((M 0 19) = 0 → (post 1 M)) ∧ (¬ (M 0 19) = 0 → (post 2 M))))) : Ci l (sM D cI cZ a) yR_state wR_state rmR_state [.ref (a 0)] M post := Ci.of (cc := cR_state) (nL := 1) rfl rfl (Nat.le_of_ble_eq_true rfl) hJ (fun G hl hR F => by subst hl; exact sR_state_0 F hR h)
set_option maxRecDepth 20000 in
theorem sR_thrower_0 {G : CX} {D : va_G} {cI cZ : ClassId} {a : Nat → Nat} {post : Int32 → MM → Prop} (F : FX G (sM D cI cZ a) cR_thrower 1 qnR (some .int)) (hR : gR G = rmR_thrower) {M : MM} (h : post (M 0 20) M) : wx G (sM D cI cZ a) 1 (Qxi G (sM D cI cZ a) post) M 0 [(0, .ref (a 0))] [] := by
  refine wx_aload_n F 0 dR_thrower_0 rfl rfl ?_
  refine wx_get (ci := 4) (C := qnR) (T := TR) (N := 25) (v := .int (M 0 20)) F 0 (Nat.le_of_ble_eq_true rfl) rfl rfl hiR 20 (by decide) rfl lfR_53 rfl dR_thrower_1 ?_
  exact wx_iret F dR_thrower_4 (h)
theorem oR_thrower {l : Launch} {D : va_G} {cI cZ : ClassId} {a : Nat → Nat} {post : Int32 → MM → Prop} (hJ : IJ (sM D cI cZ a)) {M : MM} (h : post (M 0 20) M) : Ci l (sM D cI cZ a) yR_thrower wR_thrower rmR_thrower [.ref (a 0)] M post := Ci.of (cc := cR_thrower) (nL := 1) rfl rfl (Nat.le_of_ble_eq_true rfl) hJ (fun G hl hR F => by subst hl; exact sR_thrower_0 F hR h)
set_option maxRecDepth 20000 in
theorem sR_round_0 {G : CX} {D : va_G} {cI cZ : ClassId} {a : Nat → Nat} {post : Int32 → MM → Prop} (F : FX G (sM D cI cZ a) cR_round 1 qnR (some .int)) (hR : gR G = rmR_round) {M : MM} (h : post (M 0 22) M) : wx G (sM D cI cZ a) 1 (Qxi G (sM D cI cZ a) post) M 0 [(0, .ref (a 0))] [] := by
  refine wx_aload_n F 0 dR_round_0 rfl rfl ?_
  refine wx_get (ci := 4) (C := qnR) (T := TR) (N := 25) (v := .int (M 0 22)) F 0 (Nat.le_of_ble_eq_true rfl) rfl rfl hiR 22 (by decide) rfl lfR_99 rfl dR_round_1 ?_
  exact wx_iret F dR_round_4 (h)
theorem oR_round {l : Launch} {D : va_G} {cI cZ : ClassId} {a : Nat → Nat} {post : Int32 → MM → Prop} (hJ : IJ (sM D cI cZ a)) {M : MM} (h : post (M 0 22) M) : Ci l (sM D cI cZ a) yR_round wR_round rmR_round [.ref (a 0)] M post := Ci.of (cc := cR_round) (nL := 1) rfl rfl (Nat.le_of_ble_eq_true rfl) hJ (fun G hl hR F => by subst hl; exact sR_round_0 F hR h)
set_option maxRecDepth 20000 in
theorem sR_lost_0 {G : CX} {D : va_G} {cI cZ : ClassId} {a : Nat → Nat} {post : Int32 → MM → Prop} (F : FX G (sM D cI cZ a) cR_lost 1 qnR (some .int)) (hR : gR G = rmR_lost) {M : MM} (h : post (M 0 23) M) : wx G (sM D cI cZ a) 1 (Qxi G (sM D cI cZ a) post) M 0 [(0, .ref (a 0))] [] := by
  refine wx_aload_n F 0 dR_lost_0 rfl rfl ?_
  refine wx_get (ci := 4) (C := qnR) (T := TR) (N := 25) (v := .int (M 0 23)) F 0 (Nat.le_of_ble_eq_true rfl) rfl rfl hiR 23 (by decide) rfl lfR_86 rfl dR_lost_1 ?_
  exact wx_iret F dR_lost_4 (h)
theorem oR_lost {l : Launch} {D : va_G} {cI cZ : ClassId} {a : Nat → Nat} {post : Int32 → MM → Prop} (hJ : IJ (sM D cI cZ a)) {M : MM} (h : post (M 0 23) M) : Ci l (sM D cI cZ a) yR_lost wR_lost rmR_lost [.ref (a 0)] M post := Ci.of (cc := cR_lost) (nL := 1) rfl rfl (Nat.le_of_ble_eq_true rfl) hJ (fun G hl hR F => by subst hl; exact sR_lost_0 F hR h)
set_option maxRecDepth 20000 in
theorem sR_steals_0 {G : CX} {D : va_G} {cI cZ : ClassId} {a : Nat → Nat} {post : Int32 → MM → Prop} (F : FX G (sM D cI cZ a) cR_steals 1 qnR (some .int)) (hR : gR G = rmR_steals) {M : MM} (h : post (M 0 24) M) : wx G (sM D cI cZ a) 1 (Qxi G (sM D cI cZ a) post) M 0 [(0, .ref (a 0))] [] := by
  refine wx_aload_n F 0 dR_steals_0 rfl rfl ?_
  refine wx_get (ci := 4) (C := qnR) (T := TR) (N := 25) (v := .int (M 0 24)) F 0 (Nat.le_of_ble_eq_true rfl) rfl rfl hiR 24 (by decide) rfl lfR_118 rfl dR_steals_1 ?_
  exact wx_iret F dR_steals_4 (h)
theorem oR_steals {l : Launch} {D : va_G} {cI cZ : ClassId} {a : Nat → Nat} {post : Int32 → MM → Prop} (hJ : IJ (sM D cI cZ a)) {M : MM} (h : post (M 0 24) M) : Ci l (sM D cI cZ a) yR_steals wR_steals rmR_steals [.ref (a 0)] M post := Ci.of (cc := cR_steals) (nL := 1) rfl rfl (Nat.le_of_ble_eq_true rfl) hJ (fun G hl hR F => by subst hl; exact sR_steals_0 F hR h)
set_option maxRecDepth 20000 in
theorem sR_runs_0 {G : CX} {D : va_G} {cI cZ : ClassId} {a : Nat → Nat} {post : Int32 → MM → Prop} (F : FX G (sM D cI cZ a) cR_runs 2 qnR (some .int)) (hR : gR G = rmR_runs) {M : MM} {x1 : Int32} (h : ∃ po1 : Int32 → MM → Prop, Ci (gl G) (sM D cI cZ a) yR_isTask wR_isTask rmR_isTask [.ref (a 0), .int x1] M po1 ∧ ∀ (r4 : Int32) (M5 : MM), po1 r4 M5 → ((r4 = 0 → (post 0 M5)) ∧ (¬ r4 = 0 → (∃ j8 : Nat, x1 = nI j8 ∧ j8 < 24 ∧ (post (M5 9 j8) M5))))) : wx G (sM D cI cZ a) 2 (Qxi G (sM D cI cZ a) post) M 0 [(0, .ref (a 0)), (1, .int x1)] [] := by
  refine wx_aload_n F 0 dR_runs_0 rfl rfl ?_
  refine wx_iload_n F 1 dR_runs_1 rfl rfl ?_
  obtain ⟨po1, c2, h3⟩ := h
  refine wx_calli F 0 c2 (Nat.le_of_ble_eq_true rfl) rfl rfl (cw_V F.1.2.2.2.2 lmR_63 cbR_isTask rfl rfl ⟨by rw [hR]; exact Nat.le_of_ble_eq_true rfl, by rw [hR]; exact Nat.le_of_ble_eq_true rfl⟩) rfl rfl (Nat.le_of_ble_eq_true rfl) dR_runs_2 (fun r4 M5 p6 => ?_)
  refine wx_if_eq (tgt := 17) F dR_runs_5 (by decide) (fun g7 => ?_) (fun g7 => ?_)
  · refine wx_iconst (v := 0) F dR_runs_17 (by decide) ?_
    exact wx_iret F dR_runs_18 ((h3 r4 M5 p6).1 g7)
  · refine wx_aload_n F 0 dR_runs_8 rfl rfl ?_
    refine wx_get (ci := 4) (C := qnR) (T := TR) (N := 25) (v := .ref (a 9)) F 0 (Nat.le_of_ble_eq_true rfl) rfl rfl hiR 10 (by decide) rfl lfR_34 rfl dR_runs_9 ?_
    refine wx_iload_n F 1 dR_runs_12 rfl rfl ?_
    obtain ⟨j8, e9, b10, h11⟩ := (h3 r4 M5 p6).2 g7
    refine wx_iald (N := 24) F 9 (Nat.le_of_ble_eq_true rfl) rfl 0 rfl e9 b10 (by omega) dR_runs_13 ?_
    refine wx_goto (tgt := 18) F dR_runs_14 (by decide) ?_
    exact wx_iret F dR_runs_18 (h11)
theorem oR_runs {l : Launch} {D : va_G} {cI cZ : ClassId} {a : Nat → Nat} {post : Int32 → MM → Prop} (hJ : IJ (sM D cI cZ a)) {M : MM} {x1 : Int32} (h : ∃ po1 : Int32 → MM → Prop, Ci l (sM D cI cZ a) yR_isTask wR_isTask rmR_isTask [.ref (a 0), .int x1] M po1 ∧ ∀ (r4 : Int32) (M5 : MM), po1 r4 M5 → ((r4 = 0 → (post 0 M5)) ∧ (¬ r4 = 0 → (∃ j8 : Nat, x1 = nI j8 ∧ j8 < 24 ∧ (post (M5 9 j8) M5))))) : Ci l (sM D cI cZ a) yR_runs wR_runs rmR_runs [.ref (a 0), .int x1] M post := Ci.of (cc := cR_runs) (nL := 2) rfl rfl (Nat.le_of_ble_eq_true rfl) hJ (fun G hl hR F => by subst hl; exact sR_runs_0 F hR h)
set_option maxRecDepth 20000 in
theorem sR_arrivals_0 {G : CX} {D : va_G} {cI cZ : ClassId} {a : Nat → Nat} {post : Int32 → MM → Prop} (F : FX G (sM D cI cZ a) cR_arrivals 2 qnR (some .int)) (hR : gR G = rmR_arrivals) {M : MM} {x1 : Int32} (h : ((M 0 18) = 0 → (post 0 M)) ∧ (¬ (M 0 18) = 0 → (∃ po2 : Int32 → MM → Prop, Ci (gl G) (sM D cI cZ a) yR_isTask wR_isTask rmR_isTask [.ref (a 0), .int x1] M po2 ∧ ∀ (r5 : Int32) (M6 : MM), po2 r5 M6 → ((r5 = 0 → (post 0 M6)) ∧ (¬ r5 = 0 → (∃ j9 : Nat, x1 = nI j9 ∧ j9 < 24 ∧ (post (M6 8 j9) M6))))))) : wx G (sM D cI cZ a) 2 (Qxi G (sM D cI cZ a) post) M 0 [(0, .ref (a 0)), (1, .int x1)] [] := by
  refine wx_aload_n F 0 dR_arrivals_0 rfl rfl ?_
  refine wx_get (ci := 4) (C := qnR) (T := TR) (N := 25) (v := .int (M 0 18)) F 0 (Nat.le_of_ble_eq_true rfl) rfl rfl hiR 18 (by decide) rfl lfR_67 rfl dR_arrivals_1 ?_
  refine wx_if_eq (tgt := 24) F dR_arrivals_4 (by decide) (fun g1 => ?_) (fun g1 => ?_)
  · refine wx_iconst (v := 0) F dR_arrivals_24 (by decide) ?_
    exact wx_iret F dR_arrivals_25 ((h).1 g1)
  · refine wx_aload_n F 0 dR_arrivals_7 rfl rfl ?_
    refine wx_iload_n F 1 dR_arrivals_8 rfl rfl ?_
    obtain ⟨po2, c3, h4⟩ := (h).2 g1
    refine wx_calli F 0 c3 (Nat.le_of_ble_eq_true rfl) rfl rfl (cw_V F.1.2.2.2.2 lmR_63 cbR_isTask rfl rfl ⟨by rw [hR]; exact Nat.le_of_ble_eq_true rfl, by rw [hR]; exact Nat.le_of_ble_eq_true rfl⟩) rfl rfl (Nat.le_of_ble_eq_true rfl) dR_arrivals_9 (fun r5 M6 p7 => ?_)
    refine wx_if_eq (tgt := 24) F dR_arrivals_12 (by decide) (fun g8 => ?_) (fun g8 => ?_)
    · refine wx_iconst (v := 0) F dR_arrivals_24 (by decide) ?_
      exact wx_iret F dR_arrivals_25 ((h4 r5 M6 p7).1 g8)
    · refine wx_aload_n F 0 dR_arrivals_15 rfl rfl ?_
      refine wx_get (ci := 4) (C := qnR) (T := TR) (N := 25) (v := .ref (a 8)) F 0 (Nat.le_of_ble_eq_true rfl) rfl rfl hiR 9 (by decide) rfl lfR_31 rfl dR_arrivals_16 ?_
      refine wx_iload_n F 1 dR_arrivals_19 rfl rfl ?_
      obtain ⟨j9, e10, b11, h12⟩ := (h4 r5 M6 p7).2 g8
      refine wx_iald (N := 24) F 8 (Nat.le_of_ble_eq_true rfl) rfl 0 rfl e10 b11 (by omega) dR_arrivals_20 ?_
      refine wx_goto (tgt := 25) F dR_arrivals_21 (by decide) ?_
      exact wx_iret F dR_arrivals_25 (h12)
theorem oR_arrivals {l : Launch} {D : va_G} {cI cZ : ClassId} {a : Nat → Nat} {post : Int32 → MM → Prop} (hJ : IJ (sM D cI cZ a)) {M : MM} {x1 : Int32} (h : ((M 0 18) = 0 → (post 0 M)) ∧ (¬ (M 0 18) = 0 → (∃ po2 : Int32 → MM → Prop, Ci l (sM D cI cZ a) yR_isTask wR_isTask rmR_isTask [.ref (a 0), .int x1] M po2 ∧ ∀ (r5 : Int32) (M6 : MM), po2 r5 M6 → ((r5 = 0 → (post 0 M6)) ∧ (¬ r5 = 0 → (∃ j9 : Nat, x1 = nI j9 ∧ j9 < 24 ∧ (post (M6 8 j9) M6))))))) : Ci l (sM D cI cZ a) yR_arrivals wR_arrivals rmR_arrivals [.ref (a 0), .int x1] M post := Ci.of (cc := cR_arrivals) (nL := 2) rfl rfl (Nat.le_of_ble_eq_true rfl) hJ (fun G hl hR F => by subst hl; exact sR_arrivals_0 F hR h)
set_option maxRecDepth 20000 in
theorem sR_where_0 {G : CX} {D : va_G} {cI cZ : ClassId} {a : Nat → Nat} {post : Int32 → MM → Prop} (F : FX G (sM D cI cZ a) cR_where 2 qnR (some .int)) (hR : gR G = rmR_where) {M : MM} {x1 : Int32} (h : ∃ po1 : Int32 → MM → Prop, Ci (gl G) (sM D cI cZ a) yR_isTask wR_isTask rmR_isTask [.ref (a 0), .int x1] M po1 ∧ ∀ (r4 : Int32) (M5 : MM), po1 r4 M5 → ((¬ r4 = 0 → (∃ j8 : Nat, x1 = nI j8 ∧ j8 < 24 ∧ ((¬ (M5 5 j8) = 3 → ((¬ (M5 5 j8) = 4 → (post (M5 5 j8) M5)) ∧ ((M5 5 j8) = 4 → ((¬ (M5 6 j8) = (M5 0 0) → (post (10 + (M5 6 j8)) M5)) ∧ ((M5 6 j8) = (M5 0 0) → (post 20 M5)))))) ∧ ((M5 5 j8) = 3 → (post (3 + (M5 6 j8)) M5))))) ∧ (r4 = 0 → (post (-1) M5)))) : wx G (sM D cI cZ a) 2 (Qxi G (sM D cI cZ a) post) M 0 [(0, .ref (a 0)), (1, .int x1)] [] := by
  refine wx_aload_n F 0 dR_where_0 rfl rfl ?_
  refine wx_iload_n F 1 dR_where_1 rfl rfl ?_
  obtain ⟨po1, c2, h3⟩ := h
  refine wx_calli F 0 c2 (Nat.le_of_ble_eq_true rfl) rfl rfl (cw_V F.1.2.2.2.2 lmR_63 cbR_isTask rfl rfl ⟨by rw [hR]; exact Nat.le_of_ble_eq_true rfl, by rw [hR]; exact Nat.le_of_ble_eq_true rfl⟩) rfl rfl (Nat.le_of_ble_eq_true rfl) dR_where_2 (fun r4 M5 p6 => ?_)
  refine wx_if_ne (tgt := 10) F dR_where_5 (by decide) (fun g7 => ?_) (fun g7 => ?_)
  · refine wx_aload_n F 0 dR_where_10 rfl rfl ?_
    refine wx_get (ci := 4) (C := qnR) (T := TR) (N := 25) (v := .ref (a 5)) F 0 (Nat.le_of_ble_eq_true rfl) rfl rfl hiR 6 (by decide) rfl lfR_22 rfl dR_where_11 ?_
    refine wx_iload_n F 1 dR_where_14 rfl rfl ?_
    obtain ⟨j8, e9, b10, h11⟩ := (h3 r4 M5 p6).1 g7
    refine wx_iald (N := 24) F 5 (Nat.le_of_ble_eq_true rfl) rfl 0 rfl e9 b10 (by omega) dR_where_15 ?_
    refine wx_iconst (v := 3) F dR_where_16 (by decide) ?_
    refine wx_icmp_ne (tgt := 29) F dR_where_17 (by decide) (fun g12 => ?_) (fun g12 => ?_)
    · refine wx_aload_n F 0 dR_where_29 rfl rfl ?_
      refine wx_get (ci := 4) (C := qnR) (T := TR) (N := 25) (v := .ref (a 5)) F 0 (Nat.le_of_ble_eq_true rfl) rfl rfl hiR 6 (by decide) rfl lfR_22 rfl dR_where_30 ?_
      refine wx_iload_n F 1 dR_where_33 rfl rfl ?_
      refine wx_iald (N := 24) F 5 (Nat.le_of_ble_eq_true rfl) rfl 0 rfl e9 b10 (by omega) dR_where_34 ?_
      refine wx_iconst (v := 4) F dR_where_35 (by decide) ?_
      refine wx_icmp_ne (tgt := 67) F dR_where_36 (by decide) (fun g13 => ?_) (fun g13 => ?_)
      · refine wx_aload_n F 0 dR_where_67 rfl rfl ?_
        refine wx_get (ci := 4) (C := qnR) (T := TR) (N := 25) (v := .ref (a 5)) F 0 (Nat.le_of_ble_eq_true rfl) rfl rfl hiR 6 (by decide) rfl lfR_22 rfl dR_where_68 ?_
        refine wx_iload_n F 1 dR_where_71 rfl rfl ?_
        refine wx_iald (N := 24) F 5 (Nat.le_of_ble_eq_true rfl) rfl 0 rfl e9 b10 (by omega) dR_where_72 ?_
        exact wx_iret F dR_where_73 (((h11).1 g12).1 g13)
      · refine wx_aload_n F 0 dR_where_39 rfl rfl ?_
        refine wx_get (ci := 4) (C := qnR) (T := TR) (N := 25) (v := .ref (a 6)) F 0 (Nat.le_of_ble_eq_true rfl) rfl rfl hiR 7 (by decide) rfl lfR_25 rfl dR_where_40 ?_
        refine wx_iload_n F 1 dR_where_43 rfl rfl ?_
        refine wx_iald (N := 24) F 6 (Nat.le_of_ble_eq_true rfl) rfl 0 rfl e9 b10 (by omega) dR_where_44 ?_
        refine wx_aload_n F 0 dR_where_45 rfl rfl ?_
        refine wx_get (ci := 4) (C := qnR) (T := TR) (N := 25) (v := .int (M5 0 0)) F 0 (Nat.le_of_ble_eq_true rfl) rfl rfl hiR 0 (by decide) rfl lfR_57 rfl dR_where_46 ?_
        refine wx_icmp_ne (tgt := 57) F dR_where_49 (by decide) (fun g14 => ?_) (fun g14 => ?_)
        · refine wx_bipush (v := 10) F dR_where_57 (by decide) ?_
          refine wx_aload_n F 0 dR_where_59 rfl rfl ?_
          refine wx_get (ci := 4) (C := qnR) (T := TR) (N := 25) (v := .ref (a 6)) F 0 (Nat.le_of_ble_eq_true rfl) rfl rfl hiR 7 (by decide) rfl lfR_25 rfl dR_where_60 ?_
          refine wx_iload_n F 1 dR_where_63 rfl rfl ?_
          refine wx_iald (N := 24) F 6 (Nat.le_of_ble_eq_true rfl) rfl 0 rfl e9 b10 (by omega) dR_where_64 ?_
          refine wx_iadd F dR_where_65 ?_
          exact wx_iret F dR_where_66 ((((h11).1 g12).2 g13).1 g14)
        · refine wx_bipush (v := 20) F dR_where_52 (by decide) ?_
          refine wx_goto (tgt := 66) F dR_where_54 (by decide) ?_
          exact wx_iret F dR_where_66 ((((h11).1 g12).2 g13).2 g14)
    · refine wx_iconst (v := 3) F dR_where_20 (by decide) ?_
      refine wx_aload_n F 0 dR_where_21 rfl rfl ?_
      refine wx_get (ci := 4) (C := qnR) (T := TR) (N := 25) (v := .ref (a 6)) F 0 (Nat.le_of_ble_eq_true rfl) rfl rfl hiR 7 (by decide) rfl lfR_25 rfl dR_where_22 ?_
      refine wx_iload_n F 1 dR_where_25 rfl rfl ?_
      refine wx_iald (N := 24) F 6 (Nat.le_of_ble_eq_true rfl) rfl 0 rfl e9 b10 (by omega) dR_where_26 ?_
      refine wx_iadd F dR_where_27 ?_
      exact wx_iret F dR_where_28 ((h11).2 g12)
  · refine wx_iconst (v := (-1)) F dR_where_8 (by decide) ?_
    exact wx_iret F dR_where_9 ((h3 r4 M5 p6).2 g7)
theorem oR_where {l : Launch} {D : va_G} {cI cZ : ClassId} {a : Nat → Nat} {post : Int32 → MM → Prop} (hJ : IJ (sM D cI cZ a)) {M : MM} {x1 : Int32} (h : ∃ po1 : Int32 → MM → Prop, Ci l (sM D cI cZ a) yR_isTask wR_isTask rmR_isTask [.ref (a 0), .int x1] M po1 ∧ ∀ (r4 : Int32) (M5 : MM), po1 r4 M5 → ((¬ r4 = 0 → (∃ j8 : Nat, x1 = nI j8 ∧ j8 < 24 ∧ ((¬ (M5 5 j8) = 3 → ((¬ (M5 5 j8) = 4 → (post (M5 5 j8) M5)) ∧ ((M5 5 j8) = 4 → ((¬ (M5 6 j8) = (M5 0 0) → (post (10 + (M5 6 j8)) M5)) ∧ ((M5 6 j8) = (M5 0 0) → (post 20 M5)))))) ∧ ((M5 5 j8) = 3 → (post (3 + (M5 6 j8)) M5))))) ∧ (r4 = 0 → (post (-1) M5)))) : Ci l (sM D cI cZ a) yR_where wR_where rmR_where [.ref (a 0), .int x1] M post := Ci.of (cc := cR_where) (nL := 2) rfl rfl (Nat.le_of_ble_eq_true rfl) hJ (fun G hl hR F => by subst hl; exact sR_where_0 F hR h)
set_option maxRecDepth 20000 in
theorem sR_lineAt_0 {G : CX} {D : va_G} {cI cZ : ClassId} {a : Nat → Nat} {post : Int32 → MM → Prop} (F : FX G (sM D cI cZ a) cR_lineAt 6 qnR (some .int)) (hR : gR G = rmR_lineAt) {K16 : MM → Int32 → Int32 → Int32 → Prop} (hK16 : ∀ (M : MM) (x1 x2 x3 : Int32), K16 M x1 x2 x3 → wx G (sM D cI cZ a) 6 (Qxi G (sM D cI cZ a) post) M 16 [(0, .ref (a 0)), (1, .int x1), (2, .int x2), (3, .int x3)] []) {M : MM} {x1 x2 : Int32} (h : (x1 < 0 → (post (-1) M)) ∧ (¬ x1 < 0 → ((x1 ≤ (M 0 0) → (K16 M x1 x2 0)) ∧ (¬ x1 ≤ (M 0 0) → (post (-1) M))))) : wx G (sM D cI cZ a) 6 (Qxi G (sM D cI cZ a) post) M 0 [(0, .ref (a 0)), (1, .int x1), (2, .int x2)] [] := by
  refine wx_iload_n F 1 dR_lineAt_0 rfl rfl ?_
  refine wx_if_lt (tgt := 12) F dR_lineAt_1 (by decide) (fun g1 => ?_) (fun g1 => ?_)
  · refine wx_iconst (v := (-1)) F dR_lineAt_12 (by decide) ?_
    exact wx_iret F dR_lineAt_13 ((h).1 g1)
  · refine wx_iload_n F 1 dR_lineAt_4 rfl rfl ?_
    refine wx_aload_n F 0 dR_lineAt_5 rfl rfl ?_
    refine wx_get (ci := 4) (C := qnR) (T := TR) (N := 25) (v := .int (M 0 0)) F 0 (Nat.le_of_ble_eq_true rfl) rfl rfl hiR 0 (by decide) rfl lfR_57 rfl dR_lineAt_6 ?_
    refine wx_icmp_le (tgt := 14) F dR_lineAt_9 (by decide) (fun g2 => ?_) (fun g2 => ?_)
    · refine wx_iconst (v := 0) F dR_lineAt_14 (by decide) ?_
      refine wx_istore_n (lv' := [(3, .int 0), (0, .ref (a 0)), (1, .int x1), (2, .int x2)]) F dR_lineAt_15 rfl (by decide) rfl ?_
      exact wx_lv [1, 2, 3, 0] rfl (hK16 _ _ _ _ (((h).2 g1).1 g2))
    · refine wx_iconst (v := (-1)) F dR_lineAt_12 (by decide) ?_
      exact wx_iret F dR_lineAt_13 (((h).2 g1).2 g2)
set_option maxRecDepth 20000 in
theorem sR_lineAt_16 {G : CX} {D : va_G} {cI cZ : ClassId} {a : Nat → Nat} {post : Int32 → MM → Prop} (F : FX G (sM D cI cZ a) cR_lineAt 6 qnR (some .int)) (hR : gR G = rmR_lineAt) {K30 : MM → Int32 → Int32 → Int32 → Int32 → Int32 → Prop} (hK30 : ∀ (M : MM) (x1 x2 x3 x4 x5 : Int32), K30 M x1 x2 x3 x4 x5 → wx G (sM D cI cZ a) 6 (Qxi G (sM D cI cZ a) post) M 30 [(0, .ref (a 0)), (1, .int x1), (2, .int x2), (3, .int x3), (4, .int x4), (5, .int x5)] []) {M : MM} {x1 x2 x3 : Int32} (h : ((M 0 1) ≤ x3 → (post (-1) M)) ∧ (¬ (M 0 1) ≤ x3 → (K30 M x1 x2 x3 0 0))) : wx G (sM D cI cZ a) 6 (Qxi G (sM D cI cZ a) post) M 16 [(0, .ref (a 0)), (1, .int x1), (2, .int x2), (3, .int x3)] [] := by
  refine wx_iload_n F 3 dR_lineAt_16 rfl rfl ?_
  refine wx_aload_n F 0 dR_lineAt_17 rfl rfl ?_
  refine wx_get (ci := 4) (C := qnR) (T := TR) (N := 25) (v := .int (M 0 1)) F 0 (Nat.le_of_ble_eq_true rfl) rfl rfl hiR 1 (by decide) rfl lfR_60 rfl dR_lineAt_18 ?_
  refine wx_icmp_ge (tgt := 128) F dR_lineAt_21 (by decide) (fun g1 => ?_) (fun g1 => ?_)
  · refine wx_iconst (v := (-1)) F dR_lineAt_128 (by decide) ?_
    exact wx_iret F dR_lineAt_129 ((h).1 g1)
  · refine wx_iconst (v := 0) F dR_lineAt_24 (by decide) ?_
    refine wx_istore (lv' := [(4, .int 0), (0, .ref (a 0)), (1, .int x1), (2, .int x2), (3, .int x3)]) F dR_lineAt_25 (by decide) rfl ?_
    refine wx_iconst (v := 0) F dR_lineAt_27 (by decide) ?_
    refine wx_istore (lv' := [(5, .int 0), (4, .int 0), (0, .ref (a 0)), (1, .int x1), (2, .int x2), (3, .int x3)]) F dR_lineAt_28 (by decide) rfl ?_
    exact wx_lv [2, 3, 4, 5, 1, 0] rfl (hK30 _ _ _ _ _ _ ((h).2 g1))
set_option maxRecDepth 20000 in
theorem sR_lineAt_30 {G : CX} {D : va_G} {cI cZ : ClassId} {a : Nat → Nat} {post : Int32 → MM → Prop} (F : FX G (sM D cI cZ a) cR_lineAt 6 qnR (some .int)) (hR : gR G = rmR_lineAt) {K16 : MM → Int32 → Int32 → Int32 → Prop} (hK16 : ∀ (M : MM) (x1 x2 x3 : Int32), K16 M x1 x2 x3 → wx G (sM D cI cZ a) 6 (Qxi G (sM D cI cZ a) post) M 16 [(0, .ref (a 0)), (1, .int x1), (2, .int x2), (3, .int x3)] []) {K30 : MM → Int32 → Int32 → Int32 → Int32 → Int32 → Prop} (hK30 : ∀ (M : MM) (x1 x2 x3 x4 x5 : Int32), K30 M x1 x2 x3 x4 x5 → wx G (sM D cI cZ a) 6 (Qxi G (sM D cI cZ a) post) M 30 [(0, .ref (a 0)), (1, .int x1), (2, .int x2), (3, .int x3), (4, .int x4), (5, .int x5)] []) {M : MM} {x1 x2 x3 x4 x5 : Int32} (h : ((M 0 1) ≤ x5 → (∃ j2 : Nat, x3 = nI j2 ∧ j2 < 24 ∧ ((¬ (M 5 j2) = 4 → (K16 M x1 x2 (x3 + 1))) ∧ ((M 5 j2) = 4 → ((¬ (M 6 j2) = x1 → (K16 M x1 x2 (x3 + 1))) ∧ ((M 6 j2) = x1 → ((¬ x4 = x2 → (K16 M x1 x2 (x3 + 1))) ∧ (x4 = x2 → (post x3 M))))))))) ∧ (¬ (M 0 1) ≤ x5 → (∃ j9 : Nat, x5 = nI j9 ∧ j9 < 24 ∧ ((¬ (M 5 j9) = 4 → (K30 M x1 x2 x3 x4 (x5 + 1))) ∧ ((M 5 j9) = 4 → ((¬ (M 6 j9) = x1 → (K30 M x1 x2 x3 x4 (x5 + 1))) ∧ ((M 6 j9) = x1 → (∃ j15 : Nat, x3 = nI j15 ∧ j15 < 24 ∧ (((M 7 j15) ≤ (M 7 j9) → (K30 M x1 x2 x3 x4 (x5 + 1))) ∧ (¬ (M 7 j15) ≤ (M 7 j9) → (K30 M x1 x2 x3 (x4 + 1) (x5 + 1)))))))))))) : wx G (sM D cI cZ a) 6 (Qxi G (sM D cI cZ a) post) M 30 [(0, .ref (a 0)), (1, .int x1), (2, .int x2), (3, .int x3), (4, .int x4), (5, .int x5)] [] := by
  refine wx_iload F 5 dR_lineAt_30 rfl ?_
  refine wx_aload_n F 0 dR_lineAt_32 rfl rfl ?_
  refine wx_get (ci := 4) (C := qnR) (T := TR) (N := 25) (v := .int (M 0 1)) F 0 (Nat.le_of_ble_eq_true rfl) rfl rfl hiR 1 (by decide) rfl lfR_60 rfl dR_lineAt_33 ?_
  refine wx_icmp_ge (tgt := 94) F dR_lineAt_36 (by decide) (fun g1 => ?_) (fun g1 => ?_)
  · refine wx_aload_n F 0 dR_lineAt_94 rfl rfl ?_
    refine wx_get (ci := 4) (C := qnR) (T := TR) (N := 25) (v := .ref (a 5)) F 0 (Nat.le_of_ble_eq_true rfl) rfl rfl hiR 6 (by decide) rfl lfR_22 rfl dR_lineAt_95 ?_
    refine wx_iload_n F 3 dR_lineAt_98 rfl rfl ?_
    obtain ⟨j2, e3, b4, h5⟩ := (h).1 g1
    refine wx_iald (N := 24) F 5 (Nat.le_of_ble_eq_true rfl) rfl 0 rfl e3 b4 (by omega) dR_lineAt_99 ?_
    refine wx_iconst (v := 4) F dR_lineAt_100 (by decide) ?_
    refine wx_icmp_ne (tgt := 122) F dR_lineAt_101 (by decide) (fun g6 => ?_) (fun g6 => ?_)
    · refine wx_iinc (lv' := [(3, .int (x3 + 1)), (0, .ref (a 0)), (1, .int x1), (2, .int x2), (4, .int x4), (5, .int x5)]) F 3 dR_lineAt_122 rfl (ii1 _) (by decide) rfl ?_
      refine wx_goto (tgt := 16) F dR_lineAt_125 (by decide) ?_
      exact wx_lv [1, 2, 3, 0] rfl (hK16 _ _ _ _ ((h5).1 g6))
    · refine wx_aload_n F 0 dR_lineAt_104 rfl rfl ?_
      refine wx_get (ci := 4) (C := qnR) (T := TR) (N := 25) (v := .ref (a 6)) F 0 (Nat.le_of_ble_eq_true rfl) rfl rfl hiR 7 (by decide) rfl lfR_25 rfl dR_lineAt_105 ?_
      refine wx_iload_n F 3 dR_lineAt_108 rfl rfl ?_
      refine wx_iald (N := 24) F 6 (Nat.le_of_ble_eq_true rfl) rfl 0 rfl e3 b4 (by omega) dR_lineAt_109 ?_
      refine wx_iload_n F 1 dR_lineAt_110 rfl rfl ?_
      refine wx_icmp_ne (tgt := 122) F dR_lineAt_111 (by decide) (fun g7 => ?_) (fun g7 => ?_)
      · refine wx_iinc (lv' := [(3, .int (x3 + 1)), (0, .ref (a 0)), (1, .int x1), (2, .int x2), (4, .int x4), (5, .int x5)]) F 3 dR_lineAt_122 rfl (ii1 _) (by decide) rfl ?_
        refine wx_goto (tgt := 16) F dR_lineAt_125 (by decide) ?_
        exact wx_lv [1, 2, 3, 0] rfl (hK16 _ _ _ _ (((h5).2 g6).1 g7))
      · refine wx_iload F 4 dR_lineAt_114 rfl ?_
        refine wx_iload_n F 2 dR_lineAt_116 rfl rfl ?_
        refine wx_icmp_ne (tgt := 122) F dR_lineAt_117 (by decide) (fun g8 => ?_) (fun g8 => ?_)
        · refine wx_iinc (lv' := [(3, .int (x3 + 1)), (0, .ref (a 0)), (1, .int x1), (2, .int x2), (4, .int x4), (5, .int x5)]) F 3 dR_lineAt_122 rfl (ii1 _) (by decide) rfl ?_
          refine wx_goto (tgt := 16) F dR_lineAt_125 (by decide) ?_
          exact wx_lv [1, 2, 3, 0] rfl (hK16 _ _ _ _ ((((h5).2 g6).2 g7).1 g8))
        · refine wx_iload_n F 3 dR_lineAt_120 rfl rfl ?_
          exact wx_iret F dR_lineAt_121 ((((h5).2 g6).2 g7).2 g8)
  · refine wx_aload_n F 0 dR_lineAt_39 rfl rfl ?_
    refine wx_get (ci := 4) (C := qnR) (T := TR) (N := 25) (v := .ref (a 5)) F 0 (Nat.le_of_ble_eq_true rfl) rfl rfl hiR 6 (by decide) rfl lfR_22 rfl dR_lineAt_40 ?_
    refine wx_iload F 5 dR_lineAt_43 rfl ?_
    obtain ⟨j9, e10, b11, h12⟩ := (h).2 g1
    refine wx_iald (N := 24) F 5 (Nat.le_of_ble_eq_true rfl) rfl 0 rfl e10 b11 (by omega) dR_lineAt_45 ?_
    refine wx_iconst (v := 4) F dR_lineAt_46 (by decide) ?_
    refine wx_icmp_ne (tgt := 84) F dR_lineAt_47 (by decide) (fun g13 => ?_) (fun g13 => ?_)
    · refine wx_iload F 4 dR_lineAt_84 rfl ?_
      refine wx_istore (lv' := [(4, .int x4), (0, .ref (a 0)), (1, .int x1), (2, .int x2), (3, .int x3), (5, .int x5)]) F dR_lineAt_86 (by decide) rfl ?_
      refine wx_iinc (lv' := [(5, .int (x5 + 1)), (4, .int x4), (0, .ref (a 0)), (1, .int x1), (2, .int x2), (3, .int x3)]) F 5 dR_lineAt_88 rfl (ii1 _) (by decide) rfl ?_
      refine wx_goto (tgt := 30) F dR_lineAt_91 (by decide) ?_
      exact wx_lv [2, 3, 4, 5, 1, 0] rfl (hK30 _ _ _ _ _ _ ((h12).1 g13))
    · refine wx_aload_n F 0 dR_lineAt_50 rfl rfl ?_
      refine wx_get (ci := 4) (C := qnR) (T := TR) (N := 25) (v := .ref (a 6)) F 0 (Nat.le_of_ble_eq_true rfl) rfl rfl hiR 7 (by decide) rfl lfR_25 rfl dR_lineAt_51 ?_
      refine wx_iload F 5 dR_lineAt_54 rfl ?_
      refine wx_iald (N := 24) F 6 (Nat.le_of_ble_eq_true rfl) rfl 0 rfl e10 b11 (by omega) dR_lineAt_56 ?_
      refine wx_iload_n F 1 dR_lineAt_57 rfl rfl ?_
      refine wx_icmp_ne (tgt := 84) F dR_lineAt_58 (by decide) (fun g14 => ?_) (fun g14 => ?_)
      · refine wx_iload F 4 dR_lineAt_84 rfl ?_
        refine wx_istore (lv' := [(4, .int x4), (0, .ref (a 0)), (1, .int x1), (2, .int x2), (3, .int x3), (5, .int x5)]) F dR_lineAt_86 (by decide) rfl ?_
        refine wx_iinc (lv' := [(5, .int (x5 + 1)), (4, .int x4), (0, .ref (a 0)), (1, .int x1), (2, .int x2), (3, .int x3)]) F 5 dR_lineAt_88 rfl (ii1 _) (by decide) rfl ?_
        refine wx_goto (tgt := 30) F dR_lineAt_91 (by decide) ?_
        exact wx_lv [2, 3, 4, 5, 1, 0] rfl (hK30 _ _ _ _ _ _ (((h12).2 g13).1 g14))
      · refine wx_aload_n F 0 dR_lineAt_61 rfl rfl ?_
        refine wx_get (ci := 4) (C := qnR) (T := TR) (N := 25) (v := .ref (a 7)) F 0 (Nat.le_of_ble_eq_true rfl) rfl rfl hiR 8 (by decide) rfl lfR_28 rfl dR_lineAt_62 ?_
        refine wx_iload F 5 dR_lineAt_65 rfl ?_
        refine wx_iald (N := 24) F 7 (Nat.le_of_ble_eq_true rfl) rfl 0 rfl e10 b11 (by omega) dR_lineAt_67 ?_
        refine wx_aload_n F 0 dR_lineAt_68 rfl rfl ?_
        refine wx_get (ci := 4) (C := qnR) (T := TR) (N := 25) (v := .ref (a 7)) F 0 (Nat.le_of_ble_eq_true rfl) rfl rfl hiR 8 (by decide) rfl lfR_28 rfl dR_lineAt_69 ?_
        refine wx_iload_n F 3 dR_lineAt_72 rfl rfl ?_
        obtain ⟨j15, e16, b17, h18⟩ := ((h12).2 g13).2 g14
        refine wx_iald (N := 24) F 7 (Nat.le_of_ble_eq_true rfl) rfl 0 rfl e16 b17 (by omega) dR_lineAt_73 ?_
        refine wx_icmp_ge (tgt := 84) F dR_lineAt_74 (by decide) (fun g19 => ?_) (fun g19 => ?_)
        · refine wx_iload F 4 dR_lineAt_84 rfl ?_
          refine wx_istore (lv' := [(4, .int x4), (0, .ref (a 0)), (1, .int x1), (2, .int x2), (3, .int x3), (5, .int x5)]) F dR_lineAt_86 (by decide) rfl ?_
          refine wx_iinc (lv' := [(5, .int (x5 + 1)), (4, .int x4), (0, .ref (a 0)), (1, .int x1), (2, .int x2), (3, .int x3)]) F 5 dR_lineAt_88 rfl (ii1 _) (by decide) rfl ?_
          refine wx_goto (tgt := 30) F dR_lineAt_91 (by decide) ?_
          exact wx_lv [2, 3, 4, 5, 1, 0] rfl (hK30 _ _ _ _ _ _ ((h18).1 g19))
        · refine wx_iload F 4 dR_lineAt_77 rfl ?_
          refine wx_iconst (v := 1) F dR_lineAt_79 (by decide) ?_
          refine wx_iadd F dR_lineAt_80 ?_
          refine wx_goto (tgt := 86) F dR_lineAt_81 (by decide) ?_
          refine wx_istore (lv' := [(4, .int (x4 + 1)), (0, .ref (a 0)), (1, .int x1), (2, .int x2), (3, .int x3), (5, .int x5)]) F dR_lineAt_86 (by decide) rfl ?_
          refine wx_iinc (lv' := [(5, .int (x5 + 1)), (4, .int (x4 + 1)), (0, .ref (a 0)), (1, .int x1), (2, .int x2), (3, .int x3)]) F 5 dR_lineAt_88 rfl (ii1 _) (by decide) rfl ?_
          refine wx_goto (tgt := 30) F dR_lineAt_91 (by decide) ?_
          exact wx_lv [2, 3, 4, 5, 1, 0] rfl (hK30 _ _ _ _ _ _ ((h18).2 g19))
theorem oR_lineAt {l : Launch} {D : va_G} {cI cZ : ClassId} {a : Nat → Nat} {post : Int32 → MM → Prop} (hJ : IJ (sM D cI cZ a)) {M : MM} {x1 x2 : Int32} (h : ∀ G : CX, gl G = l → gR G = rmR_lineAt → FX G (sM D cI cZ a) cR_lineAt 6 qnR (some .int) → wx G (sM D cI cZ a) 6 (Qxi G (sM D cI cZ a) post) M 0 [(0, .ref (a 0)), (1, .int x1), (2, .int x2)] []) : Ci l (sM D cI cZ a) yR_lineAt wR_lineAt rmR_lineAt [.ref (a 0), .int x1, .int x2] M post := Ci.of (cc := cR_lineAt) (nL := 6) rfl rfl (Nat.le_of_ble_eq_true rfl) hJ h
set_option maxRecDepth 20000 in
theorem sR_held_0 {G : CX} {D : va_G} {cI cZ : ClassId} {a : Nat → Nat} {post : Int32 → MM → Prop} (F : FX G (sM D cI cZ a) cR_held 4 qnR (some .int)) (hR : gR G = rmR_held) {K4 : MM → Int32 → Int32 → Int32 → Prop} (hK4 : ∀ (M : MM) (x1 x2 x3 : Int32), K4 M x1 x2 x3 → wx G (sM D cI cZ a) 4 (Qxi G (sM D cI cZ a) post) M 4 [(0, .ref (a 0)), (1, .int x1), (2, .int x2), (3, .int x3)] []) {M : MM} {x1 : Int32} (h : K4 M x1 0 0) : wx G (sM D cI cZ a) 4 (Qxi G (sM D cI cZ a) post) M 0 [(0, .ref (a 0)), (1, .int x1)] [] := by
  refine wx_iconst (v := 0) F dR_held_0 (by decide) ?_
  refine wx_istore_n (lv' := [(2, .int 0), (0, .ref (a 0)), (1, .int x1)]) F dR_held_1 rfl (by decide) rfl ?_
  refine wx_iconst (v := 0) F dR_held_2 (by decide) ?_
  refine wx_istore_n (lv' := [(3, .int 0), (2, .int 0), (0, .ref (a 0)), (1, .int x1)]) F dR_held_3 rfl (by decide) rfl ?_
  exact wx_lv [2, 3, 1, 0] rfl (hK4 _ _ _ _ (h))
set_option maxRecDepth 20000 in
theorem sR_held_4 {G : CX} {D : va_G} {cI cZ : ClassId} {a : Nat → Nat} {post : Int32 → MM → Prop} (F : FX G (sM D cI cZ a) cR_held 4 qnR (some .int)) (hR : gR G = rmR_held) {K4 : MM → Int32 → Int32 → Int32 → Prop} (hK4 : ∀ (M : MM) (x1 x2 x3 : Int32), K4 M x1 x2 x3 → wx G (sM D cI cZ a) 4 (Qxi G (sM D cI cZ a) post) M 4 [(0, .ref (a 0)), (1, .int x1), (2, .int x2), (3, .int x3)] []) {M : MM} {x1 x2 x3 : Int32} (h : ((M 0 1) ≤ x3 → (post x2 M)) ∧ (¬ (M 0 1) ≤ x3 → ((x1 < 0 → (post x2 M)) ∧ (¬ x1 < 0 → ((4 ≤ x1 → (post x2 M)) ∧ (¬ 4 ≤ x1 → (∃ j4 : Nat, x3 = nI j4 ∧ j4 < 24 ∧ ((¬ (M 5 j4) = 3 → (K4 M x1 x2 (x3 + 1))) ∧ ((M 5 j4) = 3 → ((¬ (((M 4 j4) >>> (x1 &&& 31)) &&& 1) = 1 → (K4 M x1 x2 (x3 + 1))) ∧ ((((M 4 j4) >>> (x1 &&& 31)) &&& 1) = 1 → (K4 M x1 (x2 + 1) (x3 + 1))))))))))))) : wx G (sM D cI cZ a) 4 (Qxi G (sM D cI cZ a) post) M 4 [(0, .ref (a 0)), (1, .int x1), (2, .int x2), (3, .int x3)] [] := by
  refine wx_iload_n F 3 dR_held_4 rfl rfl ?_
  refine wx_aload_n F 0 dR_held_5 rfl rfl ?_
  refine wx_get (ci := 4) (C := qnR) (T := TR) (N := 25) (v := .int (M 0 1)) F 0 (Nat.le_of_ble_eq_true rfl) rfl rfl hiR 1 (by decide) rfl lfR_60 rfl dR_held_6 ?_
  refine wx_icmp_ge (tgt := 59) F dR_held_9 (by decide) (fun g1 => ?_) (fun g1 => ?_)
  · refine wx_iload_n F 2 dR_held_59 rfl rfl ?_
    exact wx_iret F dR_held_60 ((h).1 g1)
  · refine wx_iload_n F 1 dR_held_12 rfl rfl ?_
    refine wx_if_lt (tgt := 59) F dR_held_13 (by decide) (fun g2 => ?_) (fun g2 => ?_)
    · refine wx_iload_n F 2 dR_held_59 rfl rfl ?_
      exact wx_iret F dR_held_60 (((h).2 g1).1 g2)
    · refine wx_iload_n F 1 dR_held_16 rfl rfl ?_
      refine wx_iconst (v := 4) F dR_held_17 (by decide) ?_
      refine wx_icmp_ge (tgt := 59) F dR_held_18 (by decide) (fun g3 => ?_) (fun g3 => ?_)
      · refine wx_iload_n F 2 dR_held_59 rfl rfl ?_
        exact wx_iret F dR_held_60 ((((h).2 g1).2 g2).1 g3)
      · refine wx_aload_n F 0 dR_held_21 rfl rfl ?_
        refine wx_get (ci := 4) (C := qnR) (T := TR) (N := 25) (v := .ref (a 5)) F 0 (Nat.le_of_ble_eq_true rfl) rfl rfl hiR 6 (by decide) rfl lfR_22 rfl dR_held_22 ?_
        refine wx_iload_n F 3 dR_held_25 rfl rfl ?_
        obtain ⟨j4, e5, b6, h7⟩ := (((h).2 g1).2 g2).2 g3
        refine wx_iald (N := 24) F 5 (Nat.le_of_ble_eq_true rfl) rfl 0 rfl e5 b6 (by omega) dR_held_26 ?_
        refine wx_iconst (v := 3) F dR_held_27 (by decide) ?_
        refine wx_icmp_ne (tgt := 51) F dR_held_28 (by decide) (fun g8 => ?_) (fun g8 => ?_)
        · refine wx_iload_n F 2 dR_held_51 rfl rfl ?_
          refine wx_istore_n (lv' := [(2, .int x2), (0, .ref (a 0)), (1, .int x1), (3, .int x3)]) F dR_held_52 rfl (by decide) rfl ?_
          refine wx_iinc (lv' := [(3, .int (x3 + 1)), (2, .int x2), (0, .ref (a 0)), (1, .int x1)]) F 3 dR_held_53 rfl (ii1 _) (by decide) rfl ?_
          refine wx_goto (tgt := 4) F dR_held_56 (by decide) ?_
          exact wx_lv [2, 3, 1, 0] rfl (hK4 _ _ _ _ ((h7).1 g8))
        · refine wx_aload_n F 0 dR_held_31 rfl rfl ?_
          refine wx_get (ci := 4) (C := qnR) (T := TR) (N := 25) (v := .ref (a 4)) F 0 (Nat.le_of_ble_eq_true rfl) rfl rfl hiR 5 (by decide) rfl lfR_19 rfl dR_held_32 ?_
          refine wx_iload_n F 3 dR_held_35 rfl rfl ?_
          refine wx_iald (N := 24) F 4 (Nat.le_of_ble_eq_true rfl) rfl 0 rfl e5 b6 (by omega) dR_held_36 ?_
          refine wx_iload_n F 1 dR_held_37 rfl rfl ?_
          refine wx_ishr F dR_held_38 ?_
          refine wx_iconst (v := 1) F dR_held_39 (by decide) ?_
          refine wx_iand F dR_held_40 ?_
          refine wx_iconst (v := 1) F dR_held_41 (by decide) ?_
          refine wx_icmp_ne (tgt := 51) F dR_held_42 (by decide) (fun g9 => ?_) (fun g9 => ?_)
          · refine wx_iload_n F 2 dR_held_51 rfl rfl ?_
            refine wx_istore_n (lv' := [(2, .int x2), (0, .ref (a 0)), (1, .int x1), (3, .int x3)]) F dR_held_52 rfl (by decide) rfl ?_
            refine wx_iinc (lv' := [(3, .int (x3 + 1)), (2, .int x2), (0, .ref (a 0)), (1, .int x1)]) F 3 dR_held_53 rfl (ii1 _) (by decide) rfl ?_
            refine wx_goto (tgt := 4) F dR_held_56 (by decide) ?_
            exact wx_lv [2, 3, 1, 0] rfl (hK4 _ _ _ _ (((h7).2 g8).1 g9))
          · refine wx_iload_n F 2 dR_held_45 rfl rfl ?_
            refine wx_iconst (v := 1) F dR_held_46 (by decide) ?_
            refine wx_iadd F dR_held_47 ?_
            refine wx_goto (tgt := 52) F dR_held_48 (by decide) ?_
            refine wx_istore_n (lv' := [(2, .int (x2 + 1)), (0, .ref (a 0)), (1, .int x1), (3, .int x3)]) F dR_held_52 rfl (by decide) rfl ?_
            refine wx_iinc (lv' := [(3, .int (x3 + 1)), (2, .int (x2 + 1)), (0, .ref (a 0)), (1, .int x1)]) F 3 dR_held_53 rfl (ii1 _) (by decide) rfl ?_
            refine wx_goto (tgt := 4) F dR_held_56 (by decide) ?_
            exact wx_lv [2, 3, 1, 0] rfl (hK4 _ _ _ _ (((h7).2 g8).2 g9))
theorem oR_held {l : Launch} {D : va_G} {cI cZ : ClassId} {a : Nat → Nat} {post : Int32 → MM → Prop} (hJ : IJ (sM D cI cZ a)) {M : MM} {x1 : Int32} (h : ∀ G : CX, gl G = l → gR G = rmR_held → FX G (sM D cI cZ a) cR_held 4 qnR (some .int) → wx G (sM D cI cZ a) 4 (Qxi G (sM D cI cZ a) post) M 0 [(0, .ref (a 0)), (1, .int x1)] []) : Ci l (sM D cI cZ a) yR_held wR_held rmR_held [.ref (a 0), .int x1] M post := Ci.of (cc := cR_held) (nL := 4) rfl rfl (Nat.le_of_ble_eq_true rfl) hJ h
