set_option maxRecDepth 20000 in
theorem sG_isTask_0 {G : CX} {D : va_G} {cI cZ cL cE : ClassId} {a : Nat → Nat} {w : Nat} {post : Int32 → MM → Prop} (F : FX G (sX D cI cZ cL cE a w) cG_isTask 2 qnG (some .boolean)) (hw : w ≤ 4) (hR : gR G = rmG_isTask) {M : MM} {x1 : Int32} (h : (x1 < 0 → (post 0 M)) ∧ (¬ x1 < 0 → (((M 1 0) ≤ x1 → (post 0 M)) ∧ (¬ (M 1 0) ≤ x1 → (post 1 M))))) : wx G (sX D cI cZ cL cE a w) 2 (Qxi G (sX D cI cZ cL cE a w) post) M 0 [(0, .ref (a 1)), (1, .int x1)] [] := by
  refine wx_iload_n F 1 dG_isTask_0 rfl rfl ?_
  refine wx_if_lt (tgt := 16) F dG_isTask_1 (by decide) (fun g1 => ?_) (fun g1 => ?_)
  · refine wx_iconst (v := 0) F dG_isTask_16 (by decide) ?_
    exact wx_zret F dG_isTask_17 rfl ((h).1 g1)
  · refine wx_iload_n F 1 dG_isTask_4 rfl rfl ?_
    refine wx_aload_n F 0 dG_isTask_5 rfl rfl ?_
    refine wx_get (ci := 1) (C := qnG) (T := TG) (N := 9) (v := .int (M 1 0)) F 1 (x_lt (by decide)) rfl rfl hiG 0 (by decide) rfl lfG_38 rfl dG_isTask_6 ?_
    refine wx_icmp_ge (tgt := 16) F dG_isTask_9 (by decide) (fun g2 => ?_) (fun g2 => ?_)
    · refine wx_iconst (v := 0) F dG_isTask_16 (by decide) ?_
      exact wx_zret F dG_isTask_17 rfl (((h).2 g1).1 g2)
    · refine wx_iconst (v := 1) F dG_isTask_12 (by decide) ?_
      refine wx_goto (tgt := 17) F dG_isTask_13 (by decide) ?_
      exact wx_zret F dG_isTask_17 rfl (((h).2 g1).2 g2)
theorem oG_isTask {l : Launch} {D : va_G} {cI cZ cL cE : ClassId} {a : Nat → Nat} {w : Nat} {post : Int32 → MM → Prop} (hJ : IJ (sX D cI cZ cL cE a w)) (hw : w ≤ 4) {M : MM} {x1 : Int32} (h : (x1 < 0 → (post 0 M)) ∧ (¬ x1 < 0 → (((M 1 0) ≤ x1 → (post 0 M)) ∧ (¬ (M 1 0) ≤ x1 → (post 1 M))))) : Ci l (sX D cI cZ cL cE a w) yG_isTask wG_isTask rmG_isTask [.ref (a 1), .int x1] M post := Ci.of (cc := cG_isTask) (nL := 2) rfl rfl (Nat.le_of_ble_eq_true rfl) hJ (fun G hl hR F => by subst hl; exact sG_isTask_0 F hw hR h)
set_option maxRecDepth 20000 in
theorem sG_isSource_0 {G : CX} {D : va_G} {cI cZ cL cE : ClassId} {a : Nat → Nat} {w : Nat} {post : Int32 → MM → Prop} (F : FX G (sX D cI cZ cL cE a w) cG_isSource 2 qnG (some .boolean)) (hw : w ≤ 4) (hR : gR G = rmG_isSource) {M : MM} {x1 : Int32} (h : ∃ j1 : Nat, x1 = nI j1 ∧ j1 < 24 ∧ ((¬ (M 7 j1) = 0 → (post 0 M)) ∧ ((M 7 j1) = 0 → (post 1 M)))) : wx G (sX D cI cZ cL cE a w) 2 (Qxi G (sX D cI cZ cL cE a w) post) M 0 [(0, .ref (a 1)), (1, .int x1)] [] := by
  refine wx_aload_n F 0 dG_isSource_0 rfl rfl ?_
  refine wx_get (ci := 1) (C := qnG) (T := TG) (N := 9) (v := .ref (a 7)) F 1 (x_lt (by decide)) rfl rfl hiG 7 (by decide) rfl lfG_32 rfl dG_isSource_1 ?_
  refine wx_iload_n F 1 dG_isSource_4 rfl rfl ?_
  obtain ⟨j1, e2, b3, h4⟩ := h
  refine wx_iald (N := 24) F 7 (x_lt (by decide)) rfl 0 rfl e2 b3 (by omega) dG_isSource_5 ?_
  refine wx_if_ne (tgt := 13) F dG_isSource_6 (by decide) (fun g5 => ?_) (fun g5 => ?_)
  · refine wx_iconst (v := 0) F dG_isSource_13 (by decide) ?_
    exact wx_zret F dG_isSource_14 rfl ((h4).1 g5)
  · refine wx_iconst (v := 1) F dG_isSource_9 (by decide) ?_
    refine wx_goto (tgt := 14) F dG_isSource_10 (by decide) ?_
    exact wx_zret F dG_isSource_14 rfl ((h4).2 g5)
theorem oG_isSource {l : Launch} {D : va_G} {cI cZ cL cE : ClassId} {a : Nat → Nat} {w : Nat} {post : Int32 → MM → Prop} (hJ : IJ (sX D cI cZ cL cE a w)) (hw : w ≤ 4) {M : MM} {x1 : Int32} (h : ∃ j1 : Nat, x1 = nI j1 ∧ j1 < 24 ∧ ((¬ (M 7 j1) = 0 → (post 0 M)) ∧ ((M 7 j1) = 0 → (post 1 M)))) : Ci l (sX D cI cZ cL cE a w) yG_isSource wG_isSource rmG_isSource [.ref (a 1), .int x1] M post := Ci.of (cc := cG_isSource) (nL := 2) rfl rfl (Nat.le_of_ble_eq_true rfl) hJ (fun G hl hR F => by subst hl; exact sG_isSource_0 F hw hR h)
set_option maxRecDepth 20000 in
theorem sG_canHoldChildren_0 {G : CX} {D : va_G} {cI cZ cL cE : ClassId} {a : Nat → Nat} {w : Nat} {post : Int32 → MM → Prop} (F : FX G (sX D cI cZ cL cE a w) cG_canHoldChildren 2 qnG (some .boolean)) (hw : w ≤ 4) (hR : gR G = rmG_canHoldChildren) {M : MM} {x1 : Int32} (h : ∃ j1 : Nat, x1 = nI j1 ∧ j1 < 24 ∧ (((M 2 j1) = 2 → (post 1 M)) ∧ (¬ (M 2 j1) = 2 → ((¬ (M 2 j1) = 3 → (post 0 M)) ∧ ((M 2 j1) = 3 → (post 1 M)))))) : wx G (sX D cI cZ cL cE a w) 2 (Qxi G (sX D cI cZ cL cE a w) post) M 0 [(0, .ref (a 1)), (1, .int x1)] [] := by
  refine wx_aload_n F 0 dG_canHoldChildren_0 rfl rfl ?_
  refine wx_get (ci := 1) (C := qnG) (T := TG) (N := 9) (v := .ref (a 2)) F 1 (x_lt (by decide)) rfl rfl hiG 1 (by decide) rfl lfG_9 rfl dG_canHoldChildren_1 ?_
  refine wx_iload_n F 1 dG_canHoldChildren_4 rfl rfl ?_
  obtain ⟨j1, e2, b3, h4⟩ := h
  refine wx_iald (N := 24) F 2 (x_lt (by decide)) rfl 0 rfl e2 b3 (by omega) dG_canHoldChildren_5 ?_
  refine wx_iconst (v := 2) F dG_canHoldChildren_6 (by decide) ?_
  refine wx_icmp_eq (tgt := 20) F dG_canHoldChildren_7 (by decide) (fun g5 => ?_) (fun g5 => ?_)
  · refine wx_iconst (v := 1) F dG_canHoldChildren_20 (by decide) ?_
    refine wx_goto (tgt := 25) F dG_canHoldChildren_21 (by decide) ?_
    exact wx_zret F dG_canHoldChildren_25 rfl ((h4).1 g5)
  · refine wx_aload_n F 0 dG_canHoldChildren_10 rfl rfl ?_
    refine wx_get (ci := 1) (C := qnG) (T := TG) (N := 9) (v := .ref (a 2)) F 1 (x_lt (by decide)) rfl rfl hiG 1 (by decide) rfl lfG_9 rfl dG_canHoldChildren_11 ?_
    refine wx_iload_n F 1 dG_canHoldChildren_14 rfl rfl ?_
    refine wx_iald (N := 24) F 2 (x_lt (by decide)) rfl 0 rfl e2 b3 (by omega) dG_canHoldChildren_15 ?_
    refine wx_iconst (v := 3) F dG_canHoldChildren_16 (by decide) ?_
    refine wx_icmp_ne (tgt := 24) F dG_canHoldChildren_17 (by decide) (fun g6 => ?_) (fun g6 => ?_)
    · refine wx_iconst (v := 0) F dG_canHoldChildren_24 (by decide) ?_
      exact wx_zret F dG_canHoldChildren_25 rfl (((h4).2 g5).1 g6)
    · refine wx_iconst (v := 1) F dG_canHoldChildren_20 (by decide) ?_
      refine wx_goto (tgt := 25) F dG_canHoldChildren_21 (by decide) ?_
      exact wx_zret F dG_canHoldChildren_25 rfl (((h4).2 g5).2 g6)
theorem oG_canHoldChildren {l : Launch} {D : va_G} {cI cZ cL cE : ClassId} {a : Nat → Nat} {w : Nat} {post : Int32 → MM → Prop} (hJ : IJ (sX D cI cZ cL cE a w)) (hw : w ≤ 4) {M : MM} {x1 : Int32} (h : ∃ j1 : Nat, x1 = nI j1 ∧ j1 < 24 ∧ (((M 2 j1) = 2 → (post 1 M)) ∧ (¬ (M 2 j1) = 2 → ((¬ (M 2 j1) = 3 → (post 0 M)) ∧ ((M 2 j1) = 3 → (post 1 M)))))) : Ci l (sX D cI cZ cL cE a w) yG_canHoldChildren wG_canHoldChildren rmG_canHoldChildren [.ref (a 1), .int x1] M post := Ci.of (cc := cG_canHoldChildren) (nL := 2) rfl rfl (Nat.le_of_ble_eq_true rfl) hJ (fun G hl hR F => by subst hl; exact sG_canHoldChildren_0 F hw hR h)
set_option maxRecDepth 20000 in
theorem sG_takesTask_0 {G : CX} {D : va_G} {cI cZ cL cE : ClassId} {a : Nat → Nat} {w : Nat} {post : Int32 → MM → Prop} (F : FX G (sX D cI cZ cL cE a w) cG_takesTask 4 qnG (some .boolean)) (hw : w ≤ 4) (hR : gR G = rmG_takesTask) {M : MM} {x1 x2 x3 : Int32} (h : (24 ≤ (M 1 0) → (post 0 M)) ∧ (¬ 24 ≤ (M 1 0) → ((x1 < 0 → (post 0 M)) ∧ (¬ x1 < 0 → ((x1 ≤ 3 → ((x3 < 0 → (post 0 M)) ∧ (¬ x3 < 0 → ((x3 ≤ 15 → ((x2 = (-1) → (post 1 M)) ∧ (¬ x2 = (-1) → (∃ po7 : Int32 → MM → Prop, Ci (gl G) (sX D cI cZ cL cE a w) yG_isTask wG_isTask rmG_isTask [.ref (a 1), .int x2] M po7 ∧ ∀ (r10 : Int32) (M11 : MM), po7 r10 M11 → ((r10 = 0 → (post 0 M11)) ∧ (¬ r10 = 0 → (∃ po14 : Int32 → MM → Prop, Ci (gl G) (sX D cI cZ cL cE a w) yG_canHoldChildren wG_canHoldChildren rmG_canHoldChildren [.ref (a 1), .int x2] M11 po14 ∧ ∀ (r17 : Int32) (M18 : MM), po14 r17 M18 → ((r17 = 0 → (post 0 M18)) ∧ (¬ r17 = 0 → (∃ j21 : Nat, x2 = nI j21 ∧ j21 < 24 ∧ ((3 ≤ (M18 4 j21) → (post 0 M18)) ∧ (¬ 3 ≤ (M18 4 j21) → (post 1 M18))))))))))))) ∧ (¬ x3 ≤ 15 → (post 0 M)))))) ∧ (¬ x1 ≤ 3 → (post 0 M))))))) : wx G (sX D cI cZ cL cE a w) 4 (Qxi G (sX D cI cZ cL cE a w) post) M 0 [(0, .ref (a 1)), (1, .int x1), (2, .int x2), (3, .int x3)] [] := by
  refine wx_aload_n F 0 dG_takesTask_0 rfl rfl ?_
  refine wx_get (ci := 1) (C := qnG) (T := TG) (N := 9) (v := .int (M 1 0)) F 1 (x_lt (by decide)) rfl rfl hiG 0 (by decide) rfl lfG_38 rfl dG_takesTask_1 ?_
  refine wx_bipush (v := 24) F dG_takesTask_4 (by decide) ?_
  refine wx_icmp_ge (tgt := 18) F dG_takesTask_6 (by decide) (fun g1 => ?_) (fun g1 => ?_)
  · refine wx_iconst (v := 0) F dG_takesTask_18 (by decide) ?_
    exact wx_zret F dG_takesTask_19 rfl ((h).1 g1)
  · refine wx_iload_n F 1 dG_takesTask_9 rfl rfl ?_
    refine wx_if_lt (tgt := 18) F dG_takesTask_10 (by decide) (fun g2 => ?_) (fun g2 => ?_)
    · refine wx_iconst (v := 0) F dG_takesTask_18 (by decide) ?_
      exact wx_zret F dG_takesTask_19 rfl (((h).2 g1).1 g2)
    · refine wx_iload_n F 1 dG_takesTask_13 rfl rfl ?_
      refine wx_iconst (v := 3) F dG_takesTask_14 (by decide) ?_
      refine wx_icmp_le (tgt := 20) F dG_takesTask_15 (by decide) (fun g3 => ?_) (fun g3 => ?_)
      · refine wx_iload_n F 3 dG_takesTask_20 rfl rfl ?_
        refine wx_if_lt (tgt := 30) F dG_takesTask_21 (by decide) (fun g4 => ?_) (fun g4 => ?_)
        · refine wx_iconst (v := 0) F dG_takesTask_30 (by decide) ?_
          exact wx_zret F dG_takesTask_31 rfl (((((h).2 g1).2 g2).1 g3).1 g4)
        · refine wx_iload_n F 3 dG_takesTask_24 rfl rfl ?_
          refine wx_bipush (v := 15) F dG_takesTask_25 (by decide) ?_
          refine wx_icmp_le (tgt := 32) F dG_takesTask_27 (by decide) (fun g5 => ?_) (fun g5 => ?_)
          · refine wx_iload_n F 2 dG_takesTask_32 rfl rfl ?_
            refine wx_iconst (v := (-1)) F dG_takesTask_33 (by decide) ?_
            refine wx_icmp_eq (tgt := 63) F dG_takesTask_34 (by decide) (fun g6 => ?_) (fun g6 => ?_)
            · refine wx_iconst (v := 1) F dG_takesTask_63 (by decide) ?_
              refine wx_goto (tgt := 68) F dG_takesTask_64 (by decide) ?_
              exact wx_zret F dG_takesTask_68 rfl (((((((h).2 g1).2 g2).1 g3).2 g4).1 g5).1 g6)
            · refine wx_aload_n F 0 dG_takesTask_37 rfl rfl ?_
              refine wx_iload_n F 2 dG_takesTask_38 rfl rfl ?_
              obtain ⟨po7, c8, h9⟩ := ((((((h).2 g1).2 g2).1 g3).2 g4).1 g5).2 g6
              refine wx_calli F 1 c8 (x_lt (by decide)) rfl rfl (cw_V F.1.2.2.2.2 lmG_42 cbG_isTask rfl rfl ⟨by rw [hR]; exact Nat.le_of_ble_eq_true rfl, by rw [hR]; exact Nat.le_of_ble_eq_true rfl⟩) rfl rfl (Nat.le_of_ble_eq_true rfl) dG_takesTask_39 (fun r10 M11 p12 => ?_)
              refine wx_if_eq (tgt := 67) F dG_takesTask_42 (by decide) (fun g13 => ?_) (fun g13 => ?_)
              · refine wx_iconst (v := 0) F dG_takesTask_67 (by decide) ?_
                exact wx_zret F dG_takesTask_68 rfl ((h9 r10 M11 p12).1 g13)
              · refine wx_aload_n F 0 dG_takesTask_45 rfl rfl ?_
                refine wx_iload_n F 2 dG_takesTask_46 rfl rfl ?_
                obtain ⟨po14, c15, h16⟩ := (h9 r10 M11 p12).2 g13
                refine wx_calli F 1 c15 (x_lt (by decide)) rfl rfl (cw_V F.1.2.2.2.2 lmG_46 cbG_canHoldChildren rfl rfl ⟨by rw [hR]; exact Nat.le_of_ble_eq_true rfl, by rw [hR]; exact Nat.le_of_ble_eq_true rfl⟩) rfl rfl (Nat.le_of_ble_eq_true rfl) dG_takesTask_47 (fun r17 M18 p19 => ?_)
                refine wx_if_eq (tgt := 67) F dG_takesTask_50 (by decide) (fun g20 => ?_) (fun g20 => ?_)
                · refine wx_iconst (v := 0) F dG_takesTask_67 (by decide) ?_
                  exact wx_zret F dG_takesTask_68 rfl ((h16 r17 M18 p19).1 g20)
                · refine wx_aload_n F 0 dG_takesTask_53 rfl rfl ?_
                  refine wx_get (ci := 1) (C := qnG) (T := TG) (N := 9) (v := .ref (a 4)) F 1 (x_lt (by decide)) rfl rfl hiG 3 (by decide) rfl lfG_18 rfl dG_takesTask_54 ?_
                  refine wx_iload_n F 2 dG_takesTask_57 rfl rfl ?_
                  obtain ⟨j21, e22, b23, h24⟩ := (h16 r17 M18 p19).2 g20
                  refine wx_iald (N := 24) F 4 (x_lt (by decide)) rfl 0 rfl e22 b23 (by omega) dG_takesTask_58 ?_
                  refine wx_iconst (v := 3) F dG_takesTask_59 (by decide) ?_
                  refine wx_icmp_ge (tgt := 67) F dG_takesTask_60 (by decide) (fun g25 => ?_) (fun g25 => ?_)
                  · refine wx_iconst (v := 0) F dG_takesTask_67 (by decide) ?_
                    exact wx_zret F dG_takesTask_68 rfl ((h24).1 g25)
                  · refine wx_iconst (v := 1) F dG_takesTask_63 (by decide) ?_
                    refine wx_goto (tgt := 68) F dG_takesTask_64 (by decide) ?_
                    exact wx_zret F dG_takesTask_68 rfl ((h24).2 g25)
          · refine wx_iconst (v := 0) F dG_takesTask_30 (by decide) ?_
            exact wx_zret F dG_takesTask_31 rfl ((((((h).2 g1).2 g2).1 g3).2 g4).2 g5)
      · refine wx_iconst (v := 0) F dG_takesTask_18 (by decide) ?_
        exact wx_zret F dG_takesTask_19 rfl ((((h).2 g1).2 g2).2 g3)
theorem oG_takesTask {l : Launch} {D : va_G} {cI cZ cL cE : ClassId} {a : Nat → Nat} {w : Nat} {post : Int32 → MM → Prop} (hJ : IJ (sX D cI cZ cL cE a w)) (hw : w ≤ 4) {M : MM} {x1 x2 x3 : Int32} (h : (24 ≤ (M 1 0) → (post 0 M)) ∧ (¬ 24 ≤ (M 1 0) → ((x1 < 0 → (post 0 M)) ∧ (¬ x1 < 0 → ((x1 ≤ 3 → ((x3 < 0 → (post 0 M)) ∧ (¬ x3 < 0 → ((x3 ≤ 15 → ((x2 = (-1) → (post 1 M)) ∧ (¬ x2 = (-1) → (∃ po7 : Int32 → MM → Prop, Ci l (sX D cI cZ cL cE a w) yG_isTask wG_isTask rmG_isTask [.ref (a 1), .int x2] M po7 ∧ ∀ (r10 : Int32) (M11 : MM), po7 r10 M11 → ((r10 = 0 → (post 0 M11)) ∧ (¬ r10 = 0 → (∃ po14 : Int32 → MM → Prop, Ci l (sX D cI cZ cL cE a w) yG_canHoldChildren wG_canHoldChildren rmG_canHoldChildren [.ref (a 1), .int x2] M11 po14 ∧ ∀ (r17 : Int32) (M18 : MM), po14 r17 M18 → ((r17 = 0 → (post 0 M18)) ∧ (¬ r17 = 0 → (∃ j21 : Nat, x2 = nI j21 ∧ j21 < 24 ∧ ((3 ≤ (M18 4 j21) → (post 0 M18)) ∧ (¬ 3 ≤ (M18 4 j21) → (post 1 M18))))))))))))) ∧ (¬ x3 ≤ 15 → (post 0 M)))))) ∧ (¬ x1 ≤ 3 → (post 0 M))))))) : Ci l (sX D cI cZ cL cE a w) yG_takesTask wG_takesTask rmG_takesTask [.ref (a 1), .int x1, .int x2, .int x3] M post := Ci.of (cc := cG_takesTask) (nL := 4) rfl rfl (Nat.le_of_ble_eq_true rfl) hJ (fun G hl hR F => by subst hl; exact sG_takesTask_0 F hw hR h)
set_option maxRecDepth 20000 in
theorem sG_addTask_0 {G : CX} {D : va_G} {cI cZ cL cE : ClassId} {a : Nat → Nat} {w : Nat} {post : Int32 → MM → Prop} (F : FX G (sX D cI cZ cL cE a w) cG_addTask 5 qnG (some .int)) (hw : w ≤ 4) (hR : gR G = rmG_addTask) {M : MM} {x1 x2 x3 : Int32} (h : ∃ j3 : Nat, (M 1 0) = nI j3 ∧ j3 < 24 ∧ (∀ M1 : MM, M1 = mp M 2 j3 x1 → (∀ M7 : MM, M7 = mp M1 3 j3 x2 → ((¬ x2 = (-1) → (∃ j10 : Nat, x2 = nI j10 ∧ j10 < 24 ∧ (∀ M14 : MM, M14 = mp M7 4 j3 ((M7 4 j10) + 1) → (∀ M16 : MM, M16 = mp M14 5 j3 x3 → (∀ M18 : MM, M18 = mp M16 1 0 ((M16 1 0) + 1) → (post (M 1 0) M18)))))) ∧ (x2 = (-1) → (∀ M20 : MM, M20 = mp M7 4 j3 0 → (∀ M22 : MM, M22 = mp M20 5 j3 x3 → (∀ M24 : MM, M24 = mp M22 1 0 ((M22 1 0) + 1) → (post (M 1 0) M24))))))))) : wx G (sX D cI cZ cL cE a w) 5 (Qxi G (sX D cI cZ cL cE a w) post) M 0 [(0, .ref (a 1)), (1, .int x1), (2, .int x2), (3, .int x3)] [] := by
  refine wx_aload_n F 0 dG_addTask_0 rfl rfl ?_
  refine wx_get (ci := 1) (C := qnG) (T := TG) (N := 9) (v := .int (M 1 0)) F 1 (x_lt (by decide)) rfl rfl hiG 0 (by decide) rfl lfG_38 rfl dG_addTask_1 ?_
  refine wx_istore (lv' := [(4, .int (M 1 0)), (0, .ref (a 1)), (1, .int x1), (2, .int x2), (3, .int x3)]) F dG_addTask_4 (by decide) rfl ?_
  refine wx_aload_n F 1 dG_addTask_6 rfl rfl ?_
  refine wx_get (ci := 1) (C := qnG) (T := TG) (N := 9) (v := .ref (a 2)) F 1 (x_lt (by decide)) rfl rfl hiG 1 (by decide) rfl lfG_9 rfl dG_addTask_7 ?_
  refine wx_iload F 0 dG_addTask_10 rfl ?_
  refine wx_iload_n F 2 dG_addTask_12 rfl rfl ?_
  obtain ⟨j3, e4, b5, h6⟩ := h
  refine wx_iast (N := 24) F 2 (x_lt (by decide)) (fun _ => rfl) 0 rfl e4 b5 (by omega) dG_addTask_13 (wx_nm (fun M1 e2 => ?_))
  refine wx_aload_n F 1 dG_addTask_14 rfl rfl ?_
  refine wx_get (ci := 1) (C := qnG) (T := TG) (N := 9) (v := .ref (a 3)) F 1 (x_lt (by decide)) rfl rfl hiG 2 (by decide) rfl lfG_15 rfl dG_addTask_15 ?_
  refine wx_iload F 0 dG_addTask_18 rfl ?_
  refine wx_iload_n F 3 dG_addTask_20 rfl rfl ?_
  refine wx_iast (N := 24) F 3 (x_lt (by decide)) (fun _ => rfl) 0 rfl e4 b5 (by omega) dG_addTask_21 (wx_nm (fun M7 e8 => ?_))
  refine wx_aload_n F 1 dG_addTask_22 rfl rfl ?_
  refine wx_get (ci := 1) (C := qnG) (T := TG) (N := 9) (v := .ref (a 4)) F 1 (x_lt (by decide)) rfl rfl hiG 3 (by decide) rfl lfG_18 rfl dG_addTask_23 ?_
  refine wx_iload F 0 dG_addTask_26 rfl ?_
  refine wx_iload_n F 3 dG_addTask_28 rfl rfl ?_
  refine wx_iconst (v := (-1)) F dG_addTask_29 (by decide) ?_
  refine wx_icmp_ne (tgt := 37) F dG_addTask_30 (by decide) (fun g9 => ?_) (fun g9 => ?_)
  · refine wx_aload_n F 1 dG_addTask_37 rfl rfl ?_
    refine wx_get (ci := 1) (C := qnG) (T := TG) (N := 9) (v := .ref (a 4)) F 1 (x_lt (by decide)) rfl rfl hiG 3 (by decide) rfl lfG_18 rfl dG_addTask_38 ?_
    refine wx_iload_n F 3 dG_addTask_41 rfl rfl ?_
    obtain ⟨j10, e11, b12, h13⟩ := ((h6 M1 e2) M7 e8).1 g9
    refine wx_iald (N := 24) F 4 (x_lt (by decide)) rfl 0 rfl e11 b12 (by omega) dG_addTask_42 ?_
    refine wx_iconst (v := 1) F dG_addTask_43 (by decide) ?_
    refine wx_iadd F dG_addTask_44 ?_
    refine wx_iast (N := 24) F 4 (x_lt (by decide)) (fun _ => rfl) 0 rfl e4 b5 (by omega) dG_addTask_45 (wx_nm (fun M14 e15 => ?_))
    refine wx_aload_n F 1 dG_addTask_46 rfl rfl ?_
    refine wx_get (ci := 1) (C := qnG) (T := TG) (N := 9) (v := .ref (a 5)) F 1 (x_lt (by decide)) rfl rfl hiG 4 (by decide) rfl lfG_21 rfl dG_addTask_47 ?_
    refine wx_iload F 0 dG_addTask_50 rfl ?_
    refine wx_iload_n F 4 dG_addTask_52 rfl rfl ?_
    refine wx_iast (N := 24) F 5 (x_lt (by decide)) (fun _ => rfl) 0 rfl e4 b5 (by omega) dG_addTask_53 (wx_nm (fun M16 e17 => ?_))
    refine wx_aload_n F 1 dG_addTask_54 rfl rfl ?_
    refine wx_dup F dG_addTask_55 rfl ?_
    refine wx_get (ci := 1) (C := qnG) (T := TG) (N := 9) (v := .int (M16 1 0)) F 1 (x_lt (by decide)) rfl rfl hiG 0 (by decide) rfl lfG_38 rfl dG_addTask_56 ?_
    refine wx_iconst (v := 1) F dG_addTask_59 (by decide) ?_
    refine wx_iadd F dG_addTask_60 ?_
    refine wx_put (ci := 1) (C := qnG) (T := TG) (N := 9) (ty := .int) F 1 (x_lt (by decide)) rfl rfl hiG tyG tyG_ok nmG 0 (by decide) rfl lfG_38 rfl (by decide +kernel) rfl rfl (Nat.le_of_ble_eq_true rfl) rfl dG_addTask_61 (wx_nm (fun M18 e19 => ?_))
    refine wx_iload F 0 dG_addTask_64 rfl ?_
    exact wx_iret F dG_addTask_66 (((h13 M14 e15) M16 e17) M18 e19)
  · refine wx_iconst (v := 0) F dG_addTask_33 (by decide) ?_
    refine wx_goto (tgt := 45) F dG_addTask_34 (by decide) ?_
    refine wx_iast (N := 24) F 4 (x_lt (by decide)) (fun _ => rfl) 0 rfl e4 b5 (by omega) dG_addTask_45 (wx_nm (fun M20 e21 => ?_))
    refine wx_aload_n F 1 dG_addTask_46 rfl rfl ?_
    refine wx_get (ci := 1) (C := qnG) (T := TG) (N := 9) (v := .ref (a 5)) F 1 (x_lt (by decide)) rfl rfl hiG 4 (by decide) rfl lfG_21 rfl dG_addTask_47 ?_
    refine wx_iload F 0 dG_addTask_50 rfl ?_
    refine wx_iload_n F 4 dG_addTask_52 rfl rfl ?_
    refine wx_iast (N := 24) F 5 (x_lt (by decide)) (fun _ => rfl) 0 rfl e4 b5 (by omega) dG_addTask_53 (wx_nm (fun M22 e23 => ?_))
    refine wx_aload_n F 1 dG_addTask_54 rfl rfl ?_
    refine wx_dup F dG_addTask_55 rfl ?_
    refine wx_get (ci := 1) (C := qnG) (T := TG) (N := 9) (v := .int (M22 1 0)) F 1 (x_lt (by decide)) rfl rfl hiG 0 (by decide) rfl lfG_38 rfl dG_addTask_56 ?_
    refine wx_iconst (v := 1) F dG_addTask_59 (by decide) ?_
    refine wx_iadd F dG_addTask_60 ?_
    refine wx_put (ci := 1) (C := qnG) (T := TG) (N := 9) (ty := .int) F 1 (x_lt (by decide)) rfl rfl hiG tyG tyG_ok nmG 0 (by decide) rfl lfG_38 rfl (by decide +kernel) rfl rfl (Nat.le_of_ble_eq_true rfl) rfl dG_addTask_61 (wx_nm (fun M24 e25 => ?_))
    refine wx_iload F 0 dG_addTask_64 rfl ?_
    exact wx_iret F dG_addTask_66 ((((((h6 M1 e2) M7 e8).2 g9) M20 e21) M22 e23) M24 e25)
theorem oG_addTask {l : Launch} {D : va_G} {cI cZ cL cE : ClassId} {a : Nat → Nat} {w : Nat} {post : Int32 → MM → Prop} (hJ : IJ (sX D cI cZ cL cE a w)) (hw : w ≤ 4) {M : MM} {x1 x2 x3 : Int32} (h : ∃ j3 : Nat, (M 1 0) = nI j3 ∧ j3 < 24 ∧ (∀ M1 : MM, M1 = mp M 2 j3 x1 → (∀ M7 : MM, M7 = mp M1 3 j3 x2 → ((¬ x2 = (-1) → (∃ j10 : Nat, x2 = nI j10 ∧ j10 < 24 ∧ (∀ M14 : MM, M14 = mp M7 4 j3 ((M7 4 j10) + 1) → (∀ M16 : MM, M16 = mp M14 5 j3 x3 → (∀ M18 : MM, M18 = mp M16 1 0 ((M16 1 0) + 1) → (post (M 1 0) M18)))))) ∧ (x2 = (-1) → (∀ M20 : MM, M20 = mp M7 4 j3 0 → (∀ M22 : MM, M22 = mp M20 5 j3 x3 → (∀ M24 : MM, M24 = mp M22 1 0 ((M22 1 0) + 1) → (post (M 1 0) M24))))))))) : Ci l (sX D cI cZ cL cE a w) yG_addTask wG_addTask rmG_addTask [.ref (a 1), .int x1, .int x2, .int x3] M post := Ci.of (cc := cG_addTask) (nL := 5) rfl rfl (Nat.le_of_ble_eq_true rfl) hJ (fun G hl hR F => by subst hl; exact sG_addTask_0 F hw hR h)
set_option maxRecDepth 20000 in
theorem sG_takesEdge_0 {G : CX} {D : va_G} {cI cZ cL cE : ClassId} {a : Nat → Nat} {w : Nat} {post : Int32 → MM → Prop} (F : FX G (sX D cI cZ cL cE a w) cG_takesEdge 3 qnG (some .boolean)) (hw : w ≤ 4) (hR : gR G = rmG_takesEdge) {M : MM} {x1 x2 : Int32} (h : ∃ po1 : Int32 → MM → Prop, Ci (gl G) (sX D cI cZ cL cE a w) yG_isTask wG_isTask rmG_isTask [.ref (a 1), .int x1] M po1 ∧ ∀ (r4 : Int32) (M5 : MM), po1 r4 M5 → ((r4 = 0 → (post 0 M5)) ∧ (¬ r4 = 0 → (∃ po8 : Int32 → MM → Prop, Ci (gl G) (sX D cI cZ cL cE a w) yG_isTask wG_isTask rmG_isTask [.ref (a 1), .int x2] M5 po8 ∧ ∀ (r11 : Int32) (M12 : MM), po8 r11 M12 → ((r11 = 0 → (post 0 M12)) ∧ (¬ r11 = 0 → (∃ j15 : Nat, x1 = nI j15 ∧ j15 < 24 ∧ (∃ j19 : Nat, x2 = nI j19 ∧ j19 < 24 ∧ ((¬ (M12 3 j15) = (M12 3 j19) → (post 0 M12)) ∧ ((M12 3 j15) = (M12 3 j19) → ((6 ≤ (M12 6 j15) → (post 0 M12)) ∧ (¬ 6 ≤ (M12 6 j15) → (∃ po25 : Int32 → MM → Prop, Ci (gl G) (sX D cI cZ cL cE a w) yG_hasEdge wG_hasEdge rmG_hasEdge [.ref (a 1), .int x1, .int x2] M12 po25 ∧ ∀ (r28 : Int32) (M29 : MM), po25 r28 M29 → ((¬ r28 = 0 → (post 0 M29)) ∧ (r28 = 0 → (post 1 M29)))))))))))))))) : wx G (sX D cI cZ cL cE a w) 3 (Qxi G (sX D cI cZ cL cE a w) post) M 0 [(0, .ref (a 1)), (1, .int x1), (2, .int x2)] [] := by
  refine wx_aload_n F 0 dG_takesEdge_0 rfl rfl ?_
  refine wx_iload_n F 1 dG_takesEdge_1 rfl rfl ?_
  obtain ⟨po1, c2, h3⟩ := h
  refine wx_calli F 1 c2 (x_lt (by decide)) rfl rfl (cw_V F.1.2.2.2.2 lmG_42 cbG_isTask rfl rfl ⟨by rw [hR]; exact Nat.le_of_ble_eq_true rfl, by rw [hR]; exact Nat.le_of_ble_eq_true rfl⟩) rfl rfl (Nat.le_of_ble_eq_true rfl) dG_takesEdge_2 (fun r4 M5 p6 => ?_)
  refine wx_if_eq (tgt := 55) F dG_takesEdge_5 (by decide) (fun g7 => ?_) (fun g7 => ?_)
  · refine wx_iconst (v := 0) F dG_takesEdge_55 (by decide) ?_
    exact wx_zret F dG_takesEdge_56 rfl ((h3 r4 M5 p6).1 g7)
  · refine wx_aload_n F 0 dG_takesEdge_8 rfl rfl ?_
    refine wx_iload_n F 2 dG_takesEdge_9 rfl rfl ?_
    obtain ⟨po8, c9, h10⟩ := (h3 r4 M5 p6).2 g7
    refine wx_calli F 1 c9 (x_lt (by decide)) rfl rfl (cw_V F.1.2.2.2.2 lmG_42 cbG_isTask rfl rfl ⟨by rw [hR]; exact Nat.le_of_ble_eq_true rfl, by rw [hR]; exact Nat.le_of_ble_eq_true rfl⟩) rfl rfl (Nat.le_of_ble_eq_true rfl) dG_takesEdge_10 (fun r11 M12 p13 => ?_)
    refine wx_if_eq (tgt := 55) F dG_takesEdge_13 (by decide) (fun g14 => ?_) (fun g14 => ?_)
    · refine wx_iconst (v := 0) F dG_takesEdge_55 (by decide) ?_
      exact wx_zret F dG_takesEdge_56 rfl ((h10 r11 M12 p13).1 g14)
    · refine wx_aload_n F 0 dG_takesEdge_16 rfl rfl ?_
      refine wx_get (ci := 1) (C := qnG) (T := TG) (N := 9) (v := .ref (a 3)) F 1 (x_lt (by decide)) rfl rfl hiG 2 (by decide) rfl lfG_15 rfl dG_takesEdge_17 ?_
      refine wx_iload_n F 1 dG_takesEdge_20 rfl rfl ?_
      obtain ⟨j15, e16, b17, h18⟩ := (h10 r11 M12 p13).2 g14
      refine wx_iald (N := 24) F 3 (x_lt (by decide)) rfl 0 rfl e16 b17 (by omega) dG_takesEdge_21 ?_
      refine wx_aload_n F 0 dG_takesEdge_22 rfl rfl ?_
      refine wx_get (ci := 1) (C := qnG) (T := TG) (N := 9) (v := .ref (a 3)) F 1 (x_lt (by decide)) rfl rfl hiG 2 (by decide) rfl lfG_15 rfl dG_takesEdge_23 ?_
      refine wx_iload_n F 2 dG_takesEdge_26 rfl rfl ?_
      obtain ⟨j19, e20, b21, h22⟩ := h18
      refine wx_iald (N := 24) F 3 (x_lt (by decide)) rfl 0 rfl e20 b21 (by omega) dG_takesEdge_27 ?_
      refine wx_icmp_ne (tgt := 55) F dG_takesEdge_28 (by decide) (fun g23 => ?_) (fun g23 => ?_)
      · refine wx_iconst (v := 0) F dG_takesEdge_55 (by decide) ?_
        exact wx_zret F dG_takesEdge_56 rfl ((h22).1 g23)
      · refine wx_aload_n F 0 dG_takesEdge_31 rfl rfl ?_
        refine wx_get (ci := 1) (C := qnG) (T := TG) (N := 9) (v := .ref (a 6)) F 1 (x_lt (by decide)) rfl rfl hiG 6 (by decide) rfl lfG_29 rfl dG_takesEdge_32 ?_
        refine wx_iload_n F 1 dG_takesEdge_35 rfl rfl ?_
        refine wx_iald (N := 24) F 6 (x_lt (by decide)) rfl 0 rfl e16 b17 (by omega) dG_takesEdge_36 ?_
        refine wx_bipush (v := 6) F dG_takesEdge_37 (by decide) ?_
        refine wx_icmp_ge (tgt := 55) F dG_takesEdge_39 (by decide) (fun g24 => ?_) (fun g24 => ?_)
        · refine wx_iconst (v := 0) F dG_takesEdge_55 (by decide) ?_
          exact wx_zret F dG_takesEdge_56 rfl (((h22).2 g23).1 g24)
        · refine wx_aload_n F 0 dG_takesEdge_42 rfl rfl ?_
          refine wx_iload_n F 1 dG_takesEdge_43 rfl rfl ?_
          refine wx_iload_n F 2 dG_takesEdge_44 rfl rfl ?_
          obtain ⟨po25, c26, h27⟩ := ((h22).2 g23).2 g24
          refine wx_calli F 1 c26 (x_lt (by decide)) rfl rfl (cw_V F.1.2.2.2.2 lmG_49 cbG_hasEdge rfl rfl ⟨by rw [hR]; exact Nat.le_of_ble_eq_true rfl, by rw [hR]; exact Nat.le_of_ble_eq_true rfl⟩) rfl rfl (Nat.le_of_ble_eq_true rfl) dG_takesEdge_45 (fun r28 M29 p30 => ?_)
          refine wx_if_ne (tgt := 55) F dG_takesEdge_48 (by decide) (fun g31 => ?_) (fun g31 => ?_)
          · refine wx_iconst (v := 0) F dG_takesEdge_55 (by decide) ?_
            exact wx_zret F dG_takesEdge_56 rfl ((h27 r28 M29 p30).1 g31)
          · refine wx_iconst (v := 1) F dG_takesEdge_51 (by decide) ?_
            refine wx_goto (tgt := 56) F dG_takesEdge_52 (by decide) ?_
            exact wx_zret F dG_takesEdge_56 rfl ((h27 r28 M29 p30).2 g31)
theorem oG_takesEdge {l : Launch} {D : va_G} {cI cZ cL cE : ClassId} {a : Nat → Nat} {w : Nat} {post : Int32 → MM → Prop} (hJ : IJ (sX D cI cZ cL cE a w)) (hw : w ≤ 4) {M : MM} {x1 x2 : Int32} (h : ∃ po1 : Int32 → MM → Prop, Ci l (sX D cI cZ cL cE a w) yG_isTask wG_isTask rmG_isTask [.ref (a 1), .int x1] M po1 ∧ ∀ (r4 : Int32) (M5 : MM), po1 r4 M5 → ((r4 = 0 → (post 0 M5)) ∧ (¬ r4 = 0 → (∃ po8 : Int32 → MM → Prop, Ci l (sX D cI cZ cL cE a w) yG_isTask wG_isTask rmG_isTask [.ref (a 1), .int x2] M5 po8 ∧ ∀ (r11 : Int32) (M12 : MM), po8 r11 M12 → ((r11 = 0 → (post 0 M12)) ∧ (¬ r11 = 0 → (∃ j15 : Nat, x1 = nI j15 ∧ j15 < 24 ∧ (∃ j19 : Nat, x2 = nI j19 ∧ j19 < 24 ∧ ((¬ (M12 3 j15) = (M12 3 j19) → (post 0 M12)) ∧ ((M12 3 j15) = (M12 3 j19) → ((6 ≤ (M12 6 j15) → (post 0 M12)) ∧ (¬ 6 ≤ (M12 6 j15) → (∃ po25 : Int32 → MM → Prop, Ci l (sX D cI cZ cL cE a w) yG_hasEdge wG_hasEdge rmG_hasEdge [.ref (a 1), .int x1, .int x2] M12 po25 ∧ ∀ (r28 : Int32) (M29 : MM), po25 r28 M29 → ((¬ r28 = 0 → (post 0 M29)) ∧ (r28 = 0 → (post 1 M29)))))))))))))))) : Ci l (sX D cI cZ cL cE a w) yG_takesEdge wG_takesEdge rmG_takesEdge [.ref (a 1), .int x1, .int x2] M post := Ci.of (cc := cG_takesEdge) (nL := 3) rfl rfl (Nat.le_of_ble_eq_true rfl) hJ (fun G hl hR F => by subst hl; exact sG_takesEdge_0 F hw hR h)
set_option maxRecDepth 20000 in
theorem sG_addEdge_0 {G : CX} {D : va_G} {cI cZ cL cE : ClassId} {a : Nat → Nat} {w : Nat} {post : MM → Prop} (F : FX G (sX D cI cZ cL cE a w) cG_addEdge 3 qnG none) (hw : w ≤ 4) (hR : gR G = rmG_addEdge) {M : MM} {x1 x2 : Int32} (h : ∃ j1 : Nat, x1 = nI j1 ∧ j1 < 24 ∧ (∃ j7 : Nat, (M 6 j1) = nI j7 ∧ j7 < 6 ∧ (∀ M5 : MM, M5 = mp M (10 + j1) j7 x2 → (∀ M11 : MM, M11 = mp M5 6 j1 ((M5 6 j1) + 1) → (∃ j13 : Nat, x2 = nI j13 ∧ j13 < 24 ∧ (∀ M17 : MM, M17 = mp M11 7 j13 ((M11 7 j13) + 1) → (((M17 2 j1) = 1 → (post M17)) ∧ (¬ (M17 2 j1) = 1 → (∀ M20 : MM, M20 = mp M17 8 j13 ((M17 8 j13) + 1) → (post M20)))))))))) : wx G (sX D cI cZ cL cE a w) 3 (Qxv G (sX D cI cZ cL cE a w) post) M 0 [(0, .ref (a 1)), (1, .int x1), (2, .int x2)] [] := by
  refine wx_aload_n F 0 dG_addEdge_0 rfl rfl ?_
  refine wx_get (ci := 1) (C := qnG) (T := TG) (N := 9) (v := .ref (a 9)) F 1 (x_lt (by decide)) rfl rfl hiG 5 (by decide) rfl lfG_26 rfl dG_addEdge_1 ?_
  refine wx_iload_n F 1 dG_addEdge_4 rfl rfl ?_
  obtain ⟨j1, e2, b3, h4⟩ := h
  refine xE_aald F hw e2 b3 dG_addEdge_5 ?_
  refine wx_aload_n F 0 dG_addEdge_6 rfl rfl ?_
  refine wx_get (ci := 1) (C := qnG) (T := TG) (N := 9) (v := .ref (a 6)) F 1 (x_lt (by decide)) rfl rfl hiG 6 (by decide) rfl lfG_29 rfl dG_addEdge_7 ?_
  refine wx_iload_n F 1 dG_addEdge_10 rfl rfl ?_
  refine wx_iald (N := 24) F 6 (x_lt (by decide)) rfl 0 rfl e2 b3 (by omega) dG_addEdge_11 ?_
  refine wx_iload_n F 2 dG_addEdge_12 rfl rfl ?_
  obtain ⟨j7, e8, b9, h10⟩ := h4
  refine wx_iast (N := 6) F (10 + j1) (x_ltE (by omega)) (fun _ => (x_cE (by omega) _)) 0 rfl e8 b9 (by omega) dG_addEdge_13 (wx_nm (fun M5 e6 => ?_))
  refine wx_aload_n F 0 dG_addEdge_14 rfl rfl ?_
  refine wx_get (ci := 1) (C := qnG) (T := TG) (N := 9) (v := .ref (a 6)) F 1 (x_lt (by decide)) rfl rfl hiG 6 (by decide) rfl lfG_29 rfl dG_addEdge_15 ?_
  refine wx_iload_n F 1 dG_addEdge_18 rfl rfl ?_
  refine wx_dup2 F dG_addEdge_19 rfl rfl ?_
  refine wx_iald (N := 24) F 6 (x_lt (by decide)) rfl 0 rfl e2 b3 (by omega) dG_addEdge_20 ?_
  refine wx_iconst (v := 1) F dG_addEdge_21 (by decide) ?_
  refine wx_iadd F dG_addEdge_22 ?_
  refine wx_iast (N := 24) F 6 (x_lt (by decide)) (fun _ => rfl) 0 rfl e2 b3 (by omega) dG_addEdge_23 (wx_nm (fun M11 e12 => ?_))
  refine wx_aload_n F 0 dG_addEdge_24 rfl rfl ?_
  refine wx_get (ci := 1) (C := qnG) (T := TG) (N := 9) (v := .ref (a 7)) F 1 (x_lt (by decide)) rfl rfl hiG 7 (by decide) rfl lfG_32 rfl dG_addEdge_25 ?_
  refine wx_iload_n F 2 dG_addEdge_28 rfl rfl ?_
  refine wx_dup2 F dG_addEdge_29 rfl rfl ?_
  obtain ⟨j13, e14, b15, h16⟩ := (h10 M5 e6) M11 e12
  refine wx_iald (N := 24) F 7 (x_lt (by decide)) rfl 0 rfl e14 b15 (by omega) dG_addEdge_30 ?_
  refine wx_iconst (v := 1) F dG_addEdge_31 (by decide) ?_
  refine wx_iadd F dG_addEdge_32 ?_
  refine wx_iast (N := 24) F 7 (x_lt (by decide)) (fun _ => rfl) 0 rfl e14 b15 (by omega) dG_addEdge_33 (wx_nm (fun M17 e18 => ?_))
  refine wx_aload_n F 0 dG_addEdge_34 rfl rfl ?_
  refine wx_get (ci := 1) (C := qnG) (T := TG) (N := 9) (v := .ref (a 2)) F 1 (x_lt (by decide)) rfl rfl hiG 1 (by decide) rfl lfG_9 rfl dG_addEdge_35 ?_
  refine wx_iload_n F 1 dG_addEdge_38 rfl rfl ?_
  refine wx_iald (N := 24) F 2 (x_lt (by decide)) rfl 0 rfl e2 b3 (by omega) dG_addEdge_39 ?_
  refine wx_iconst (v := 1) F dG_addEdge_40 (by decide) ?_
  refine wx_icmp_eq (tgt := 54) F dG_addEdge_41 (by decide) (fun g19 => ?_) (fun g19 => ?_)
  · exact wx_vret F dG_addEdge_54 ((h16 M17 e18).1 g19)
  · refine wx_aload_n F 0 dG_addEdge_44 rfl rfl ?_
    refine wx_get (ci := 1) (C := qnG) (T := TG) (N := 9) (v := .ref (a 8)) F 1 (x_lt (by decide)) rfl rfl hiG 8 (by decide) rfl lfG_35 rfl dG_addEdge_45 ?_
    refine wx_iload_n F 2 dG_addEdge_48 rfl rfl ?_
    refine wx_dup2 F dG_addEdge_49 rfl rfl ?_
    refine wx_iald (N := 24) F 8 (x_lt (by decide)) rfl 0 rfl e14 b15 (by omega) dG_addEdge_50 ?_
    refine wx_iconst (v := 1) F dG_addEdge_51 (by decide) ?_
    refine wx_iadd F dG_addEdge_52 ?_
    refine wx_iast (N := 24) F 8 (x_lt (by decide)) (fun _ => rfl) 0 rfl e14 b15 (by omega) dG_addEdge_53 (wx_nm (fun M20 e21 => ?_))
    exact wx_vret F dG_addEdge_54 (((h16 M17 e18).2 g19) M20 e21)
theorem oG_addEdge {l : Launch} {D : va_G} {cI cZ cL cE : ClassId} {a : Nat → Nat} {w : Nat} {post : MM → Prop} (hJ : IJ (sX D cI cZ cL cE a w)) (hw : w ≤ 4) {M : MM} {x1 x2 : Int32} (h : ∃ j1 : Nat, x1 = nI j1 ∧ j1 < 24 ∧ (∃ j7 : Nat, (M 6 j1) = nI j7 ∧ j7 < 6 ∧ (∀ M5 : MM, M5 = mp M (10 + j1) j7 x2 → (∀ M11 : MM, M11 = mp M5 6 j1 ((M5 6 j1) + 1) → (∃ j13 : Nat, x2 = nI j13 ∧ j13 < 24 ∧ (∀ M17 : MM, M17 = mp M11 7 j13 ((M11 7 j13) + 1) → (((M17 2 j1) = 1 → (post M17)) ∧ (¬ (M17 2 j1) = 1 → (∀ M20 : MM, M20 = mp M17 8 j13 ((M17 8 j13) + 1) → (post M20)))))))))) : Cv l (sX D cI cZ cL cE a w) yG_addEdge wG_addEdge rmG_addEdge [.ref (a 1), .int x1, .int x2] M post := Cv.of (cc := cG_addEdge) (nL := 3) rfl rfl (Nat.le_of_ble_eq_true rfl) hJ (fun G hl hR F => by subst hl; exact sG_addEdge_0 F hw hR h)
set_option maxRecDepth 20000 in
theorem sG_hasEdge_0 {G : CX} {D : va_G} {cI cZ cL cE : ClassId} {a : Nat → Nat} {w : Nat} {post : Int32 → MM → Prop} (F : FX G (sX D cI cZ cL cE a w) cG_hasEdge 4 qnG (some .boolean)) (hw : w ≤ 4) (hR : gR G = rmG_hasEdge) {K2 : MM → Int32 → Int32 → Int32 → Prop} (hK2 : ∀ (M : MM) (x1 x2 x3 : Int32), K2 M x1 x2 x3 → wx G (sX D cI cZ cL cE a w) 4 (Qxi G (sX D cI cZ cL cE a w) post) M 2 [(0, .ref (a 1)), (1, .int x1), (2, .int x2), (3, .int x3)] []) {M : MM} {x1 x2 : Int32} (h : K2 M x1 x2 0) : wx G (sX D cI cZ cL cE a w) 4 (Qxi G (sX D cI cZ cL cE a w) post) M 0 [(0, .ref (a 1)), (1, .int x1), (2, .int x2)] [] := by
  refine wx_iconst (v := 0) F dG_hasEdge_0 (by decide) ?_
  refine wx_istore_n (lv' := [(3, .int 0), (0, .ref (a 1)), (1, .int x1), (2, .int x2)]) F dG_hasEdge_1 rfl (by decide) rfl ?_
  exact wx_lv [1, 2, 3, 0] rfl (hK2 _ _ _ _ (h))
set_option maxRecDepth 20000 in
theorem sG_hasEdge_2 {G : CX} {D : va_G} {cI cZ cL cE : ClassId} {a : Nat → Nat} {w : Nat} {post : Int32 → MM → Prop} (F : FX G (sX D cI cZ cL cE a w) cG_hasEdge 4 qnG (some .boolean)) (hw : w ≤ 4) (hR : gR G = rmG_hasEdge) {K2 : MM → Int32 → Int32 → Int32 → Prop} (hK2 : ∀ (M : MM) (x1 x2 x3 : Int32), K2 M x1 x2 x3 → wx G (sX D cI cZ cL cE a w) 4 (Qxi G (sX D cI cZ cL cE a w) post) M 2 [(0, .ref (a 1)), (1, .int x1), (2, .int x2), (3, .int x3)] []) {M : MM} {x1 x2 x3 : Int32} (h : ∃ j1 : Nat, x1 = nI j1 ∧ j1 < 24 ∧ (((M 6 j1) ≤ x3 → (post 0 M)) ∧ (¬ (M 6 j1) ≤ x3 → (∃ j6 : Nat, x3 = nI j6 ∧ j6 < 6 ∧ ((¬ (M (10 + j1) j6) = x2 → (K2 M x1 x2 (x3 + 1))) ∧ ((M (10 + j1) j6) = x2 → (post 1 M))))))) : wx G (sX D cI cZ cL cE a w) 4 (Qxi G (sX D cI cZ cL cE a w) post) M 2 [(0, .ref (a 1)), (1, .int x1), (2, .int x2), (3, .int x3)] [] := by
  refine wx_iload_n F 3 dG_hasEdge_2 rfl rfl ?_
  refine wx_aload_n F 0 dG_hasEdge_3 rfl rfl ?_
  refine wx_get (ci := 1) (C := qnG) (T := TG) (N := 9) (v := .ref (a 6)) F 1 (x_lt (by decide)) rfl rfl hiG 6 (by decide) rfl lfG_29 rfl dG_hasEdge_4 ?_
  refine wx_iload_n F 1 dG_hasEdge_7 rfl rfl ?_
  obtain ⟨j1, e2, b3, h4⟩ := h
  refine wx_iald (N := 24) F 6 (x_lt (by decide)) rfl 0 rfl e2 b3 (by omega) dG_hasEdge_8 ?_
  refine wx_icmp_ge (tgt := 32) F dG_hasEdge_9 (by decide) (fun g5 => ?_) (fun g5 => ?_)
  · refine wx_iconst (v := 0) F dG_hasEdge_32 (by decide) ?_
    exact wx_zret F dG_hasEdge_33 rfl ((h4).1 g5)
  · refine wx_aload_n F 0 dG_hasEdge_12 rfl rfl ?_
    refine wx_get (ci := 1) (C := qnG) (T := TG) (N := 9) (v := .ref (a 9)) F 1 (x_lt (by decide)) rfl rfl hiG 5 (by decide) rfl lfG_26 rfl dG_hasEdge_13 ?_
    refine wx_iload_n F 1 dG_hasEdge_16 rfl rfl ?_
    refine xE_aald F hw e2 b3 dG_hasEdge_17 ?_
    refine wx_iload_n F 3 dG_hasEdge_18 rfl rfl ?_
    obtain ⟨j6, e7, b8, h9⟩ := (h4).2 g5
    refine wx_iald (N := 6) F (10 + j1) (x_ltE (by omega)) (x_cE (by omega) _) 0 rfl e7 b8 (by omega) dG_hasEdge_19 ?_
    refine wx_iload_n F 2 dG_hasEdge_20 rfl rfl ?_
    refine wx_icmp_ne (tgt := 26) F dG_hasEdge_21 (by decide) (fun g10 => ?_) (fun g10 => ?_)
    · refine wx_iinc (lv' := [(3, .int (x3 + 1)), (0, .ref (a 1)), (1, .int x1), (2, .int x2)]) F 3 dG_hasEdge_26 rfl (ii1 _) (by decide) rfl ?_
      refine wx_goto (tgt := 2) F dG_hasEdge_29 (by decide) ?_
      exact wx_lv [1, 2, 3, 0] rfl (hK2 _ _ _ _ ((h9).1 g10))
    · refine wx_iconst (v := 1) F dG_hasEdge_24 (by decide) ?_
      exact wx_zret F dG_hasEdge_25 rfl ((h9).2 g10)
theorem oG_hasEdge {l : Launch} {D : va_G} {cI cZ cL cE : ClassId} {a : Nat → Nat} {w : Nat} {post : Int32 → MM → Prop} (hJ : IJ (sX D cI cZ cL cE a w)) {M : MM} {x1 x2 : Int32} (h : ∀ G : CX, gl G = l → gR G = rmG_hasEdge → FX G (sX D cI cZ cL cE a w) cG_hasEdge 4 qnG (some .boolean) → wx G (sX D cI cZ cL cE a w) 4 (Qxi G (sX D cI cZ cL cE a w) post) M 0 [(0, .ref (a 1)), (1, .int x1), (2, .int x2)] []) : Ci l (sX D cI cZ cL cE a w) yG_hasEdge wG_hasEdge rmG_hasEdge [.ref (a 1), .int x1, .int x2] M post := Ci.of (cc := cG_hasEdge) (nL := 4) rfl rfl (Nat.le_of_ble_eq_true rfl) hJ h
set_option maxRecDepth 20000 in
theorem sG_hasGroupWithoutSource_0 {G : CX} {D : va_G} {cI cZ cL cE : ClassId} {a : Nat → Nat} {w : Nat} {post : Int32 → MM → Prop} (F : FX G (sX D cI cZ cL cE a w) cG_hasGroupWithoutSource 2 qnG (some .boolean)) (hw : w ≤ 4) (hR : gR G = rmG_hasGroupWithoutSource) {K2 : MM → Int32 → Prop} (hK2 : ∀ (M : MM) (x1 : Int32), K2 M x1 → wx G (sX D cI cZ cL cE a w) 2 (Qxi G (sX D cI cZ cL cE a w) post) M 2 [(0, .ref (a 1)), (1, .int x1)] []) {M : MM} (h : K2 M 0) : wx G (sX D cI cZ cL cE a w) 2 (Qxi G (sX D cI cZ cL cE a w) post) M 0 [(0, .ref (a 1))] [] := by
  refine wx_iconst (v := 0) F dG_hasGroupWithoutSource_0 (by decide) ?_
  refine wx_istore_n (lv' := [(1, .int 0), (0, .ref (a 1))]) F dG_hasGroupWithoutSource_1 rfl (by decide) rfl ?_
  exact wx_lv [1, 0] rfl (hK2 _ _ (h))
set_option maxRecDepth 20000 in
theorem sG_hasGroupWithoutSource_2 {G : CX} {D : va_G} {cI cZ cL cE : ClassId} {a : Nat → Nat} {w : Nat} {post : Int32 → MM → Prop} (F : FX G (sX D cI cZ cL cE a w) cG_hasGroupWithoutSource 2 qnG (some .boolean)) (hw : w ≤ 4) (hR : gR G = rmG_hasGroupWithoutSource) {K2 : MM → Int32 → Prop} (hK2 : ∀ (M : MM) (x1 : Int32), K2 M x1 → wx G (sX D cI cZ cL cE a w) 2 (Qxi G (sX D cI cZ cL cE a w) post) M 2 [(0, .ref (a 1)), (1, .int x1)] []) {M : MM} {x1 : Int32} (h : ((M 1 0) ≤ x1 → (post 0 M)) ∧ (¬ (M 1 0) ≤ x1 → (∃ j2 : Nat, x1 = nI j2 ∧ j2 < 24 ∧ (∃ po6 : Int32 → MM → Prop, Ci (gl G) (sX D cI cZ cL cE a w) yG_hasSource wG_hasSource rmG_hasSource [.ref (a 1), .int (M 3 j2)] M po6 ∧ ∀ (r9 : Int32) (M10 : MM), po6 r9 M10 → ((¬ r9 = 0 → (K2 M10 (x1 + 1))) ∧ (r9 = 0 → (post 1 M10))))))) : wx G (sX D cI cZ cL cE a w) 2 (Qxi G (sX D cI cZ cL cE a w) post) M 2 [(0, .ref (a 1)), (1, .int x1)] [] := by
  refine wx_iload_n F 1 dG_hasGroupWithoutSource_2 rfl rfl ?_
  refine wx_aload_n F 0 dG_hasGroupWithoutSource_3 rfl rfl ?_
  refine wx_get (ci := 1) (C := qnG) (T := TG) (N := 9) (v := .int (M 1 0)) F 1 (x_lt (by decide)) rfl rfl hiG 0 (by decide) rfl lfG_38 rfl dG_hasGroupWithoutSource_4 ?_
  refine wx_icmp_ge (tgt := 31) F dG_hasGroupWithoutSource_7 (by decide) (fun g1 => ?_) (fun g1 => ?_)
  · refine wx_iconst (v := 0) F dG_hasGroupWithoutSource_31 (by decide) ?_
    exact wx_zret F dG_hasGroupWithoutSource_32 rfl ((h).1 g1)
  · refine wx_aload_n F 0 dG_hasGroupWithoutSource_10 rfl rfl ?_
    refine wx_aload_n F 0 dG_hasGroupWithoutSource_11 rfl rfl ?_
    refine wx_get (ci := 1) (C := qnG) (T := TG) (N := 9) (v := .ref (a 3)) F 1 (x_lt (by decide)) rfl rfl hiG 2 (by decide) rfl lfG_15 rfl dG_hasGroupWithoutSource_12 ?_
    refine wx_iload_n F 1 dG_hasGroupWithoutSource_15 rfl rfl ?_
    obtain ⟨j2, e3, b4, h5⟩ := (h).2 g1
    refine wx_iald (N := 24) F 3 (x_lt (by decide)) rfl 0 rfl e3 b4 (by omega) dG_hasGroupWithoutSource_16 ?_
    obtain ⟨po6, c7, h8⟩ := h5
    refine wx_calli F 1 c7 (x_lt (by decide)) rfl rfl (cw_V F.1.2.2.2.2 lmG_53 cbG_hasSource rfl rfl ⟨by rw [hR]; exact Nat.le_of_ble_eq_true rfl, by rw [hR]; exact Nat.le_of_ble_eq_true rfl⟩) rfl rfl (Nat.le_of_ble_eq_true rfl) dG_hasGroupWithoutSource_17 (fun r9 M10 p11 => ?_)
    refine wx_if_ne (tgt := 25) F dG_hasGroupWithoutSource_20 (by decide) (fun g12 => ?_) (fun g12 => ?_)
    · refine wx_iinc (lv' := [(1, .int (x1 + 1)), (0, .ref (a 1))]) F 1 dG_hasGroupWithoutSource_25 rfl (ii1 _) (by decide) rfl ?_
      refine wx_goto (tgt := 2) F dG_hasGroupWithoutSource_28 (by decide) ?_
      exact wx_lv [1, 0] rfl (hK2 _ _ ((h8 r9 M10 p11).1 g12))
    · refine wx_iconst (v := 1) F dG_hasGroupWithoutSource_23 (by decide) ?_
      exact wx_zret F dG_hasGroupWithoutSource_24 rfl ((h8 r9 M10 p11).2 g12)
theorem oG_hasGroupWithoutSource {l : Launch} {D : va_G} {cI cZ cL cE : ClassId} {a : Nat → Nat} {w : Nat} {post : Int32 → MM → Prop} (hJ : IJ (sX D cI cZ cL cE a w)) {M : MM} (h : ∀ G : CX, gl G = l → gR G = rmG_hasGroupWithoutSource → FX G (sX D cI cZ cL cE a w) cG_hasGroupWithoutSource 2 qnG (some .boolean) → wx G (sX D cI cZ cL cE a w) 2 (Qxi G (sX D cI cZ cL cE a w) post) M 0 [(0, .ref (a 1))] []) : Ci l (sX D cI cZ cL cE a w) yG_hasGroupWithoutSource wG_hasGroupWithoutSource rmG_hasGroupWithoutSource [.ref (a 1)] M post := Ci.of (cc := cG_hasGroupWithoutSource) (nL := 2) rfl rfl (Nat.le_of_ble_eq_true rfl) hJ h
set_option maxRecDepth 20000 in
theorem sG_hasSource_0 {G : CX} {D : va_G} {cI cZ cL cE : ClassId} {a : Nat → Nat} {w : Nat} {post : Int32 → MM → Prop} (F : FX G (sX D cI cZ cL cE a w) cG_hasSource 3 qnG (some .boolean)) (hw : w ≤ 4) (hR : gR G = rmG_hasSource) {K2 : MM → Int32 → Int32 → Prop} (hK2 : ∀ (M : MM) (x1 x2 : Int32), K2 M x1 x2 → wx G (sX D cI cZ cL cE a w) 3 (Qxi G (sX D cI cZ cL cE a w) post) M 2 [(0, .ref (a 1)), (1, .int x1), (2, .int x2)] []) {M : MM} {x1 : Int32} (h : K2 M x1 0) : wx G (sX D cI cZ cL cE a w) 3 (Qxi G (sX D cI cZ cL cE a w) post) M 0 [(0, .ref (a 1)), (1, .int x1)] [] := by
  refine wx_iconst (v := 0) F dG_hasSource_0 (by decide) ?_
  refine wx_istore_n (lv' := [(2, .int 0), (0, .ref (a 1)), (1, .int x1)]) F dG_hasSource_1 rfl (by decide) rfl ?_
  exact wx_lv [1, 2, 0] rfl (hK2 _ _ _ (h))
set_option maxRecDepth 20000 in
theorem sG_hasSource_2 {G : CX} {D : va_G} {cI cZ cL cE : ClassId} {a : Nat → Nat} {w : Nat} {post : Int32 → MM → Prop} (F : FX G (sX D cI cZ cL cE a w) cG_hasSource 3 qnG (some .boolean)) (hw : w ≤ 4) (hR : gR G = rmG_hasSource) {K2 : MM → Int32 → Int32 → Prop} (hK2 : ∀ (M : MM) (x1 x2 : Int32), K2 M x1 x2 → wx G (sX D cI cZ cL cE a w) 3 (Qxi G (sX D cI cZ cL cE a w) post) M 2 [(0, .ref (a 1)), (1, .int x1), (2, .int x2)] []) {M : MM} {x1 x2 : Int32} (h : ((M 1 0) ≤ x2 → (post 0 M)) ∧ (¬ (M 1 0) ≤ x2 → (∃ j2 : Nat, x2 = nI j2 ∧ j2 < 24 ∧ ((¬ (M 3 j2) = x1 → (K2 M x1 (x2 + 1))) ∧ ((M 3 j2) = x1 → (∃ po7 : Int32 → MM → Prop, Ci (gl G) (sX D cI cZ cL cE a w) yG_isSource wG_isSource rmG_isSource [.ref (a 1), .int x2] M po7 ∧ ∀ (r10 : Int32) (M11 : MM), po7 r10 M11 → ((r10 = 0 → (K2 M11 x1 (x2 + 1))) ∧ (¬ r10 = 0 → (post 1 M11))))))))) : wx G (sX D cI cZ cL cE a w) 3 (Qxi G (sX D cI cZ cL cE a w) post) M 2 [(0, .ref (a 1)), (1, .int x1), (2, .int x2)] [] := by
  refine wx_iload_n F 2 dG_hasSource_2 rfl rfl ?_
  refine wx_aload_n F 0 dG_hasSource_3 rfl rfl ?_
  refine wx_get (ci := 1) (C := qnG) (T := TG) (N := 9) (v := .int (M 1 0)) F 1 (x_lt (by decide)) rfl rfl hiG 0 (by decide) rfl lfG_38 rfl dG_hasSource_4 ?_
  refine wx_icmp_ge (tgt := 36) F dG_hasSource_7 (by decide) (fun g1 => ?_) (fun g1 => ?_)
  · refine wx_iconst (v := 0) F dG_hasSource_36 (by decide) ?_
    exact wx_zret F dG_hasSource_37 rfl ((h).1 g1)
  · refine wx_aload_n F 0 dG_hasSource_10 rfl rfl ?_
    refine wx_get (ci := 1) (C := qnG) (T := TG) (N := 9) (v := .ref (a 3)) F 1 (x_lt (by decide)) rfl rfl hiG 2 (by decide) rfl lfG_15 rfl dG_hasSource_11 ?_
    refine wx_iload_n F 2 dG_hasSource_14 rfl rfl ?_
    obtain ⟨j2, e3, b4, h5⟩ := (h).2 g1
    refine wx_iald (N := 24) F 3 (x_lt (by decide)) rfl 0 rfl e3 b4 (by omega) dG_hasSource_15 ?_
    refine wx_iload_n F 1 dG_hasSource_16 rfl rfl ?_
    refine wx_icmp_ne (tgt := 30) F dG_hasSource_17 (by decide) (fun g6 => ?_) (fun g6 => ?_)
    · refine wx_iinc (lv' := [(2, .int (x2 + 1)), (0, .ref (a 1)), (1, .int x1)]) F 2 dG_hasSource_30 rfl (ii1 _) (by decide) rfl ?_
      refine wx_goto (tgt := 2) F dG_hasSource_33 (by decide) ?_
      exact wx_lv [1, 2, 0] rfl (hK2 _ _ _ ((h5).1 g6))
    · refine wx_aload_n F 0 dG_hasSource_20 rfl rfl ?_
      refine wx_iload_n F 2 dG_hasSource_21 rfl rfl ?_
      obtain ⟨po7, c8, h9⟩ := (h5).2 g6
      refine wx_calli F 1 c8 (x_lt (by decide)) rfl rfl (cw_V F.1.2.2.2.2 lmG_56 cbG_isSource rfl rfl ⟨by rw [hR]; exact Nat.le_of_ble_eq_true rfl, by rw [hR]; exact Nat.le_of_ble_eq_true rfl⟩) rfl rfl (Nat.le_of_ble_eq_true rfl) dG_hasSource_22 (fun r10 M11 p12 => ?_)
      refine wx_if_eq (tgt := 30) F dG_hasSource_25 (by decide) (fun g13 => ?_) (fun g13 => ?_)
      · refine wx_iinc (lv' := [(2, .int (x2 + 1)), (0, .ref (a 1)), (1, .int x1)]) F 2 dG_hasSource_30 rfl (ii1 _) (by decide) rfl ?_
        refine wx_goto (tgt := 2) F dG_hasSource_33 (by decide) ?_
        exact wx_lv [1, 2, 0] rfl (hK2 _ _ _ ((h9 r10 M11 p12).1 g13))
      · refine wx_iconst (v := 1) F dG_hasSource_28 (by decide) ?_
        exact wx_zret F dG_hasSource_29 rfl ((h9 r10 M11 p12).2 g13)
theorem oG_hasSource {l : Launch} {D : va_G} {cI cZ cL cE : ClassId} {a : Nat → Nat} {w : Nat} {post : Int32 → MM → Prop} (hJ : IJ (sX D cI cZ cL cE a w)) {M : MM} {x1 : Int32} (h : ∀ G : CX, gl G = l → gR G = rmG_hasSource → FX G (sX D cI cZ cL cE a w) cG_hasSource 3 qnG (some .boolean) → wx G (sX D cI cZ cL cE a w) 3 (Qxi G (sX D cI cZ cL cE a w) post) M 0 [(0, .ref (a 1)), (1, .int x1)] []) : Ci l (sX D cI cZ cL cE a w) yG_hasSource wG_hasSource rmG_hasSource [.ref (a 1), .int x1] M post := Ci.of (cc := cG_hasSource) (nL := 3) rfl rfl (Nat.le_of_ble_eq_true rfl) hJ h
set_option maxRecDepth 20000 in
theorem sG_hasStrongCycle_0 {G : CX} {D : va_G} {cI cZ cL cE : ClassId} {a : Nat → Nat} {w : Nat} {post : Int32 → MM → Prop} (F : FX G (sX D cI cZ cL cE a w) cG_hasStrongCycle 4 qnG (some .boolean)) (hw : w ≤ 4) (hR : gR G = rmG_hasStrongCycle) {K11 : MM → Int32 → Int32 → Prop} (hK11 : ∀ (M : MM) (x1 x2 : Int32), K11 M x1 x2 → wx G (sX D cI cZ cL cE a w) 4 (Qxi G (sX D cI cZ cL cE a w) post) M 11 [(0, .ref (a 1)), (1, .int x1), (2, .int x2)] []) {M : MM} (h : K11 M ((1 <<< ((M 1 0) &&& 31)) - 1) 0) : wx G (sX D cI cZ cL cE a w) 4 (Qxi G (sX D cI cZ cL cE a w) post) M 0 [(0, .ref (a 1))] [] := by
  refine wx_iconst (v := 1) F dG_hasStrongCycle_0 (by decide) ?_
  refine wx_aload_n F 0 dG_hasStrongCycle_1 rfl rfl ?_
  refine wx_get (ci := 1) (C := qnG) (T := TG) (N := 9) (v := .int (M 1 0)) F 1 (x_lt (by decide)) rfl rfl hiG 0 (by decide) rfl lfG_38 rfl dG_hasStrongCycle_2 ?_
  refine wx_ishl F dG_hasStrongCycle_5 ?_
  refine wx_iconst (v := 1) F dG_hasStrongCycle_6 (by decide) ?_
  refine wx_isub F dG_hasStrongCycle_7 ?_
  refine wx_istore_n (lv' := [(1, .int ((1 <<< ((M 1 0) &&& 31)) - 1)), (0, .ref (a 1))]) F dG_hasStrongCycle_8 rfl (by decide) rfl ?_
  refine wx_iconst (v := 0) F dG_hasStrongCycle_9 (by decide) ?_
  refine wx_istore_n (lv' := [(2, .int 0), (1, .int ((1 <<< ((M 1 0) &&& 31)) - 1)), (0, .ref (a 1))]) F dG_hasStrongCycle_10 rfl (by decide) rfl ?_
  exact wx_lv [2, 1, 0] rfl (hK11 _ _ _ (h))
set_option maxRecDepth 20000 in
theorem sG_hasStrongCycle_11 {G : CX} {D : va_G} {cI cZ cL cE : ClassId} {a : Nat → Nat} {w : Nat} {post : Int32 → MM → Prop} (F : FX G (sX D cI cZ cL cE a w) cG_hasStrongCycle 4 qnG (some .boolean)) (hw : w ≤ 4) (hR : gR G = rmG_hasStrongCycle) {K21 : MM → Int32 → Int32 → Int32 → Prop} (hK21 : ∀ (M : MM) (x1 x2 x3 : Int32), K21 M x1 x2 x3 → wx G (sX D cI cZ cL cE a w) 4 (Qxi G (sX D cI cZ cL cE a w) post) M 21 [(0, .ref (a 1)), (1, .int x1), (2, .int x2), (3, .int x3)] []) {M : MM} {x1 x2 : Int32} (h : ((M 1 0) ≤ x2 → ((x1 = 0 → (post 0 M)) ∧ (¬ x1 = 0 → (post 1 M)))) ∧ (¬ (M 1 0) ≤ x2 → (K21 M x1 x2 0))) : wx G (sX D cI cZ cL cE a w) 4 (Qxi G (sX D cI cZ cL cE a w) post) M 11 [(0, .ref (a 1)), (1, .int x1), (2, .int x2)] [] := by
  refine wx_iload_n F 2 dG_hasStrongCycle_11 rfl rfl ?_
  refine wx_aload_n F 0 dG_hasStrongCycle_12 rfl rfl ?_
  refine wx_get (ci := 1) (C := qnG) (T := TG) (N := 9) (v := .int (M 1 0)) F 1 (x_lt (by decide)) rfl rfl hiG 0 (by decide) rfl lfG_38 rfl dG_hasStrongCycle_13 ?_
  refine wx_icmp_ge (tgt := 58) F dG_hasStrongCycle_16 (by decide) (fun g1 => ?_) (fun g1 => ?_)
  · refine wx_iload_n F 1 dG_hasStrongCycle_58 rfl rfl ?_
    refine wx_if_eq (tgt := 66) F dG_hasStrongCycle_59 (by decide) (fun g2 => ?_) (fun g2 => ?_)
    · refine wx_iconst (v := 0) F dG_hasStrongCycle_66 (by decide) ?_
      exact wx_zret F dG_hasStrongCycle_67 rfl (((h).1 g1).1 g2)
    · refine wx_iconst (v := 1) F dG_hasStrongCycle_62 (by decide) ?_
      refine wx_goto (tgt := 67) F dG_hasStrongCycle_63 (by decide) ?_
      exact wx_zret F dG_hasStrongCycle_67 rfl (((h).1 g1).2 g2)
  · refine wx_iconst (v := 0) F dG_hasStrongCycle_19 (by decide) ?_
    refine wx_istore_n (lv' := [(3, .int 0), (0, .ref (a 1)), (1, .int x1), (2, .int x2)]) F dG_hasStrongCycle_20 rfl (by decide) rfl ?_
    exact wx_lv [1, 2, 3, 0] rfl (hK21 _ _ _ _ ((h).2 g1))
set_option maxRecDepth 20000 in
theorem sG_hasStrongCycle_21 {G : CX} {D : va_G} {cI cZ cL cE : ClassId} {a : Nat → Nat} {w : Nat} {post : Int32 → MM → Prop} (F : FX G (sX D cI cZ cL cE a w) cG_hasStrongCycle 4 qnG (some .boolean)) (hw : w ≤ 4) (hR : gR G = rmG_hasStrongCycle) {K11 : MM → Int32 → Int32 → Prop} (hK11 : ∀ (M : MM) (x1 x2 : Int32), K11 M x1 x2 → wx G (sX D cI cZ cL cE a w) 4 (Qxi G (sX D cI cZ cL cE a w) post) M 11 [(0, .ref (a 1)), (1, .int x1), (2, .int x2)] []) {K21 : MM → Int32 → Int32 → Int32 → Prop} (hK21 : ∀ (M : MM) (x1 x2 x3 : Int32), K21 M x1 x2 x3 → wx G (sX D cI cZ cL cE a w) 4 (Qxi G (sX D cI cZ cL cE a w) post) M 21 [(0, .ref (a 1)), (1, .int x1), (2, .int x2), (3, .int x3)] []) {M : MM} {x1 x2 x3 : Int32} (h : ((M 1 0) ≤ x3 → (K11 M x1 (x2 + 1))) ∧ (¬ (M 1 0) ≤ x3 → (∃ po2 : Int32 → MM → Prop, Ci (gl G) (sX D cI cZ cL cE a w) yG_leadsStronglyInto wG_leadsStronglyInto rmG_leadsStronglyInto [.ref (a 1), .int x3, .int x1] M po2 ∧ ∀ (r5 : Int32) (M6 : MM), po2 r5 M6 → ((¬ r5 = 0 → (K21 M6 x1 x2 (x3 + 1))) ∧ (r5 = 0 → (K21 M6 (x1 &&& ((1 <<< (x3 &&& 31)) ^^^ (-1))) x2 (x3 + 1))))))) : wx G (sX D cI cZ cL cE a w) 4 (Qxi G (sX D cI cZ cL cE a w) post) M 21 [(0, .ref (a 1)), (1, .int x1), (2, .int x2), (3, .int x3)] [] := by
  refine wx_iload_n F 3 dG_hasStrongCycle_21 rfl rfl ?_
  refine wx_aload_n F 0 dG_hasStrongCycle_22 rfl rfl ?_
  refine wx_get (ci := 1) (C := qnG) (T := TG) (N := 9) (v := .int (M 1 0)) F 1 (x_lt (by decide)) rfl rfl hiG 0 (by decide) rfl lfG_38 rfl dG_hasStrongCycle_23 ?_
  refine wx_icmp_ge (tgt := 52) F dG_hasStrongCycle_26 (by decide) (fun g1 => ?_) (fun g1 => ?_)
  · refine wx_iinc (lv' := [(2, .int (x2 + 1)), (0, .ref (a 1)), (1, .int x1), (3, .int x3)]) F 2 dG_hasStrongCycle_52 rfl (ii1 _) (by decide) rfl ?_
    refine wx_goto (tgt := 11) F dG_hasStrongCycle_55 (by decide) ?_
    exact wx_lv [1, 2, 0] rfl (hK11 _ _ _ ((h).1 g1))
  · refine wx_aload_n F 0 dG_hasStrongCycle_29 rfl rfl ?_
    refine wx_iload_n F 3 dG_hasStrongCycle_30 rfl rfl ?_
    refine wx_iload_n F 1 dG_hasStrongCycle_31 rfl rfl ?_
    obtain ⟨po2, c3, h4⟩ := (h).2 g1
    refine wx_calli F 1 c3 (x_lt (by decide)) rfl rfl (cw_V F.1.2.2.2.2 lmG_59 cbG_leadsStronglyInto rfl rfl ⟨by rw [hR]; exact Nat.le_of_ble_eq_true rfl, by rw [hR]; exact Nat.le_of_ble_eq_true rfl⟩) rfl rfl (Nat.le_of_ble_eq_true rfl) dG_hasStrongCycle_32 (fun r5 M6 p7 => ?_)
    refine wx_if_ne (tgt := 46) F dG_hasStrongCycle_35 (by decide) (fun g8 => ?_) (fun g8 => ?_)
    · refine wx_iinc (lv' := [(3, .int (x3 + 1)), (0, .ref (a 1)), (1, .int x1), (2, .int x2)]) F 3 dG_hasStrongCycle_46 rfl (ii1 _) (by decide) rfl ?_
      refine wx_goto (tgt := 21) F dG_hasStrongCycle_49 (by decide) ?_
      exact wx_lv [1, 2, 3, 0] rfl (hK21 _ _ _ _ ((h4 r5 M6 p7).1 g8))
    · refine wx_iload_n F 1 dG_hasStrongCycle_38 rfl rfl ?_
      refine wx_iconst (v := 1) F dG_hasStrongCycle_39 (by decide) ?_
      refine wx_iload_n F 3 dG_hasStrongCycle_40 rfl rfl ?_
      refine wx_ishl F dG_hasStrongCycle_41 ?_
      refine wx_iconst (v := (-1)) F dG_hasStrongCycle_42 (by decide) ?_
      refine wx_ixor F dG_hasStrongCycle_43 ?_
      refine wx_iand F dG_hasStrongCycle_44 ?_
      refine wx_istore_n (lv' := [(1, .int (x1 &&& ((1 <<< (x3 &&& 31)) ^^^ (-1)))), (0, .ref (a 1)), (2, .int x2), (3, .int x3)]) F dG_hasStrongCycle_45 rfl (by decide) rfl ?_
      refine wx_iinc (lv' := [(3, .int (x3 + 1)), (1, .int (x1 &&& ((1 <<< (x3 &&& 31)) ^^^ (-1)))), (0, .ref (a 1)), (2, .int x2)]) F 3 dG_hasStrongCycle_46 rfl (ii1 _) (by decide) rfl ?_
      refine wx_goto (tgt := 21) F dG_hasStrongCycle_49 (by decide) ?_
      exact wx_lv [2, 1, 3, 0] rfl (hK21 _ _ _ _ ((h4 r5 M6 p7).2 g8))
theorem oG_hasStrongCycle {l : Launch} {D : va_G} {cI cZ cL cE : ClassId} {a : Nat → Nat} {w : Nat} {post : Int32 → MM → Prop} (hJ : IJ (sX D cI cZ cL cE a w)) {M : MM} (h : ∀ G : CX, gl G = l → gR G = rmG_hasStrongCycle → FX G (sX D cI cZ cL cE a w) cG_hasStrongCycle 4 qnG (some .boolean) → wx G (sX D cI cZ cL cE a w) 4 (Qxi G (sX D cI cZ cL cE a w) post) M 0 [(0, .ref (a 1))] []) : Ci l (sX D cI cZ cL cE a w) yG_hasStrongCycle wG_hasStrongCycle rmG_hasStrongCycle [.ref (a 1)] M post := Ci.of (cc := cG_hasStrongCycle) (nL := 4) rfl rfl (Nat.le_of_ble_eq_true rfl) hJ h
set_option maxRecDepth 20000 in
theorem sG_leadsStronglyInto_0 {G : CX} {D : va_G} {cI cZ cL cE : ClassId} {a : Nat → Nat} {w : Nat} {post : Int32 → MM → Prop} (F : FX G (sX D cI cZ cL cE a w) cG_leadsStronglyInto 4 qnG (some .boolean)) (hw : w ≤ 4) (hR : gR G = rmG_leadsStronglyInto) {K14 : MM → Int32 → Int32 → Int32 → Prop} (hK14 : ∀ (M : MM) (x1 x2 x3 : Int32), K14 M x1 x2 x3 → wx G (sX D cI cZ cL cE a w) 4 (Qxi G (sX D cI cZ cL cE a w) post) M 14 [(0, .ref (a 1)), (1, .int x1), (2, .int x2), (3, .int x3)] []) {M : MM} {x1 x2 : Int32} (h : ∃ j1 : Nat, x1 = nI j1 ∧ j1 < 24 ∧ ((¬ (M 2 j1) = 1 → (K14 M x1 x2 0)) ∧ ((M 2 j1) = 1 → (post 0 M)))) : wx G (sX D cI cZ cL cE a w) 4 (Qxi G (sX D cI cZ cL cE a w) post) M 0 [(0, .ref (a 1)), (1, .int x1), (2, .int x2)] [] := by
  refine wx_aload_n F 0 dG_leadsStronglyInto_0 rfl rfl ?_
  refine wx_get (ci := 1) (C := qnG) (T := TG) (N := 9) (v := .ref (a 2)) F 1 (x_lt (by decide)) rfl rfl hiG 1 (by decide) rfl lfG_9 rfl dG_leadsStronglyInto_1 ?_
  refine wx_iload_n F 1 dG_leadsStronglyInto_4 rfl rfl ?_
  obtain ⟨j1, e2, b3, h4⟩ := h
  refine wx_iald (N := 24) F 2 (x_lt (by decide)) rfl 0 rfl e2 b3 (by omega) dG_leadsStronglyInto_5 ?_
  refine wx_iconst (v := 1) F dG_leadsStronglyInto_6 (by decide) ?_
  refine wx_icmp_ne (tgt := 12) F dG_leadsStronglyInto_7 (by decide) (fun g5 => ?_) (fun g5 => ?_)
  · refine wx_iconst (v := 0) F dG_leadsStronglyInto_12 (by decide) ?_
    refine wx_istore_n (lv' := [(3, .int 0), (0, .ref (a 1)), (1, .int x1), (2, .int x2)]) F dG_leadsStronglyInto_13 rfl (by decide) rfl ?_
    exact wx_lv [1, 2, 3, 0] rfl (hK14 _ _ _ _ ((h4).1 g5))
  · refine wx_iconst (v := 0) F dG_leadsStronglyInto_10 (by decide) ?_
    exact wx_zret F dG_leadsStronglyInto_11 rfl ((h4).2 g5)
set_option maxRecDepth 20000 in
theorem sG_leadsStronglyInto_14 {G : CX} {D : va_G} {cI cZ cL cE : ClassId} {a : Nat → Nat} {w : Nat} {post : Int32 → MM → Prop} (F : FX G (sX D cI cZ cL cE a w) cG_leadsStronglyInto 4 qnG (some .boolean)) (hw : w ≤ 4) (hR : gR G = rmG_leadsStronglyInto) {K14 : MM → Int32 → Int32 → Int32 → Prop} (hK14 : ∀ (M : MM) (x1 x2 x3 : Int32), K14 M x1 x2 x3 → wx G (sX D cI cZ cL cE a w) 4 (Qxi G (sX D cI cZ cL cE a w) post) M 14 [(0, .ref (a 1)), (1, .int x1), (2, .int x2), (3, .int x3)] []) {M : MM} {x1 x2 x3 : Int32} (h : ∃ j1 : Nat, x1 = nI j1 ∧ j1 < 24 ∧ (((M 6 j1) ≤ x3 → (post 0 M)) ∧ (¬ (M 6 j1) ≤ x3 → (∃ j6 : Nat, x3 = nI j6 ∧ j6 < 6 ∧ (((x2 &&& (1 <<< ((M (10 + j1) j6) &&& 31))) = 0 → (K14 M x1 x2 (x3 + 1))) ∧ (¬ (x2 &&& (1 <<< ((M (10 + j1) j6) &&& 31))) = 0 → (post 1 M))))))) : wx G (sX D cI cZ cL cE a w) 4 (Qxi G (sX D cI cZ cL cE a w) post) M 14 [(0, .ref (a 1)), (1, .int x1), (2, .int x2), (3, .int x3)] [] := by
  refine wx_iload_n F 3 dG_leadsStronglyInto_14 rfl rfl ?_
  refine wx_aload_n F 0 dG_leadsStronglyInto_15 rfl rfl ?_
  refine wx_get (ci := 1) (C := qnG) (T := TG) (N := 9) (v := .ref (a 6)) F 1 (x_lt (by decide)) rfl rfl hiG 6 (by decide) rfl lfG_29 rfl dG_leadsStronglyInto_16 ?_
  refine wx_iload_n F 1 dG_leadsStronglyInto_19 rfl rfl ?_
  obtain ⟨j1, e2, b3, h4⟩ := h
  refine wx_iald (N := 24) F 6 (x_lt (by decide)) rfl 0 rfl e2 b3 (by omega) dG_leadsStronglyInto_20 ?_
  refine wx_icmp_ge (tgt := 47) F dG_leadsStronglyInto_21 (by decide) (fun g5 => ?_) (fun g5 => ?_)
  · refine wx_iconst (v := 0) F dG_leadsStronglyInto_47 (by decide) ?_
    exact wx_zret F dG_leadsStronglyInto_48 rfl ((h4).1 g5)
  · refine wx_iload_n F 2 dG_leadsStronglyInto_24 rfl rfl ?_
    refine wx_iconst (v := 1) F dG_leadsStronglyInto_25 (by decide) ?_
    refine wx_aload_n F 0 dG_leadsStronglyInto_26 rfl rfl ?_
    refine wx_get (ci := 1) (C := qnG) (T := TG) (N := 9) (v := .ref (a 9)) F 1 (x_lt (by decide)) rfl rfl hiG 5 (by decide) rfl lfG_26 rfl dG_leadsStronglyInto_27 ?_
    refine wx_iload_n F 1 dG_leadsStronglyInto_30 rfl rfl ?_
    refine xE_aald F hw e2 b3 dG_leadsStronglyInto_31 ?_
    refine wx_iload_n F 3 dG_leadsStronglyInto_32 rfl rfl ?_
    obtain ⟨j6, e7, b8, h9⟩ := (h4).2 g5
    refine wx_iald (N := 6) F (10 + j1) (x_ltE (by omega)) (x_cE (by omega) _) 0 rfl e7 b8 (by omega) dG_leadsStronglyInto_33 ?_
    refine wx_ishl F dG_leadsStronglyInto_34 ?_
    refine wx_iand F dG_leadsStronglyInto_35 ?_
    refine wx_if_eq (tgt := 41) F dG_leadsStronglyInto_36 (by decide) (fun g10 => ?_) (fun g10 => ?_)
    · refine wx_iinc (lv' := [(3, .int (x3 + 1)), (0, .ref (a 1)), (1, .int x1), (2, .int x2)]) F 3 dG_leadsStronglyInto_41 rfl (ii1 _) (by decide) rfl ?_
      refine wx_goto (tgt := 14) F dG_leadsStronglyInto_44 (by decide) ?_
      exact wx_lv [1, 2, 3, 0] rfl (hK14 _ _ _ _ ((h9).1 g10))
    · refine wx_iconst (v := 1) F dG_leadsStronglyInto_39 (by decide) ?_
      exact wx_zret F dG_leadsStronglyInto_40 rfl ((h9).2 g10)
theorem oG_leadsStronglyInto {l : Launch} {D : va_G} {cI cZ cL cE : ClassId} {a : Nat → Nat} {w : Nat} {post : Int32 → MM → Prop} (hJ : IJ (sX D cI cZ cL cE a w)) {M : MM} {x1 x2 : Int32} (h : ∀ G : CX, gl G = l → gR G = rmG_leadsStronglyInto → FX G (sX D cI cZ cL cE a w) cG_leadsStronglyInto 4 qnG (some .boolean) → wx G (sX D cI cZ cL cE a w) 4 (Qxi G (sX D cI cZ cL cE a w) post) M 0 [(0, .ref (a 1)), (1, .int x1), (2, .int x2)] []) : Ci l (sX D cI cZ cL cE a w) yG_leadsStronglyInto wG_leadsStronglyInto rmG_leadsStronglyInto [.ref (a 1), .int x1, .int x2] M post := Ci.of (cc := cG_leadsStronglyInto) (nL := 4) rfl rfl (Nat.le_of_ble_eq_true rfl) hJ h
