set_option maxRecDepth 20000 in
theorem sE_add_0 {G : CX} {D : va_G} {cI cZ cL cE : ClassId} {a : Nat → Nat} {w : Nat} {post : Int32 → MM → Prop} (F : FX G (sX D cI cZ cL cE a w) cE_add 4 qnE (some .int)) (hw : w ≤ 4) (hR : gR G = rmE_add) {M : MM} {x1 x2 x3 : Int32} (h : (¬ (M 0 10) = 0 → (post (-1) M)) ∧ ((M 0 10) = 0 → (∃ po2 : Int32 → MM → Prop, Ci (gl G) (sX D cI cZ cL cE a w) yG_takesTask wG_takesTask rmG_takesTask [.ref (a 1), .int x1, .int x2, .int x3] M po2 ∧ ∀ (r5 : Int32) (M6 : MM), po2 r5 M6 → ((¬ r5 = 0 → (∃ po9 : Int32 → MM → Prop, Ci (gl G) (sX D cI cZ cL cE a w) yG_addTask wG_addTask rmG_addTask [.ref (a 1), .int x1, .int x2, .int x3] M6 po9 ∧ ∀ (r12 : Int32) (M13 : MM), po9 r12 M13 → (post r12 M13))) ∧ (r5 = 0 → (post (-1) M6)))))) : wx G (sX D cI cZ cL cE a w) 4 (Qxi G (sX D cI cZ cL cE a w) post) M 0 [(0, .ref (a 0)), (1, .int x1), (2, .int x2), (3, .int x3)] [] := by
  refine wx_aload_n F 0 dE_add_0 rfl rfl ?_
  refine wx_get (ci := 0) (C := qnE) (T := TE) (N := 17) (v := .int (M 0 10)) F 0 (x_lt (by decide)) rfl rfl hiE 10 (by decide) rfl lfE_73 rfl dE_add_1 ?_
  refine wx_if_ne (tgt := 20) F dE_add_4 (by decide) (fun g1 => ?_) (fun g1 => ?_)
  · refine wx_iconst (v := (-1)) F dE_add_20 (by decide) ?_
    exact wx_iret F dE_add_21 ((h).1 g1)
  · refine wx_aload_n F 0 dE_add_7 rfl rfl ?_
    refine wx_get (ci := 0) (C := qnE) (T := TE) (N := 17) (v := .ref (a 1)) F 0 (x_lt (by decide)) rfl rfl hiE 1 (by decide) rfl lfE_25 rfl dE_add_8 ?_
    refine wx_iload_n F 1 dE_add_11 rfl rfl ?_
    refine wx_iload_n F 2 dE_add_12 rfl rfl ?_
    refine wx_iload_n F 3 dE_add_13 rfl rfl ?_
    obtain ⟨po2, c3, h4⟩ := (h).2 g1
    refine wx_calli F 1 c3 (x_lt (by decide)) rfl rfl (cw_V F.1.2.2.2.2 lmE_77 cbG_takesTask rfl rfl ⟨by rw [hR]; exact Nat.le_of_ble_eq_true rfl, by rw [hR]; exact Nat.le_of_ble_eq_true rfl⟩) rfl rfl (Nat.le_of_ble_eq_true rfl) dE_add_14 (fun r5 M6 p7 => ?_)
    refine wx_if_ne (tgt := 22) F dE_add_17 (by decide) (fun g8 => ?_) (fun g8 => ?_)
    · refine wx_aload_n F 0 dE_add_22 rfl rfl ?_
      refine wx_get (ci := 0) (C := qnE) (T := TE) (N := 17) (v := .ref (a 1)) F 0 (x_lt (by decide)) rfl rfl hiE 1 (by decide) rfl lfE_25 rfl dE_add_23 ?_
      refine wx_iload_n F 1 dE_add_26 rfl rfl ?_
      refine wx_iload_n F 2 dE_add_27 rfl rfl ?_
      refine wx_iload_n F 3 dE_add_28 rfl rfl ?_
      obtain ⟨po9, c10, h11⟩ := (h4 r5 M6 p7).1 g8
      refine wx_calli F 1 c10 (x_lt (by decide)) rfl rfl (cw_V F.1.2.2.2.2 lmE_81 cbG_addTask rfl rfl ⟨by rw [hR]; exact Nat.le_of_ble_eq_true rfl, by rw [hR]; exact Nat.le_of_ble_eq_true rfl⟩) rfl rfl (Nat.le_of_ble_eq_true rfl) dE_add_29 (fun r12 M13 p14 => ?_)
      exact wx_iret F dE_add_32 (h11 r12 M13 p14)
    · refine wx_iconst (v := (-1)) F dE_add_20 (by decide) ?_
      exact wx_iret F dE_add_21 ((h4 r5 M6 p7).2 g8)
theorem oE_add {l : Launch} {D : va_G} {cI cZ cL cE : ClassId} {a : Nat → Nat} {w : Nat} {post : Int32 → MM → Prop} (hJ : IJ (sX D cI cZ cL cE a w)) (hw : w ≤ 4) {M : MM} {x1 x2 x3 : Int32} (h : (¬ (M 0 10) = 0 → (post (-1) M)) ∧ ((M 0 10) = 0 → (∃ po2 : Int32 → MM → Prop, Ci l (sX D cI cZ cL cE a w) yG_takesTask wG_takesTask rmG_takesTask [.ref (a 1), .int x1, .int x2, .int x3] M po2 ∧ ∀ (r5 : Int32) (M6 : MM), po2 r5 M6 → ((¬ r5 = 0 → (∃ po9 : Int32 → MM → Prop, Ci l (sX D cI cZ cL cE a w) yG_addTask wG_addTask rmG_addTask [.ref (a 1), .int x1, .int x2, .int x3] M6 po9 ∧ ∀ (r12 : Int32) (M13 : MM), po9 r12 M13 → (post r12 M13))) ∧ (r5 = 0 → (post (-1) M6)))))) : Ci l (sX D cI cZ cL cE a w) yE_add wE_add rmE_add [.ref (a 0), .int x1, .int x2, .int x3] M post := Ci.of (cc := cE_add) (nL := 4) rfl rfl (Nat.le_of_ble_eq_true rfl) hJ (fun G hl hR F => by subst hl; exact sE_add_0 F hw hR h)
set_option maxRecDepth 20000 in
theorem sE_edge_0 {G : CX} {D : va_G} {cI cZ cL cE : ClassId} {a : Nat → Nat} {w : Nat} {post : Int32 → MM → Prop} (F : FX G (sX D cI cZ cL cE a w) cE_edge 3 qnE (some .boolean)) (hw : w ≤ 4) (hR : gR G = rmE_edge) {M : MM} {x1 x2 : Int32} (h : (¬ (M 0 10) = 0 → (post 0 M)) ∧ ((M 0 10) = 0 → (∃ po2 : Int32 → MM → Prop, Ci (gl G) (sX D cI cZ cL cE a w) yG_takesEdge wG_takesEdge rmG_takesEdge [.ref (a 1), .int x1, .int x2] M po2 ∧ ∀ (r5 : Int32) (M6 : MM), po2 r5 M6 → ((¬ r5 = 0 → (∃ po9 : MM → Prop, Cv (gl G) (sX D cI cZ cL cE a w) yG_addEdge wG_addEdge rmG_addEdge [.ref (a 1), .int x1, .int x2] M6 po9 ∧ ∀ (M13 : MM), po9 M13 → (post 1 M13))) ∧ (r5 = 0 → (post 0 M6)))))) : wx G (sX D cI cZ cL cE a w) 3 (Qxi G (sX D cI cZ cL cE a w) post) M 0 [(0, .ref (a 0)), (1, .int x1), (2, .int x2)] [] := by
  refine wx_aload_n F 0 dE_edge_0 rfl rfl ?_
  refine wx_get (ci := 0) (C := qnE) (T := TE) (N := 17) (v := .int (M 0 10)) F 0 (x_lt (by decide)) rfl rfl hiE 10 (by decide) rfl lfE_73 rfl dE_edge_1 ?_
  refine wx_if_ne (tgt := 19) F dE_edge_4 (by decide) (fun g1 => ?_) (fun g1 => ?_)
  · refine wx_iconst (v := 0) F dE_edge_19 (by decide) ?_
    exact wx_zret F dE_edge_20 rfl ((h).1 g1)
  · refine wx_aload_n F 0 dE_edge_7 rfl rfl ?_
    refine wx_get (ci := 0) (C := qnE) (T := TE) (N := 17) (v := .ref (a 1)) F 0 (x_lt (by decide)) rfl rfl hiE 1 (by decide) rfl lfE_25 rfl dE_edge_8 ?_
    refine wx_iload_n F 1 dE_edge_11 rfl rfl ?_
    refine wx_iload_n F 2 dE_edge_12 rfl rfl ?_
    obtain ⟨po2, c3, h4⟩ := (h).2 g1
    refine wx_calli F 1 c3 (x_lt (by decide)) rfl rfl (cw_V F.1.2.2.2.2 lmE_85 cbG_takesEdge rfl rfl ⟨by rw [hR]; exact Nat.le_of_ble_eq_true rfl, by rw [hR]; exact Nat.le_of_ble_eq_true rfl⟩) rfl rfl (Nat.le_of_ble_eq_true rfl) dE_edge_13 (fun r5 M6 p7 => ?_)
    refine wx_if_ne (tgt := 21) F dE_edge_16 (by decide) (fun g8 => ?_) (fun g8 => ?_)
    · refine wx_aload_n F 0 dE_edge_21 rfl rfl ?_
      refine wx_get (ci := 0) (C := qnE) (T := TE) (N := 17) (v := .ref (a 1)) F 0 (x_lt (by decide)) rfl rfl hiE 1 (by decide) rfl lfE_25 rfl dE_edge_22 ?_
      refine wx_iload_n F 1 dE_edge_25 rfl rfl ?_
      refine wx_iload_n F 2 dE_edge_26 rfl rfl ?_
      obtain ⟨po9, c10, h11⟩ := (h4 r5 M6 p7).1 g8
      refine wx_callv F 1 c10 (x_lt (by decide)) rfl rfl (cw_V F.1.2.2.2.2 lmE_89 cbG_addEdge rfl rfl ⟨by rw [hR]; exact Nat.le_of_ble_eq_true rfl, by rw [hR]; exact Nat.le_of_ble_eq_true rfl⟩) rfl rfl (Nat.le_of_ble_eq_true rfl) dE_edge_27 (fun M13 p14 => ?_)
      refine wx_iconst (v := 1) F dE_edge_30 (by decide) ?_
      exact wx_zret F dE_edge_31 rfl (h11 M13 p14)
    · refine wx_iconst (v := 0) F dE_edge_19 (by decide) ?_
      exact wx_zret F dE_edge_20 rfl ((h4 r5 M6 p7).2 g8)
theorem oE_edge {l : Launch} {D : va_G} {cI cZ cL cE : ClassId} {a : Nat → Nat} {w : Nat} {post : Int32 → MM → Prop} (hJ : IJ (sX D cI cZ cL cE a w)) (hw : w ≤ 4) {M : MM} {x1 x2 : Int32} (h : (¬ (M 0 10) = 0 → (post 0 M)) ∧ ((M 0 10) = 0 → (∃ po2 : Int32 → MM → Prop, Ci l (sX D cI cZ cL cE a w) yG_takesEdge wG_takesEdge rmG_takesEdge [.ref (a 1), .int x1, .int x2] M po2 ∧ ∀ (r5 : Int32) (M6 : MM), po2 r5 M6 → ((¬ r5 = 0 → (∃ po9 : MM → Prop, Cv l (sX D cI cZ cL cE a w) yG_addEdge wG_addEdge rmG_addEdge [.ref (a 1), .int x1, .int x2] M6 po9 ∧ ∀ (M13 : MM), po9 M13 → (post 1 M13))) ∧ (r5 = 0 → (post 0 M6)))))) : Ci l (sX D cI cZ cL cE a w) yE_edge wE_edge rmE_edge [.ref (a 0), .int x1, .int x2] M post := Ci.of (cc := cE_edge) (nL := 3) rfl rfl (Nat.le_of_ble_eq_true rfl) hJ (fun G hl hR F => by subst hl; exact sE_edge_0 F hw hR h)
set_option maxRecDepth 20000 in
theorem sE_capacity_0 {G : CX} {D : va_G} {cI cZ cL cE : ClassId} {a : Nat → Nat} {w : Nat} {post : Int32 → MM → Prop} (F : FX G (sX D cI cZ cL cE a w) cE_capacity 3 qnE (some .boolean)) (hw : w ≤ 4) (hR : gR G = rmE_capacity) {M : MM} {x1 x2 : Int32} (h : (¬ (M 0 10) = 0 → (post 0 M)) ∧ ((M 0 10) = 0 → (∃ po2 : Int32 → MM → Prop, Ci (gl G) (sX D cI cZ cL cE a w) yE_isSemaphore wE_isSemaphore rmE_isSemaphore [.int x1] M po2 ∧ ∀ (r5 : Int32) (M6 : MM), po2 r5 M6 → ((r5 = 0 → (post 0 M6)) ∧ (¬ r5 = 0 → ((x2 < 1 → (post 0 M6)) ∧ (¬ x2 < 1 → ((x2 ≤ 4 → (∃ j13 : Nat, x1 = nI j13 ∧ j13 < 4 ∧ (∀ M11 : MM, M11 = mp M6 35 j13 x2 → (post 1 M11)))) ∧ (¬ x2 ≤ 4 → (post 0 M6)))))))))) : wx G (sX D cI cZ cL cE a w) 3 (Qxi G (sX D cI cZ cL cE a w) post) M 0 [(0, .ref (a 0)), (1, .int x1), (2, .int x2)] [] := by
  refine wx_aload_n F 0 dE_capacity_0 rfl rfl ?_
  refine wx_get (ci := 0) (C := qnE) (T := TE) (N := 17) (v := .int (M 0 10)) F 0 (x_lt (by decide)) rfl rfl hiE 10 (by decide) rfl lfE_73 rfl dE_capacity_1 ?_
  refine wx_if_ne (tgt := 24) F dE_capacity_4 (by decide) (fun g1 => ?_) (fun g1 => ?_)
  · refine wx_iconst (v := 0) F dE_capacity_24 (by decide) ?_
    exact wx_zret F dE_capacity_25 rfl ((h).1 g1)
  · refine wx_iload_n F 1 dE_capacity_7 rfl rfl ?_
    obtain ⟨po2, c3, h4⟩ := (h).2 g1
    refine wx_callsi F c3 (cw_S F.1.2.2.2.2 lmE_93 cbE_isSemaphore rfl rfl ⟨by rw [hR]; exact Nat.le_of_ble_eq_true rfl, by rw [hR]; exact Nat.le_of_ble_eq_true rfl⟩) rfl rfl (Nat.le_of_ble_eq_true rfl) dE_capacity_8 (fun r5 M6 p7 => ?_)
    refine wx_if_eq (tgt := 24) F dE_capacity_11 (by decide) (fun g8 => ?_) (fun g8 => ?_)
    · refine wx_iconst (v := 0) F dE_capacity_24 (by decide) ?_
      exact wx_zret F dE_capacity_25 rfl ((h4 r5 M6 p7).1 g8)
    · refine wx_iload_n F 2 dE_capacity_14 rfl rfl ?_
      refine wx_iconst (v := 1) F dE_capacity_15 (by decide) ?_
      refine wx_icmp_lt (tgt := 24) F dE_capacity_16 (by decide) (fun g9 => ?_) (fun g9 => ?_)
      · refine wx_iconst (v := 0) F dE_capacity_24 (by decide) ?_
        exact wx_zret F dE_capacity_25 rfl (((h4 r5 M6 p7).2 g8).1 g9)
      · refine wx_iload_n F 2 dE_capacity_19 rfl rfl ?_
        refine wx_iconst (v := 4) F dE_capacity_20 (by decide) ?_
        refine wx_icmp_le (tgt := 26) F dE_capacity_21 (by decide) (fun g10 => ?_) (fun g10 => ?_)
        · refine wx_aload_n F 0 dE_capacity_26 rfl rfl ?_
          refine wx_get (ci := 0) (C := qnE) (T := TE) (N := 17) (v := .ref (a 34)) F 0 (x_lt (by decide)) rfl rfl hiE 2 (by decide) rfl lfE_32 rfl dE_capacity_27 ?_
          refine wx_get (ci := 3) (C := qnP) (T := TP) (N := 2) (v := .ref (a 35)) F 34 (x_lt (by decide)) rfl rfl hiP 0 (by decide) rfl lfE_97 rfl dE_capacity_30 ?_
          refine wx_iload_n F 1 dE_capacity_33 rfl rfl ?_
          refine wx_iload_n F 2 dE_capacity_34 rfl rfl ?_
          obtain ⟨j13, e14, b15, h16⟩ := (((h4 r5 M6 p7).2 g8).2 g9).1 g10
          refine wx_iast (N := 4) F 35 (x_lt (by decide)) (fun _ => rfl) 0 rfl e14 b15 (by omega) dE_capacity_35 (wx_nm (fun M11 e12 => ?_))
          refine wx_iconst (v := 1) F dE_capacity_36 (by decide) ?_
          exact wx_zret F dE_capacity_37 rfl (h16 M11 e12)
        · refine wx_iconst (v := 0) F dE_capacity_24 (by decide) ?_
          exact wx_zret F dE_capacity_25 rfl ((((h4 r5 M6 p7).2 g8).2 g9).2 g10)
theorem oE_capacity {l : Launch} {D : va_G} {cI cZ cL cE : ClassId} {a : Nat → Nat} {w : Nat} {post : Int32 → MM → Prop} (hJ : IJ (sX D cI cZ cL cE a w)) (hw : w ≤ 4) {M : MM} {x1 x2 : Int32} (h : (¬ (M 0 10) = 0 → (post 0 M)) ∧ ((M 0 10) = 0 → (∃ po2 : Int32 → MM → Prop, Ci l (sX D cI cZ cL cE a w) yE_isSemaphore wE_isSemaphore rmE_isSemaphore [.int x1] M po2 ∧ ∀ (r5 : Int32) (M6 : MM), po2 r5 M6 → ((r5 = 0 → (post 0 M6)) ∧ (¬ r5 = 0 → ((x2 < 1 → (post 0 M6)) ∧ (¬ x2 < 1 → ((x2 ≤ 4 → (∃ j13 : Nat, x1 = nI j13 ∧ j13 < 4 ∧ (∀ M11 : MM, M11 = mp M6 35 j13 x2 → (post 1 M11)))) ∧ (¬ x2 ≤ 4 → (post 0 M6)))))))))) : Ci l (sX D cI cZ cL cE a w) yE_capacity wE_capacity rmE_capacity [.ref (a 0), .int x1, .int x2] M post := Ci.of (cc := cE_capacity) (nL := 3) rfl rfl (Nat.le_of_ble_eq_true rfl) hJ (fun G hl hR F => by subst hl; exact sE_capacity_0 F hw hR h)
set_option maxRecDepth 20000 in
theorem sE_check_0 {G : CX} {D : va_G} {cI cZ cL cE : ClassId} {a : Nat → Nat} {w : Nat} {post : Int32 → MM → Prop} (F : FX G (sX D cI cZ cL cE a w) cE_check 1 qnE (some .int)) (hw : w ≤ 4) (hR : gR G = rmE_check) {M : MM} (h : (¬ (M 1 0) = 0 → (∃ po2 : Int32 → MM → Prop, Ci (gl G) (sX D cI cZ cL cE a w) yG_hasGroupWithoutSource wG_hasGroupWithoutSource rmG_hasGroupWithoutSource [.ref (a 1)] M po2 ∧ ∀ (r5 : Int32) (M6 : MM), po2 r5 M6 → ((r5 = 0 → (∃ po9 : Int32 → MM → Prop, Ci (gl G) (sX D cI cZ cL cE a w) yG_hasStrongCycle wG_hasStrongCycle rmG_hasStrongCycle [.ref (a 1)] M6 po9 ∧ ∀ (r12 : Int32) (M13 : MM), po9 r12 M13 → ((r12 = 0 → (post 0 M13)) ∧ (¬ r12 = 0 → (post 3 M13))))) ∧ (¬ r5 = 0 → (post 2 M6))))) ∧ ((M 1 0) = 0 → (post 1 M))) : wx G (sX D cI cZ cL cE a w) 1 (Qxi G (sX D cI cZ cL cE a w) post) M 0 [(0, .ref (a 0))] [] := by
  refine wx_aload_n F 0 dE_check_0 rfl rfl ?_
  refine wx_get (ci := 0) (C := qnE) (T := TE) (N := 17) (v := .ref (a 1)) F 0 (x_lt (by decide)) rfl rfl hiE 1 (by decide) rfl lfE_25 rfl dE_check_1 ?_
  refine wx_get (ci := 1) (C := qnG) (T := TG) (N := 9) (v := .int (M 1 0)) F 1 (x_lt (by decide)) rfl rfl hiG 0 (by decide) rfl lfE_100 rfl dE_check_4 ?_
  refine wx_if_ne (tgt := 12) F dE_check_7 (by decide) (fun g1 => ?_) (fun g1 => ?_)
  · refine wx_aload_n F 0 dE_check_12 rfl rfl ?_
    refine wx_get (ci := 0) (C := qnE) (T := TE) (N := 17) (v := .ref (a 1)) F 0 (x_lt (by decide)) rfl rfl hiE 1 (by decide) rfl lfE_25 rfl dE_check_13 ?_
    obtain ⟨po2, c3, h4⟩ := (h).1 g1
    refine wx_calli F 1 c3 (x_lt (by decide)) rfl rfl (cw_V F.1.2.2.2.2 lmE_103 cbG_hasGroupWithoutSource rfl rfl ⟨by rw [hR]; exact Nat.le_of_ble_eq_true rfl, by rw [hR]; exact Nat.le_of_ble_eq_true rfl⟩) rfl rfl (Nat.le_of_ble_eq_true rfl) dE_check_16 (fun r5 M6 p7 => ?_)
    refine wx_if_eq (tgt := 24) F dE_check_19 (by decide) (fun g8 => ?_) (fun g8 => ?_)
    · refine wx_aload_n F 0 dE_check_24 rfl rfl ?_
      refine wx_get (ci := 0) (C := qnE) (T := TE) (N := 17) (v := .ref (a 1)) F 0 (x_lt (by decide)) rfl rfl hiE 1 (by decide) rfl lfE_25 rfl dE_check_25 ?_
      obtain ⟨po9, c10, h11⟩ := (h4 r5 M6 p7).1 g8
      refine wx_calli F 1 c10 (x_lt (by decide)) rfl rfl (cw_V F.1.2.2.2.2 lmE_107 cbG_hasStrongCycle rfl rfl ⟨by rw [hR]; exact Nat.le_of_ble_eq_true rfl, by rw [hR]; exact Nat.le_of_ble_eq_true rfl⟩) rfl rfl (Nat.le_of_ble_eq_true rfl) dE_check_28 (fun r12 M13 p14 => ?_)
      refine wx_if_eq (tgt := 38) F dE_check_31 (by decide) (fun g15 => ?_) (fun g15 => ?_)
      · refine wx_iconst (v := 0) F dE_check_38 (by decide) ?_
        exact wx_iret F dE_check_39 ((h11 r12 M13 p14).1 g15)
      · refine wx_iconst (v := 3) F dE_check_34 (by decide) ?_
        refine wx_goto (tgt := 39) F dE_check_35 (by decide) ?_
        exact wx_iret F dE_check_39 ((h11 r12 M13 p14).2 g15)
    · refine wx_iconst (v := 2) F dE_check_22 (by decide) ?_
      exact wx_iret F dE_check_23 ((h4 r5 M6 p7).2 g8)
  · refine wx_iconst (v := 1) F dE_check_10 (by decide) ?_
    exact wx_iret F dE_check_11 ((h).2 g1)
theorem oE_check {l : Launch} {D : va_G} {cI cZ cL cE : ClassId} {a : Nat → Nat} {w : Nat} {post : Int32 → MM → Prop} (hJ : IJ (sX D cI cZ cL cE a w)) (hw : w ≤ 4) {M : MM} (h : (¬ (M 1 0) = 0 → (∃ po2 : Int32 → MM → Prop, Ci l (sX D cI cZ cL cE a w) yG_hasGroupWithoutSource wG_hasGroupWithoutSource rmG_hasGroupWithoutSource [.ref (a 1)] M po2 ∧ ∀ (r5 : Int32) (M6 : MM), po2 r5 M6 → ((r5 = 0 → (∃ po9 : Int32 → MM → Prop, Ci l (sX D cI cZ cL cE a w) yG_hasStrongCycle wG_hasStrongCycle rmG_hasStrongCycle [.ref (a 1)] M6 po9 ∧ ∀ (r12 : Int32) (M13 : MM), po9 r12 M13 → ((r12 = 0 → (post 0 M13)) ∧ (¬ r12 = 0 → (post 3 M13))))) ∧ (¬ r5 = 0 → (post 2 M6))))) ∧ ((M 1 0) = 0 → (post 1 M))) : Ci l (sX D cI cZ cL cE a w) yE_check wE_check rmE_check [.ref (a 0)] M post := Ci.of (cc := cE_check) (nL := 1) rfl rfl (Nat.le_of_ble_eq_true rfl) hJ (fun G hl hR F => by subst hl; exact sE_check_0 F hw hR h)
set_option maxRecDepth 20000 in
theorem sE_start_0 {G : CX} {D : va_G} {cI cZ cL cE : ClassId} {a : Nat → Nat} {w : Nat} {post : Int32 → MM → Prop} (F : FX G (sX D cI cZ cL cE a w) cE_start 2 qnE (some .boolean)) (hw : w ≤ 4) (hR : gR G = rmE_start) {M : MM} {x1 : Int32} (h : (¬ (M 0 10) = 0 → (post 0 M)) ∧ ((M 0 10) = 0 → ((x1 < 1 → (post 0 M)) ∧ (¬ x1 < 1 → ((9 < x1 → (post 0 M)) ∧ (¬ 9 < x1 → (∃ po4 : Int32 → MM → Prop, Ci (gl G) (sX D cI cZ cL cE a w) yE_check wE_check rmE_check [.ref (a 0)] M po4 ∧ ∀ (r7 : Int32) (M8 : MM), po4 r7 M8 → ((r7 = 0 → (∀ M11 : MM, M11 = mp M8 0 10 1 → (∀ M13 : MM, M13 = mp M11 0 11 0 → (∀ M15 : MM, M15 = mp M13 0 12 (-1) → (∀ M17 : MM, M17 = mp M15 0 13 x1 → (∀ M19 : MM, M19 = mp M17 0 14 0 → (∀ M21 : MM, M21 = mp M19 0 15 0 → (∀ M23 : MM, M23 = mp M21 0 16 0 → (∃ po25 : MM → Prop, Cv (gl G) (sX D cI cZ cL cE a w) yA_fill wA_fill rmA_fill [.ref (a 40), .int 0] M23 po25 ∧ ∀ (M29 : MM), po25 M29 → (∃ po31 : MM → Prop, Cv (gl G) (sX D cI cZ cL cE a w) yE_beginRound wE_beginRound rmE_beginRound [.ref (a 0)] M29 po31 ∧ ∀ (M35 : MM), po31 M35 → (post 1 M35))))))))))) ∧ (¬ r7 = 0 → (post 0 M8)))))))))) : wx G (sX D cI cZ cL cE a w) 2 (Qxi G (sX D cI cZ cL cE a w) post) M 0 [(0, .ref (a 0)), (1, .int x1)] [] := by
  refine wx_aload_n F 0 dE_start_0 rfl rfl ?_
  refine wx_get (ci := 0) (C := qnE) (T := TE) (N := 17) (v := .int (M 0 10)) F 0 (x_lt (by decide)) rfl rfl hiE 10 (by decide) rfl lfE_73 rfl dE_start_1 ?_
  refine wx_if_ne (tgt := 25) F dE_start_4 (by decide) (fun g1 => ?_) (fun g1 => ?_)
  · refine wx_iconst (v := 0) F dE_start_25 (by decide) ?_
    exact wx_zret F dE_start_26 rfl ((h).1 g1)
  · refine wx_iload_n F 1 dE_start_7 rfl rfl ?_
    refine wx_iconst (v := 1) F dE_start_8 (by decide) ?_
    refine wx_icmp_lt (tgt := 25) F dE_start_9 (by decide) (fun g2 => ?_) (fun g2 => ?_)
    · refine wx_iconst (v := 0) F dE_start_25 (by decide) ?_
      exact wx_zret F dE_start_26 rfl (((h).2 g1).1 g2)
    · refine wx_iload_n F 1 dE_start_12 rfl rfl ?_
      refine wx_bipush (v := 9) F dE_start_13 (by decide) ?_
      refine wx_icmp_gt (tgt := 25) F dE_start_15 (by decide) (fun g3 => ?_) (fun g3 => ?_)
      · refine wx_iconst (v := 0) F dE_start_25 (by decide) ?_
        exact wx_zret F dE_start_26 rfl ((((h).2 g1).2 g2).1 g3)
      · refine wx_aload_n F 0 dE_start_18 rfl rfl ?_
        obtain ⟨po4, c5, h6⟩ := (((h).2 g1).2 g2).2 g3
        refine wx_calli F 0 c5 (x_lt (by decide)) rfl rfl (cw_V F.1.2.2.2.2 lmE_110 cbE_check rfl rfl ⟨by rw [hR]; exact Nat.le_of_ble_eq_true rfl, by rw [hR]; exact Nat.le_of_ble_eq_true rfl⟩) rfl rfl (Nat.le_of_ble_eq_true rfl) dE_start_19 (fun r7 M8 p9 => ?_)
        refine wx_if_eq (tgt := 27) F dE_start_22 (by decide) (fun g10 => ?_) (fun g10 => ?_)
        · refine wx_aload_n F 0 dE_start_27 rfl rfl ?_
          refine wx_iconst (v := 1) F dE_start_28 (by decide) ?_
          refine wx_put (ci := 0) (C := qnE) (T := TE) (N := 17) (ty := .boolean) F 0 (x_lt (by decide)) rfl rfl hiE tyE tyE_ok nmE 10 (by decide) rfl lfE_73 rfl (by decide +kernel) rfl rfl (Nat.le_of_ble_eq_true rfl) rfl dE_start_29 (wx_nm (fun M11 e12 => ?_))
          refine wx_aload_n F 0 dE_start_32 rfl rfl ?_
          refine wx_iconst (v := 0) F dE_start_33 (by decide) ?_
          refine wx_put (ci := 0) (C := qnE) (T := TE) (N := 17) (ty := .boolean) F 0 (x_lt (by decide)) rfl rfl hiE tyE tyE_ok nmE 11 (by decide) rfl lfE_114 rfl (by decide +kernel) rfl rfl (Nat.le_of_ble_eq_true rfl) rfl dE_start_34 (wx_nm (fun M13 e14 => ?_))
          refine wx_aload_n F 0 dE_start_37 rfl rfl ?_
          refine wx_iconst (v := (-1)) F dE_start_38 (by decide) ?_
          refine wx_put (ci := 0) (C := qnE) (T := TE) (N := 17) (ty := .int) F 0 (x_lt (by decide)) rfl rfl hiE tyE tyE_ok nmE 12 (by decide) rfl lfE_70 rfl (by decide +kernel) rfl rfl (Nat.le_of_ble_eq_true rfl) rfl dE_start_39 (wx_nm (fun M15 e16 => ?_))
          refine wx_aload_n F 0 dE_start_42 rfl rfl ?_
          refine wx_iload_n F 1 dE_start_43 rfl rfl ?_
          refine wx_put (ci := 0) (C := qnE) (T := TE) (N := 17) (ty := .int) F 0 (x_lt (by decide)) rfl rfl hiE tyE tyE_ok nmE 13 (by decide) rfl lfE_117 rfl (by decide +kernel) rfl rfl (Nat.le_of_ble_eq_true rfl) rfl dE_start_44 (wx_nm (fun M17 e18 => ?_))
          refine wx_aload_n F 0 dE_start_47 rfl rfl ?_
          refine wx_iconst (v := 0) F dE_start_48 (by decide) ?_
          refine wx_put (ci := 0) (C := qnE) (T := TE) (N := 17) (ty := .int) F 0 (x_lt (by decide)) rfl rfl hiE tyE tyE_ok nmE 14 (by decide) rfl lfE_120 rfl (by decide +kernel) rfl rfl (Nat.le_of_ble_eq_true rfl) rfl dE_start_49 (wx_nm (fun M19 e20 => ?_))
          refine wx_aload_n F 0 dE_start_52 rfl rfl ?_
          refine wx_iconst (v := 0) F dE_start_53 (by decide) ?_
          refine wx_put (ci := 0) (C := qnE) (T := TE) (N := 17) (ty := .int) F 0 (x_lt (by decide)) rfl rfl hiE tyE tyE_ok nmE 15 (by decide) rfl lfE_123 rfl (by decide +kernel) rfl rfl (Nat.le_of_ble_eq_true rfl) rfl dE_start_54 (wx_nm (fun M21 e22 => ?_))
          refine wx_aload_n F 0 dE_start_57 rfl rfl ?_
          refine wx_iconst (v := 0) F dE_start_58 (by decide) ?_
          refine wx_put (ci := 0) (C := qnE) (T := TE) (N := 17) (ty := .int) F 0 (x_lt (by decide)) rfl rfl hiE tyE tyE_ok nmE 16 (by decide) rfl lfE_126 rfl (by decide +kernel) rfl rfl (Nat.le_of_ble_eq_true rfl) rfl dE_start_59 (wx_nm (fun M23 e24 => ?_))
          refine wx_aload_n F 0 dE_start_62 rfl rfl ?_
          refine wx_get (ci := 0) (C := qnE) (T := TE) (N := 17) (v := .ref (a 40)) F 0 (x_lt (by decide)) rfl rfl hiE 8 (by decide) rfl lfE_63 rfl dE_start_63 ?_
          refine wx_iconst (v := 0) F dE_start_66 (by decide) ?_
          obtain ⟨po25, c26, h27⟩ := ((((((((h6 r7 M8 p9).1 g10) M11 e12) M13 e14) M15 e16) M17 e18) M19 e20) M21 e22) M23 e24
          refine wx_callsv F c26 (cw_S F.1.2.2.2.2 lmE_51 cbA_fill rfl rfl ⟨by rw [hR]; exact Nat.le_of_ble_eq_true rfl, by rw [hR]; exact Nat.le_of_ble_eq_true rfl⟩) rfl rfl (Nat.le_of_ble_eq_true rfl) dE_start_67 (fun M29 p30 => ?_)
          refine wx_aload_n F 0 dE_start_70 rfl rfl ?_
          obtain ⟨po31, c32, h33⟩ := h27 M29 p30
          refine wx_callv F 0 c32 (x_lt (by decide)) rfl rfl (cw_V F.1.2.2.2.2 lmE_129 cbE_beginRound rfl rfl ⟨by rw [hR]; exact Nat.le_of_ble_eq_true rfl, by rw [hR]; exact Nat.le_of_ble_eq_true rfl⟩) rfl rfl (Nat.le_of_ble_eq_true rfl) dE_start_71 (fun M35 p36 => ?_)
          refine wx_iconst (v := 1) F dE_start_74 (by decide) ?_
          exact wx_zret F dE_start_75 rfl (h33 M35 p36)
        · refine wx_iconst (v := 0) F dE_start_25 (by decide) ?_
          exact wx_zret F dE_start_26 rfl ((h6 r7 M8 p9).2 g10)
theorem oE_start {l : Launch} {D : va_G} {cI cZ cL cE : ClassId} {a : Nat → Nat} {w : Nat} {post : Int32 → MM → Prop} (hJ : IJ (sX D cI cZ cL cE a w)) (hw : w ≤ 4) {M : MM} {x1 : Int32} (h : (¬ (M 0 10) = 0 → (post 0 M)) ∧ ((M 0 10) = 0 → ((x1 < 1 → (post 0 M)) ∧ (¬ x1 < 1 → ((9 < x1 → (post 0 M)) ∧ (¬ 9 < x1 → (∃ po4 : Int32 → MM → Prop, Ci l (sX D cI cZ cL cE a w) yE_check wE_check rmE_check [.ref (a 0)] M po4 ∧ ∀ (r7 : Int32) (M8 : MM), po4 r7 M8 → ((r7 = 0 → (∀ M11 : MM, M11 = mp M8 0 10 1 → (∀ M13 : MM, M13 = mp M11 0 11 0 → (∀ M15 : MM, M15 = mp M13 0 12 (-1) → (∀ M17 : MM, M17 = mp M15 0 13 x1 → (∀ M19 : MM, M19 = mp M17 0 14 0 → (∀ M21 : MM, M21 = mp M19 0 15 0 → (∀ M23 : MM, M23 = mp M21 0 16 0 → (∃ po25 : MM → Prop, Cv l (sX D cI cZ cL cE a w) yA_fill wA_fill rmA_fill [.ref (a 40), .int 0] M23 po25 ∧ ∀ (M29 : MM), po25 M29 → (∃ po31 : MM → Prop, Cv l (sX D cI cZ cL cE a w) yE_beginRound wE_beginRound rmE_beginRound [.ref (a 0)] M29 po31 ∧ ∀ (M35 : MM), po31 M35 → (post 1 M35))))))))))) ∧ (¬ r7 = 0 → (post 0 M8)))))))))) : Ci l (sX D cI cZ cL cE a w) yE_start wE_start rmE_start [.ref (a 0), .int x1] M post := Ci.of (cc := cE_start) (nL := 2) rfl rfl (Nat.le_of_ble_eq_true rfl) hJ (fun G hl hR F => by subst hl; exact sE_start_0 F hw hR h)
set_option maxRecDepth 20000 in
theorem sE_begin_0 {G : CX} {D : va_G} {cI cZ cL cE : ClassId} {a : Nat → Nat} {w : Nat} {post : Int32 → MM → Prop} (F : FX G (sX D cI cZ cL cE a w) cE_begin 4 qnE (some .int)) (hw : w ≤ 4) (hR : gR G = rmE_begin) {K29 : MM → Int32 → Int32 → Prop} (hK29 : ∀ (M : MM) (x1 x2 : Int32), K29 M x1 x2 → wx G (sX D cI cZ cL cE a w) 4 (Qxi G (sX D cI cZ cL cE a w) post) M 29 [(0, .ref (a 0)), (1, .int x1), (2, .int x2)] []) {M : MM} {x1 : Int32} (h : ((M 0 10) = 0 → (post (-1) M)) ∧ (¬ (M 0 10) = 0 → (∃ po2 : Int32 → MM → Prop, Ci (gl G) (sX D cI cZ cL cE a w) yE_isWorker wE_isWorker rmE_isWorker [.ref (a 0), .int x1] M po2 ∧ ∀ (r5 : Int32) (M6 : MM), po2 r5 M6 → ((r5 = 0 → (post (-1) M6)) ∧ (¬ r5 = 0 → (∃ j9 : Nat, x1 = nI j9 ∧ j9 < w ∧ (((M6 37 j9) = (-1) → (K29 M6 x1 0)) ∧ (¬ (M6 37 j9) = (-1) → (post (-1) M6))))))))) : wx G (sX D cI cZ cL cE a w) 4 (Qxi G (sX D cI cZ cL cE a w) post) M 0 [(0, .ref (a 0)), (1, .int x1)] [] := by
  refine wx_aload_n F 0 dE_begin_0 rfl rfl ?_
  refine wx_get (ci := 0) (C := qnE) (T := TE) (N := 17) (v := .int (M 0 10)) F 0 (x_lt (by decide)) rfl rfl hiE 10 (by decide) rfl lfE_73 rfl dE_begin_1 ?_
  refine wx_if_eq (tgt := 25) F dE_begin_4 (by decide) (fun g1 => ?_) (fun g1 => ?_)
  · refine wx_iconst (v := (-1)) F dE_begin_25 (by decide) ?_
    exact wx_iret F dE_begin_26 ((h).1 g1)
  · refine wx_aload_n F 0 dE_begin_7 rfl rfl ?_
    refine wx_iload_n F 1 dE_begin_8 rfl rfl ?_
    obtain ⟨po2, c3, h4⟩ := (h).2 g1
    refine wx_calli F 0 c3 (x_lt (by decide)) rfl rfl (cw_V F.1.2.2.2.2 lmE_132 cbE_isWorker rfl rfl ⟨by rw [hR]; exact Nat.le_of_ble_eq_true rfl, by rw [hR]; exact Nat.le_of_ble_eq_true rfl⟩) rfl rfl (Nat.le_of_ble_eq_true rfl) dE_begin_9 (fun r5 M6 p7 => ?_)
    refine wx_if_eq (tgt := 25) F dE_begin_12 (by decide) (fun g8 => ?_) (fun g8 => ?_)
    · refine wx_iconst (v := (-1)) F dE_begin_25 (by decide) ?_
      exact wx_iret F dE_begin_26 ((h4 r5 M6 p7).1 g8)
    · refine wx_aload_n F 0 dE_begin_15 rfl rfl ?_
      refine wx_get (ci := 0) (C := qnE) (T := TE) (N := 17) (v := .ref (a 37)) F 0 (x_lt (by decide)) rfl rfl hiE 5 (by decide) rfl lfE_47 rfl dE_begin_16 ?_
      refine wx_iload_n F 1 dE_begin_19 rfl rfl ?_
      obtain ⟨j9, e10, b11, h12⟩ := (h4 r5 M6 p7).2 g8
      refine wx_iald (N := w) F 37 (x_lt (by decide)) rfl 0 rfl e10 b11 (by omega) dE_begin_20 ?_
      refine wx_iconst (v := (-1)) F dE_begin_21 (by decide) ?_
      refine wx_icmp_eq (tgt := 27) F dE_begin_22 (by decide) (fun g13 => ?_) (fun g13 => ?_)
      · refine wx_iconst (v := 0) F dE_begin_27 (by decide) ?_
        refine wx_istore_n (lv' := [(2, .int 0), (0, .ref (a 0)), (1, .int x1)]) F dE_begin_28 rfl (by decide) rfl ?_
        exact wx_lv [1, 2, 0] rfl (hK29 _ _ _ ((h12).1 g13))
      · refine wx_iconst (v := (-1)) F dE_begin_25 (by decide) ?_
        exact wx_iret F dE_begin_26 ((h12).2 g13)
set_option maxRecDepth 20000 in
theorem sE_begin_29 {G : CX} {D : va_G} {cI cZ cL cE : ClassId} {a : Nat → Nat} {w : Nat} {post : Int32 → MM → Prop} (F : FX G (sX D cI cZ cL cE a w) cE_begin 4 qnE (some .int)) (hw : w ≤ 4) (hR : gR G = rmE_begin) {K29 : MM → Int32 → Int32 → Prop} (hK29 : ∀ (M : MM) (x1 x2 : Int32), K29 M x1 x2 → wx G (sX D cI cZ cL cE a w) 4 (Qxi G (sX D cI cZ cL cE a w) post) M 29 [(0, .ref (a 0)), (1, .int x1), (2, .int x2)] []) {M : MM} {x1 x2 : Int32} (h : (24 ≤ x2 → (post (-1) M)) ∧ (¬ 24 ≤ x2 → (∃ po2 : Int32 → MM → Prop, Ci (gl G) (sX D cI cZ cL cE a w) yE_take wE_take rmE_take [.ref (a 0), .int x1] M po2 ∧ ∀ (r5 : Int32) (M6 : MM), po2 r5 M6 → ((¬ r5 = (-1) → (∃ j9 : Nat, r5 = nI j9 ∧ j9 < 24 ∧ (∃ po13 : Int32 → MM → Prop, Ci (gl G) (sX D cI cZ cL cE a w) yP_areFree wP_areFree rmP_areFree [.ref (a 34), .int (M6 5 j9)] M6 po13 ∧ ∀ (r16 : Int32) (M17 : MM), po13 r16 M17 → ((r16 = 0 → (∃ po20 : MM → Prop, Cv (gl G) (sX D cI cZ cL cE a w) yE_park wE_park rmE_park [.ref (a 0), .int r5] M17 po20 ∧ ∀ (M24 : MM), po20 M24 → (K29 M24 x1 (x2 + 1)))) ∧ (¬ r16 = 0 → (∃ po26 : MM → Prop, Cv (gl G) (sX D cI cZ cL cE a w) yE_run wE_run rmE_run [.ref (a 0), .int r5, .int x1] M17 po26 ∧ ∀ (M30 : MM), po26 M30 → (post r5 M30))))))) ∧ (r5 = (-1) → (post (-1) M6)))))) : wx G (sX D cI cZ cL cE a w) 4 (Qxi G (sX D cI cZ cL cE a w) post) M 29 [(0, .ref (a 0)), (1, .int x1), (2, .int x2)] [] := by
  refine wx_iload_n F 2 dE_begin_29 rfl rfl ?_
  refine wx_bipush (v := 24) F dE_begin_30 (by decide) ?_
  refine wx_icmp_ge (tgt := 86) F dE_begin_32 (by decide) (fun g1 => ?_) (fun g1 => ?_)
  · refine wx_iconst (v := (-1)) F dE_begin_86 (by decide) ?_
    exact wx_iret F dE_begin_87 ((h).1 g1)
  · refine wx_aload_n F 0 dE_begin_35 rfl rfl ?_
    refine wx_iload_n F 1 dE_begin_36 rfl rfl ?_
    obtain ⟨po2, c3, h4⟩ := (h).2 g1
    refine wx_calli F 0 c3 (x_lt (by decide)) rfl rfl (cw_V F.1.2.2.2.2 lmE_135 cbE_take rfl rfl ⟨by rw [hR]; exact Nat.le_of_ble_eq_true rfl, by rw [hR]; exact Nat.le_of_ble_eq_true rfl⟩) rfl rfl (Nat.le_of_ble_eq_true rfl) dE_begin_37 (fun r5 M6 p7 => ?_)
    refine wx_istore_n (lv' := [(3, .int r5), (0, .ref (a 0)), (1, .int x1), (2, .int x2)]) F dE_begin_40 rfl (by decide) rfl ?_
    refine wx_iload_n F 0 dE_begin_41 rfl rfl ?_
    refine wx_iconst (v := (-1)) F dE_begin_42 (by decide) ?_
    refine wx_icmp_ne (tgt := 48) F dE_begin_43 (by decide) (fun g8 => ?_) (fun g8 => ?_)
    · refine wx_aload_n F 1 dE_begin_48 rfl rfl ?_
      refine wx_get (ci := 0) (C := qnE) (T := TE) (N := 17) (v := .ref (a 34)) F 0 (x_lt (by decide)) rfl rfl hiE 2 (by decide) rfl lfE_32 rfl dE_begin_49 ?_
      refine wx_aload_n F 1 dE_begin_52 rfl rfl ?_
      refine wx_get (ci := 0) (C := qnE) (T := TE) (N := 17) (v := .ref (a 1)) F 0 (x_lt (by decide)) rfl rfl hiE 1 (by decide) rfl lfE_25 rfl dE_begin_53 ?_
      refine wx_get (ci := 1) (C := qnG) (T := TG) (N := 9) (v := .ref (a 5)) F 1 (x_lt (by decide)) rfl rfl hiG 4 (by decide) rfl lfE_139 rfl dE_begin_56 ?_
      refine wx_iload_n F 0 dE_begin_59 rfl rfl ?_
      obtain ⟨j9, e10, b11, h12⟩ := (h4 r5 M6 p7).1 g8
      refine wx_iald (N := 24) F 5 (x_lt (by decide)) rfl 0 rfl e10 b11 (by omega) dE_begin_60 ?_
      obtain ⟨po13, c14, h15⟩ := h12
      refine wx_calli F 34 c14 (x_lt (by decide)) rfl rfl (cw_V F.1.2.2.2.2 lmE_142 cbP_areFree rfl rfl ⟨by rw [hR]; exact Nat.le_of_ble_eq_true rfl, by rw [hR]; exact Nat.le_of_ble_eq_true rfl⟩) rfl rfl (Nat.le_of_ble_eq_true rfl) dE_begin_61 (fun r16 M17 p18 => ?_)
      refine wx_if_eq (tgt := 75) F dE_begin_64 (by decide) (fun g19 => ?_) (fun g19 => ?_)
      · refine wx_aload_n F 1 dE_begin_75 rfl rfl ?_
        refine wx_iload_n F 0 dE_begin_76 rfl rfl ?_
        obtain ⟨po20, c21, h22⟩ := (h15 r16 M17 p18).1 g19
        refine wx_callv F 0 c21 (x_lt (by decide)) rfl rfl (cw_V F.1.2.2.2.2 lmE_148 cbE_park rfl rfl ⟨by rw [hR]; exact Nat.le_of_ble_eq_true rfl, by rw [hR]; exact Nat.le_of_ble_eq_true rfl⟩) rfl rfl (Nat.le_of_ble_eq_true rfl) dE_begin_77 (fun M24 p25 => ?_)
        refine wx_iinc (lv' := [(2, .int (x2 + 1)), (3, .int r5), (0, .ref (a 0)), (1, .int x1)]) F 3 dE_begin_80 rfl (ii1 _) (by decide) rfl ?_
        refine wx_goto (tgt := 29) F dE_begin_83 (by decide) ?_
        exact wx_lv [2, 3, 0] rfl (hK29 _ _ _ (h22 M24 p25))
      · refine wx_aload_n F 1 dE_begin_67 rfl rfl ?_
        refine wx_iload_n F 0 dE_begin_68 rfl rfl ?_
        refine wx_iload_n F 2 dE_begin_69 rfl rfl ?_
        obtain ⟨po26, c27, h28⟩ := (h15 r16 M17 p18).2 g19
        refine wx_callv F 0 c27 (x_lt (by decide)) rfl rfl (cw_V F.1.2.2.2.2 lmE_145 cbE_run rfl rfl ⟨by rw [hR]; exact Nat.le_of_ble_eq_true rfl, by rw [hR]; exact Nat.le_of_ble_eq_true rfl⟩) rfl rfl (Nat.le_of_ble_eq_true rfl) dE_begin_70 (fun M30 p31 => ?_)
        refine wx_iload_n F 0 dE_begin_73 rfl rfl ?_
        exact wx_iret F dE_begin_74 (h28 M30 p31)
    · refine wx_iconst (v := (-1)) F dE_begin_46 (by decide) ?_
      exact wx_iret F dE_begin_47 ((h4 r5 M6 p7).2 g8)
theorem oE_begin {l : Launch} {D : va_G} {cI cZ cL cE : ClassId} {a : Nat → Nat} {w : Nat} {post : Int32 → MM → Prop} (hJ : IJ (sX D cI cZ cL cE a w)) {M : MM} {x1 : Int32} (h : ∀ G : CX, gl G = l → gR G = rmE_begin → FX G (sX D cI cZ cL cE a w) cE_begin 4 qnE (some .int) → wx G (sX D cI cZ cL cE a w) 4 (Qxi G (sX D cI cZ cL cE a w) post) M 0 [(0, .ref (a 0)), (1, .int x1)] []) : Ci l (sX D cI cZ cL cE a w) yE_begin wE_begin rmE_begin [.ref (a 0), .int x1] M post := Ci.of (cc := cE_begin) (nL := 4) rfl rfl (Nat.le_of_ble_eq_true rfl) hJ h
set_option maxRecDepth 20000 in
theorem sE_finish_0 {G : CX} {D : va_G} {cI cZ cL cE : ClassId} {a : Nat → Nat} {w : Nat} {post : Int32 → MM → Prop} (F : FX G (sX D cI cZ cL cE a w) cE_finish 5 qnE (some .int)) (hw : w ≤ 4) (hR : gR G = rmE_finish) {K50 : MM → Int32 → Int32 → Int32 → Prop} (hK50 : ∀ (M : MM) (x1 x2 x3 : Int32), K50 M x1 x2 x3 → wx G (sX D cI cZ cL cE a w) 5 (Qxi G (sX D cI cZ cL cE a w) post) M 50 [(0, .ref (a 0)), (1, .int x1), (2, .int x2), (3, .int x3)] []) {M : MM} {x1 x2 : Int32} (h : ∃ po1 : Int32 → MM → Prop, Ci (gl G) (sX D cI cZ cL cE a w) yE_isWorker wE_isWorker rmE_isWorker [.ref (a 0), .int x1] M po1 ∧ ∀ (r4 : Int32) (M5 : MM), po1 r4 M5 → ((r4 = 0 → (post (-1) M5)) ∧ (¬ r4 = 0 → (∃ j8 : Nat, x1 = nI j8 ∧ j8 < w ∧ ((¬ (M5 37 j8) = (-1) → (∃ po13 : Int32 → MM → Prop, Ci (gl G) (sX D cI cZ cL cE a w) yE_leaveBody wE_leaveBody rmE_leaveBody [.ref (a 0), .int x1] M5 po13 ∧ ∀ (r16 : Int32) (M17 : MM), po13 r16 M17 → ((¬ (M17 0 11) = 0 → (K50 M17 x1 x2 r16)) ∧ ((M17 0 11) = 0 → (∃ po20 : Int32 → MM → Prop, Ci (gl G) (sX D cI cZ cL cE a w) yG_canHoldChildren wG_canHoldChildren rmG_canHoldChildren [.ref (a 1), .int r16] M17 po20 ∧ ∀ (r23 : Int32) (M24 : MM), po20 r23 M24 → ((r23 = 0 → (K50 M24 x1 x2 r16)) ∧ (¬ r23 = 0 → (∃ po27 : MM → Prop, Cv (gl G) (sX D cI cZ cL cE a w) yE_spawn wE_spawn rmE_spawn [.ref (a 0), .int r16, .int x1] M24 po27 ∧ ∀ (M31 : MM), po27 M31 → (K50 M31 x1 x2 r16))))))))) ∧ ((M5 37 j8) = (-1) → (post (-1) M5))))))) : wx G (sX D cI cZ cL cE a w) 5 (Qxi G (sX D cI cZ cL cE a w) post) M 0 [(0, .ref (a 0)), (1, .int x1), (2, .int x2)] [] := by
  refine wx_aload_n F 0 dE_finish_0 rfl rfl ?_
  refine wx_iload_n F 1 dE_finish_1 rfl rfl ?_
  obtain ⟨po1, c2, h3⟩ := h
  refine wx_calli F 0 c2 (x_lt (by decide)) rfl rfl (cw_V F.1.2.2.2.2 lmE_132 cbE_isWorker rfl rfl ⟨by rw [hR]; exact Nat.le_of_ble_eq_true rfl, by rw [hR]; exact Nat.le_of_ble_eq_true rfl⟩) rfl rfl (Nat.le_of_ble_eq_true rfl) dE_finish_2 (fun r4 M5 p6 => ?_)
  refine wx_if_eq (tgt := 18) F dE_finish_5 (by decide) (fun g7 => ?_) (fun g7 => ?_)
  · refine wx_iconst (v := (-1)) F dE_finish_18 (by decide) ?_
    exact wx_iret F dE_finish_19 ((h3 r4 M5 p6).1 g7)
  · refine wx_aload_n F 0 dE_finish_8 rfl rfl ?_
    refine wx_get (ci := 0) (C := qnE) (T := TE) (N := 17) (v := .ref (a 37)) F 0 (x_lt (by decide)) rfl rfl hiE 5 (by decide) rfl lfE_47 rfl dE_finish_9 ?_
    refine wx_iload_n F 1 dE_finish_12 rfl rfl ?_
    obtain ⟨j8, e9, b10, h11⟩ := (h3 r4 M5 p6).2 g7
    refine wx_iald (N := w) F 37 (x_lt (by decide)) rfl 0 rfl e9 b10 (by omega) dE_finish_13 ?_
    refine wx_iconst (v := (-1)) F dE_finish_14 (by decide) ?_
    refine wx_icmp_ne (tgt := 20) F dE_finish_15 (by decide) (fun g12 => ?_) (fun g12 => ?_)
    · refine wx_aload_n F 0 dE_finish_20 rfl rfl ?_
      refine wx_iload_n F 1 dE_finish_21 rfl rfl ?_
      obtain ⟨po13, c14, h15⟩ := (h11).1 g12
      refine wx_calli F 0 c14 (x_lt (by decide)) rfl rfl (cw_V F.1.2.2.2.2 lmE_152 cbE_leaveBody rfl rfl ⟨by rw [hR]; exact Nat.le_of_ble_eq_true rfl, by rw [hR]; exact Nat.le_of_ble_eq_true rfl⟩) rfl rfl (Nat.le_of_ble_eq_true rfl) dE_finish_22 (fun r16 M17 p18 => ?_)
      refine wx_istore_n (lv' := [(3, .int r16), (0, .ref (a 0)), (1, .int x1), (2, .int x2)]) F dE_finish_25 rfl (by decide) rfl ?_
      refine wx_aload_n F 1 dE_finish_26 rfl rfl ?_
      refine wx_get (ci := 0) (C := qnE) (T := TE) (N := 17) (v := .int (M17 0 11)) F 0 (x_lt (by decide)) rfl rfl hiE 11 (by decide) rfl lfE_114 rfl dE_finish_27 ?_
      refine wx_if_ne (tgt := 50) F dE_finish_30 (by decide) (fun g19 => ?_) (fun g19 => ?_)
      · exact wx_lv [1, 2, 3, 0] rfl (hK50 _ _ _ _ ((h15 r16 M17 p18).1 g19))
      · refine wx_aload_n F 1 dE_finish_33 rfl rfl ?_
        refine wx_get (ci := 0) (C := qnE) (T := TE) (N := 17) (v := .ref (a 1)) F 0 (x_lt (by decide)) rfl rfl hiE 1 (by decide) rfl lfE_25 rfl dE_finish_34 ?_
        refine wx_iload_n F 0 dE_finish_37 rfl rfl ?_
        obtain ⟨po20, c21, h22⟩ := (h15 r16 M17 p18).2 g19
        refine wx_calli F 1 c21 (x_lt (by decide)) rfl rfl (cw_V F.1.2.2.2.2 lmE_155 cbG_canHoldChildren rfl rfl ⟨by rw [hR]; exact Nat.le_of_ble_eq_true rfl, by rw [hR]; exact Nat.le_of_ble_eq_true rfl⟩) rfl rfl (Nat.le_of_ble_eq_true rfl) dE_finish_38 (fun r23 M24 p25 => ?_)
        refine wx_if_eq (tgt := 50) F dE_finish_41 (by decide) (fun g26 => ?_) (fun g26 => ?_)
        · exact wx_lv [1, 2, 3, 0] rfl (hK50 _ _ _ _ ((h22 r23 M24 p25).1 g26))
        · refine wx_aload_n F 1 dE_finish_44 rfl rfl ?_
          refine wx_iload_n F 0 dE_finish_45 rfl rfl ?_
          refine wx_iload_n F 2 dE_finish_46 rfl rfl ?_
          obtain ⟨po27, c28, h29⟩ := (h22 r23 M24 p25).2 g26
          refine wx_callv F 0 c28 (x_lt (by decide)) rfl rfl (cw_V F.1.2.2.2.2 lmE_158 cbE_spawn rfl rfl ⟨by rw [hR]; exact Nat.le_of_ble_eq_true rfl, by rw [hR]; exact Nat.le_of_ble_eq_true rfl⟩) rfl rfl (Nat.le_of_ble_eq_true rfl) dE_finish_47 (fun M31 p32 => ?_)
          exact wx_lv [1, 2, 3, 0] rfl (hK50 _ _ _ _ (h29 M31 p32))
    · refine wx_iconst (v := (-1)) F dE_finish_18 (by decide) ?_
      exact wx_iret F dE_finish_19 ((h11).2 g12)
set_option maxRecDepth 20000 in
theorem sE_finish_50 {G : CX} {D : va_G} {cI cZ cL cE : ClassId} {a : Nat → Nat} {w : Nat} {post : Int32 → MM → Prop} (F : FX G (sX D cI cZ cL cE a w) cE_finish 5 qnE (some .int)) (hw : w ≤ 4) (hR : gR G = rmE_finish) {K80 : MM → Int32 → Int32 → Int32 → Prop} (hK80 : ∀ (M : MM) (x1 x2 x3 : Int32), K80 M x1 x2 x3 → wx G (sX D cI cZ cL cE a w) 5 (Qxi G (sX D cI cZ cL cE a w) post) M 80 [(0, .ref (a 0)), (1, .int x1), (2, .int x2), (3, .int x3)] []) {M : MM} {x1 x2 x3 : Int32} (h : ∃ j1 : Nat, x3 = nI j1 ∧ j1 < 24 ∧ ((¬ (M 2 j1) = 2 → (K80 M x1 x2 x3)) ∧ ((M 2 j1) = 2 → (∃ po6 : Int32 → MM → Prop, Ci (gl G) (sX D cI cZ cL cE a w) yE_hasActiveChild wE_hasActiveChild rmE_hasActiveChild [.ref (a 0), .int x3] M po6 ∧ ∀ (r9 : Int32) (M10 : MM), po6 r9 M10 → ((r9 = 0 → (K80 M10 x1 x2 x3)) ∧ (¬ r9 = 0 → (∀ M13 : MM, M13 = mp M10 38 j1 2 → (post 0 M13)))))))) : wx G (sX D cI cZ cL cE a w) 5 (Qxi G (sX D cI cZ cL cE a w) post) M 50 [(0, .ref (a 0)), (1, .int x1), (2, .int x2), (3, .int x3)] [] := by
  refine wx_aload_n F 0 dE_finish_50 rfl rfl ?_
  refine wx_get (ci := 0) (C := qnE) (T := TE) (N := 17) (v := .ref (a 1)) F 0 (x_lt (by decide)) rfl rfl hiE 1 (by decide) rfl lfE_25 rfl dE_finish_51 ?_
  refine wx_get (ci := 1) (C := qnG) (T := TG) (N := 9) (v := .ref (a 2)) F 1 (x_lt (by decide)) rfl rfl hiG 1 (by decide) rfl lfE_161 rfl dE_finish_54 ?_
  refine wx_iload_n F 3 dE_finish_57 rfl rfl ?_
  obtain ⟨j1, e2, b3, h4⟩ := h
  refine wx_iald (N := 24) F 2 (x_lt (by decide)) rfl 0 rfl e2 b3 (by omega) dE_finish_58 ?_
  refine wx_iconst (v := 2) F dE_finish_59 (by decide) ?_
  refine wx_icmp_ne (tgt := 80) F dE_finish_60 (by decide) (fun g5 => ?_) (fun g5 => ?_)
  · exact wx_lv [0, 1, 2, 3] rfl (hK80 _ _ _ _ ((h4).1 g5))
  · refine wx_aload_n F 0 dE_finish_63 rfl rfl ?_
    refine wx_iload_n F 3 dE_finish_64 rfl rfl ?_
    obtain ⟨po6, c7, h8⟩ := (h4).2 g5
    refine wx_calli F 0 c7 (x_lt (by decide)) rfl rfl (cw_V F.1.2.2.2.2 lmE_164 cbE_hasActiveChild rfl rfl ⟨by rw [hR]; exact Nat.le_of_ble_eq_true rfl, by rw [hR]; exact Nat.le_of_ble_eq_true rfl⟩) rfl rfl (Nat.le_of_ble_eq_true rfl) dE_finish_65 (fun r9 M10 p11 => ?_)
    refine wx_if_eq (tgt := 80) F dE_finish_68 (by decide) (fun g12 => ?_) (fun g12 => ?_)
    · exact wx_lv [0, 1, 2, 3] rfl (hK80 _ _ _ _ ((h8 r9 M10 p11).1 g12))
    · refine wx_aload_n F 0 dE_finish_71 rfl rfl ?_
      refine wx_get (ci := 0) (C := qnE) (T := TE) (N := 17) (v := .ref (a 38)) F 0 (x_lt (by decide)) rfl rfl hiE 6 (by decide) rfl lfE_57 rfl dE_finish_72 ?_
      refine wx_iload_n F 3 dE_finish_75 rfl rfl ?_
      refine wx_iconst (v := 2) F dE_finish_76 (by decide) ?_
      refine wx_iast (N := 24) F 38 (x_lt (by decide)) (fun _ => rfl) 0 rfl e2 b3 (by omega) dE_finish_77 (wx_nm (fun M13 e14 => ?_))
      refine wx_iconst (v := 0) F dE_finish_78 (by decide) ?_
      exact wx_iret F dE_finish_79 (((h8 r9 M10 p11).2 g12) M13 e14)
set_option maxRecDepth 20000 in
theorem sE_finish_80 {G : CX} {D : va_G} {cI cZ cL cE : ClassId} {a : Nat → Nat} {w : Nat} {post : Int32 → MM → Prop} (F : FX G (sX D cI cZ cL cE a w) cE_finish 5 qnE (some .int)) (hw : w ≤ 4) (hR : gR G = rmE_finish) {M : MM} {x1 x2 x3 : Int32} (h : ∃ po1 : Int32 → MM → Prop, Ci (gl G) (sX D cI cZ cL cE a w) yE_endUpwards wE_endUpwards rmE_endUpwards [.ref (a 0), .int x3, .int 0, .int x2, .int x1] M po1 ∧ ∀ (r4 : Int32) (M5 : MM), po1 r4 M5 → (∃ po7 : MM → Prop, Cv (gl G) (sX D cI cZ cL cE a w) yE_closeRound wE_closeRound rmE_closeRound [.ref (a 0)] M5 po7 ∧ ∀ (M11 : MM), po7 M11 → (post r4 M11))) : wx G (sX D cI cZ cL cE a w) 5 (Qxi G (sX D cI cZ cL cE a w) post) M 80 [(0, .ref (a 0)), (1, .int x1), (2, .int x2), (3, .int x3)] [] := by
  refine wx_aload_n F 0 dE_finish_80 rfl rfl ?_
  refine wx_iload_n F 3 dE_finish_81 rfl rfl ?_
  refine wx_iconst (v := 0) F dE_finish_82 (by decide) ?_
  refine wx_iload_n F 2 dE_finish_83 rfl rfl ?_
  refine wx_iload_n F 1 dE_finish_84 rfl rfl ?_
  obtain ⟨po1, c2, h3⟩ := h
  refine wx_calli F 0 c2 (x_lt (by decide)) rfl rfl (cw_V F.1.2.2.2.2 lmE_167 cbE_endUpwards rfl rfl ⟨by rw [hR]; exact Nat.le_of_ble_eq_true rfl, by rw [hR]; exact Nat.le_of_ble_eq_true rfl⟩) rfl rfl (Nat.le_of_ble_eq_true rfl) dE_finish_85 (fun r4 M5 p6 => ?_)
  refine wx_istore (lv' := [(4, .int r4), (0, .ref (a 0)), (1, .int x1), (2, .int x2), (3, .int x3)]) F dE_finish_88 (by decide) rfl ?_
  refine wx_aload_n F 1 dE_finish_90 rfl rfl ?_
  obtain ⟨po7, c8, h9⟩ := h3 r4 M5 p6
  refine wx_callv F 0 c8 (x_lt (by decide)) rfl rfl (cw_V F.1.2.2.2.2 lmE_171 cbE_closeRound rfl rfl ⟨by rw [hR]; exact Nat.le_of_ble_eq_true rfl, by rw [hR]; exact Nat.le_of_ble_eq_true rfl⟩) rfl rfl (Nat.le_of_ble_eq_true rfl) dE_finish_91 (fun M11 p12 => ?_)
  refine wx_iload F 0 dE_finish_94 rfl ?_
  exact wx_iret F dE_finish_96 (h9 M11 p12)
theorem oE_finish {l : Launch} {D : va_G} {cI cZ cL cE : ClassId} {a : Nat → Nat} {w : Nat} {post : Int32 → MM → Prop} (hJ : IJ (sX D cI cZ cL cE a w)) {M : MM} {x1 x2 : Int32} (h : ∀ G : CX, gl G = l → gR G = rmE_finish → FX G (sX D cI cZ cL cE a w) cE_finish 5 qnE (some .int) → wx G (sX D cI cZ cL cE a w) 5 (Qxi G (sX D cI cZ cL cE a w) post) M 0 [(0, .ref (a 0)), (1, .int x1), (2, .int x2)] []) : Ci l (sX D cI cZ cL cE a w) yE_finish wE_finish rmE_finish [.ref (a 0), .int x1, .int x2] M post := Ci.of (cc := cE_finish) (nL := 5) rfl rfl (Nat.le_of_ble_eq_true rfl) hJ h
set_option maxRecDepth 20000 in
theorem sE_fail_0 {G : CX} {D : va_G} {cI cZ cL cE : ClassId} {a : Nat → Nat} {w : Nat} {post : Int32 → MM → Prop} (F : FX G (sX D cI cZ cL cE a w) cE_fail 4 qnE (some .int)) (hw : w ≤ 4) (hR : gR G = rmE_fail) {M : MM} {x1 : Int32} (h : ∃ po1 : Int32 → MM → Prop, Ci (gl G) (sX D cI cZ cL cE a w) yE_isWorker wE_isWorker rmE_isWorker [.ref (a 0), .int x1] M po1 ∧ ∀ (r4 : Int32) (M5 : MM), po1 r4 M5 → ((r4 = 0 → (post (-1) M5)) ∧ (¬ r4 = 0 → (∃ j8 : Nat, x1 = nI j8 ∧ j8 < w ∧ ((¬ (M5 37 j8) = (-1) → (∃ po13 : Int32 → MM → Prop, Ci (gl G) (sX D cI cZ cL cE a w) yE_leaveBody wE_leaveBody rmE_leaveBody [.ref (a 0), .int x1] M5 po13 ∧ ∀ (r16 : Int32) (M17 : MM), po13 r16 M17 → ((¬ (M17 0 12) = (-1) → (∃ po20 : Int32 → MM → Prop, Ci (gl G) (sX D cI cZ cL cE a w) yE_endUpwards wE_endUpwards rmE_endUpwards [.ref (a 0), .int r16, .int 1, .int (-1), .int x1] M17 po20 ∧ ∀ (r23 : Int32) (M24 : MM), po20 r23 M24 → (∃ po26 : MM → Prop, Cv (gl G) (sX D cI cZ cL cE a w) yE_closeRound wE_closeRound rmE_closeRound [.ref (a 0)] M24 po26 ∧ ∀ (M30 : MM), po26 M30 → (post r23 M30)))) ∧ ((M17 0 12) = (-1) → (∀ M32 : MM, M32 = mp M17 0 12 r16 → (∃ po34 : Int32 → MM → Prop, Ci (gl G) (sX D cI cZ cL cE a w) yE_endUpwards wE_endUpwards rmE_endUpwards [.ref (a 0), .int r16, .int 1, .int (-1), .int x1] M32 po34 ∧ ∀ (r37 : Int32) (M38 : MM), po34 r37 M38 → (∃ po40 : MM → Prop, Cv (gl G) (sX D cI cZ cL cE a w) yE_closeRound wE_closeRound rmE_closeRound [.ref (a 0)] M38 po40 ∧ ∀ (M44 : MM), po40 M44 → (post r37 M44)))))))) ∧ ((M5 37 j8) = (-1) → (post (-1) M5))))))) : wx G (sX D cI cZ cL cE a w) 4 (Qxi G (sX D cI cZ cL cE a w) post) M 0 [(0, .ref (a 0)), (1, .int x1)] [] := by
  refine wx_aload_n F 0 dE_fail_0 rfl rfl ?_
  refine wx_iload_n F 1 dE_fail_1 rfl rfl ?_
  obtain ⟨po1, c2, h3⟩ := h
  refine wx_calli F 0 c2 (x_lt (by decide)) rfl rfl (cw_V F.1.2.2.2.2 lmE_132 cbE_isWorker rfl rfl ⟨by rw [hR]; exact Nat.le_of_ble_eq_true rfl, by rw [hR]; exact Nat.le_of_ble_eq_true rfl⟩) rfl rfl (Nat.le_of_ble_eq_true rfl) dE_fail_2 (fun r4 M5 p6 => ?_)
  refine wx_if_eq (tgt := 18) F dE_fail_5 (by decide) (fun g7 => ?_) (fun g7 => ?_)
  · refine wx_iconst (v := (-1)) F dE_fail_18 (by decide) ?_
    exact wx_iret F dE_fail_19 ((h3 r4 M5 p6).1 g7)
  · refine wx_aload_n F 0 dE_fail_8 rfl rfl ?_
    refine wx_get (ci := 0) (C := qnE) (T := TE) (N := 17) (v := .ref (a 37)) F 0 (x_lt (by decide)) rfl rfl hiE 5 (by decide) rfl lfE_47 rfl dE_fail_9 ?_
    refine wx_iload_n F 1 dE_fail_12 rfl rfl ?_
    obtain ⟨j8, e9, b10, h11⟩ := (h3 r4 M5 p6).2 g7
    refine wx_iald (N := w) F 37 (x_lt (by decide)) rfl 0 rfl e9 b10 (by omega) dE_fail_13 ?_
    refine wx_iconst (v := (-1)) F dE_fail_14 (by decide) ?_
    refine wx_icmp_ne (tgt := 20) F dE_fail_15 (by decide) (fun g12 => ?_) (fun g12 => ?_)
    · refine wx_aload_n F 0 dE_fail_20 rfl rfl ?_
      refine wx_iload_n F 1 dE_fail_21 rfl rfl ?_
      obtain ⟨po13, c14, h15⟩ := (h11).1 g12
      refine wx_calli F 0 c14 (x_lt (by decide)) rfl rfl (cw_V F.1.2.2.2.2 lmE_152 cbE_leaveBody rfl rfl ⟨by rw [hR]; exact Nat.le_of_ble_eq_true rfl, by rw [hR]; exact Nat.le_of_ble_eq_true rfl⟩) rfl rfl (Nat.le_of_ble_eq_true rfl) dE_fail_22 (fun r16 M17 p18 => ?_)
      refine wx_istore_n (lv' := [(2, .int r16), (0, .ref (a 0)), (1, .int x1)]) F dE_fail_25 rfl (by decide) rfl ?_
      refine wx_aload_n F 1 dE_fail_26 rfl rfl ?_
      refine wx_get (ci := 0) (C := qnE) (T := TE) (N := 17) (v := .int (M17 0 12)) F 0 (x_lt (by decide)) rfl rfl hiE 12 (by decide) rfl lfE_70 rfl dE_fail_27 ?_
      refine wx_iconst (v := (-1)) F dE_fail_30 (by decide) ?_
      refine wx_icmp_ne (tgt := 39) F dE_fail_31 (by decide) (fun g19 => ?_) (fun g19 => ?_)
      · refine wx_aload_n F 1 dE_fail_39 rfl rfl ?_
        refine wx_iload_n F 0 dE_fail_40 rfl rfl ?_
        refine wx_iconst (v := 1) F dE_fail_41 (by decide) ?_
        refine wx_iconst (v := (-1)) F dE_fail_42 (by decide) ?_
        refine wx_iload_n F 2 dE_fail_43 rfl rfl ?_
        obtain ⟨po20, c21, h22⟩ := (h15 r16 M17 p18).1 g19
        refine wx_calli F 0 c21 (x_lt (by decide)) rfl rfl (cw_V F.1.2.2.2.2 lmE_167 cbE_endUpwards rfl rfl ⟨by rw [hR]; exact Nat.le_of_ble_eq_true rfl, by rw [hR]; exact Nat.le_of_ble_eq_true rfl⟩) rfl rfl (Nat.le_of_ble_eq_true rfl) dE_fail_44 (fun r23 M24 p25 => ?_)
        refine wx_istore_n (lv' := [(3, .int r23), (2, .int r16), (0, .ref (a 0)), (1, .int x1)]) F dE_fail_47 rfl (by decide) rfl ?_
        refine wx_aload_n F 2 dE_fail_48 rfl rfl ?_
        obtain ⟨po26, c27, h28⟩ := h22 r23 M24 p25
        refine wx_callv F 0 c27 (x_lt (by decide)) rfl rfl (cw_V F.1.2.2.2.2 lmE_171 cbE_closeRound rfl rfl ⟨by rw [hR]; exact Nat.le_of_ble_eq_true rfl, by rw [hR]; exact Nat.le_of_ble_eq_true rfl⟩) rfl rfl (Nat.le_of_ble_eq_true rfl) dE_fail_49 (fun M30 p31 => ?_)
        refine wx_iload_n F 0 dE_fail_52 rfl rfl ?_
        exact wx_iret F dE_fail_53 (h28 M30 p31)
      · refine wx_aload_n F 1 dE_fail_34 rfl rfl ?_
        refine wx_iload_n F 0 dE_fail_35 rfl rfl ?_
        refine wx_put (ci := 0) (C := qnE) (T := TE) (N := 17) (ty := .int) F 0 (x_lt (by decide)) rfl rfl hiE tyE tyE_ok nmE 12 (by decide) rfl lfE_70 rfl (by decide +kernel) rfl rfl (Nat.le_of_ble_eq_true rfl) rfl dE_fail_36 (wx_nm (fun M32 e33 => ?_))
        refine wx_aload_n F 1 dE_fail_39 rfl rfl ?_
        refine wx_iload_n F 0 dE_fail_40 rfl rfl ?_
        refine wx_iconst (v := 1) F dE_fail_41 (by decide) ?_
        refine wx_iconst (v := (-1)) F dE_fail_42 (by decide) ?_
        refine wx_iload_n F 2 dE_fail_43 rfl rfl ?_
        obtain ⟨po34, c35, h36⟩ := ((h15 r16 M17 p18).2 g19) M32 e33
        refine wx_calli F 0 c35 (x_lt (by decide)) rfl rfl (cw_V F.1.2.2.2.2 lmE_167 cbE_endUpwards rfl rfl ⟨by rw [hR]; exact Nat.le_of_ble_eq_true rfl, by rw [hR]; exact Nat.le_of_ble_eq_true rfl⟩) rfl rfl (Nat.le_of_ble_eq_true rfl) dE_fail_44 (fun r37 M38 p39 => ?_)
        refine wx_istore_n (lv' := [(3, .int r37), (2, .int r16), (0, .ref (a 0)), (1, .int x1)]) F dE_fail_47 rfl (by decide) rfl ?_
        refine wx_aload_n F 2 dE_fail_48 rfl rfl ?_
        obtain ⟨po40, c41, h42⟩ := h36 r37 M38 p39
        refine wx_callv F 0 c41 (x_lt (by decide)) rfl rfl (cw_V F.1.2.2.2.2 lmE_171 cbE_closeRound rfl rfl ⟨by rw [hR]; exact Nat.le_of_ble_eq_true rfl, by rw [hR]; exact Nat.le_of_ble_eq_true rfl⟩) rfl rfl (Nat.le_of_ble_eq_true rfl) dE_fail_49 (fun M44 p45 => ?_)
        refine wx_iload_n F 0 dE_fail_52 rfl rfl ?_
        exact wx_iret F dE_fail_53 (h42 M44 p45)
    · refine wx_iconst (v := (-1)) F dE_fail_18 (by decide) ?_
      exact wx_iret F dE_fail_19 ((h11).2 g12)
theorem oE_fail {l : Launch} {D : va_G} {cI cZ cL cE : ClassId} {a : Nat → Nat} {w : Nat} {post : Int32 → MM → Prop} (hJ : IJ (sX D cI cZ cL cE a w)) (hw : w ≤ 4) {M : MM} {x1 : Int32} (h : ∃ po1 : Int32 → MM → Prop, Ci l (sX D cI cZ cL cE a w) yE_isWorker wE_isWorker rmE_isWorker [.ref (a 0), .int x1] M po1 ∧ ∀ (r4 : Int32) (M5 : MM), po1 r4 M5 → ((r4 = 0 → (post (-1) M5)) ∧ (¬ r4 = 0 → (∃ j8 : Nat, x1 = nI j8 ∧ j8 < w ∧ ((¬ (M5 37 j8) = (-1) → (∃ po13 : Int32 → MM → Prop, Ci l (sX D cI cZ cL cE a w) yE_leaveBody wE_leaveBody rmE_leaveBody [.ref (a 0), .int x1] M5 po13 ∧ ∀ (r16 : Int32) (M17 : MM), po13 r16 M17 → ((¬ (M17 0 12) = (-1) → (∃ po20 : Int32 → MM → Prop, Ci l (sX D cI cZ cL cE a w) yE_endUpwards wE_endUpwards rmE_endUpwards [.ref (a 0), .int r16, .int 1, .int (-1), .int x1] M17 po20 ∧ ∀ (r23 : Int32) (M24 : MM), po20 r23 M24 → (∃ po26 : MM → Prop, Cv l (sX D cI cZ cL cE a w) yE_closeRound wE_closeRound rmE_closeRound [.ref (a 0)] M24 po26 ∧ ∀ (M30 : MM), po26 M30 → (post r23 M30)))) ∧ ((M17 0 12) = (-1) → (∀ M32 : MM, M32 = mp M17 0 12 r16 → (∃ po34 : Int32 → MM → Prop, Ci l (sX D cI cZ cL cE a w) yE_endUpwards wE_endUpwards rmE_endUpwards [.ref (a 0), .int r16, .int 1, .int (-1), .int x1] M32 po34 ∧ ∀ (r37 : Int32) (M38 : MM), po34 r37 M38 → (∃ po40 : MM → Prop, Cv l (sX D cI cZ cL cE a w) yE_closeRound wE_closeRound rmE_closeRound [.ref (a 0)] M38 po40 ∧ ∀ (M44 : MM), po40 M44 → (post r37 M44)))))))) ∧ ((M5 37 j8) = (-1) → (post (-1) M5))))))) : Ci l (sX D cI cZ cL cE a w) yE_fail wE_fail rmE_fail [.ref (a 0), .int x1] M post := Ci.of (cc := cE_fail) (nL := 4) rfl rfl (Nat.le_of_ble_eq_true rfl) hJ (fun G hl hR F => by subst hl; exact sE_fail_0 F hw hR h)
set_option maxRecDepth 20000 in
theorem sE_cancel_0 {G : CX} {D : va_G} {cI cZ cL cE : ClassId} {a : Nat → Nat} {w : Nat} {post : Int32 → MM → Prop} (F : FX G (sX D cI cZ cL cE a w) cE_cancel 2 qnE (some .int)) (hw : w ≤ 4) (hR : gR G = rmE_cancel) {M : MM} (h : ((M 0 10) = 0 → (post (-1) M)) ∧ (¬ (M 0 10) = 0 → (((M 0 11) = 0 → (∀ M3 : MM, M3 = mp M 0 11 1 → (∃ po5 : Int32 → MM → Prop, Ci (gl G) (sX D cI cZ cL cE a w) yE_dropReadyAndParked wE_dropReadyAndParked rmE_dropReadyAndParked [.ref (a 0)] M3 po5 ∧ ∀ (r8 : Int32) (M9 : MM), po5 r8 M9 → (∃ po11 : MM → Prop, Cv (gl G) (sX D cI cZ cL cE a w) yE_endChildlessWaiting wE_endChildlessWaiting rmE_endChildlessWaiting [.ref (a 0)] M9 po11 ∧ ∀ (M15 : MM), po11 M15 → (∃ po17 : MM → Prop, Cv (gl G) (sX D cI cZ cL cE a w) yE_closeRound wE_closeRound rmE_closeRound [.ref (a 0)] M15 po17 ∧ ∀ (M21 : MM), po17 M21 → (post r8 M21)))))) ∧ (¬ (M 0 11) = 0 → (post (-1) M))))) : wx G (sX D cI cZ cL cE a w) 2 (Qxi G (sX D cI cZ cL cE a w) post) M 0 [(0, .ref (a 0))] [] := by
  refine wx_aload_n F 0 dE_cancel_0 rfl rfl ?_
  refine wx_get (ci := 0) (C := qnE) (T := TE) (N := 17) (v := .int (M 0 10)) F 0 (x_lt (by decide)) rfl rfl hiE 10 (by decide) rfl lfE_73 rfl dE_cancel_1 ?_
  refine wx_if_eq (tgt := 14) F dE_cancel_4 (by decide) (fun g1 => ?_) (fun g1 => ?_)
  · refine wx_iconst (v := (-1)) F dE_cancel_14 (by decide) ?_
    exact wx_iret F dE_cancel_15 ((h).1 g1)
  · refine wx_aload_n F 0 dE_cancel_7 rfl rfl ?_
    refine wx_get (ci := 0) (C := qnE) (T := TE) (N := 17) (v := .int (M 0 11)) F 0 (x_lt (by decide)) rfl rfl hiE 11 (by decide) rfl lfE_114 rfl dE_cancel_8 ?_
    refine wx_if_eq (tgt := 16) F dE_cancel_11 (by decide) (fun g2 => ?_) (fun g2 => ?_)
    · refine wx_aload_n F 0 dE_cancel_16 rfl rfl ?_
      refine wx_iconst (v := 1) F dE_cancel_17 (by decide) ?_
      refine wx_put (ci := 0) (C := qnE) (T := TE) (N := 17) (ty := .boolean) F 0 (x_lt (by decide)) rfl rfl hiE tyE tyE_ok nmE 11 (by decide) rfl lfE_114 rfl (by decide +kernel) rfl rfl (Nat.le_of_ble_eq_true rfl) rfl dE_cancel_18 (wx_nm (fun M3 e4 => ?_))
      refine wx_aload_n F 0 dE_cancel_21 rfl rfl ?_
      obtain ⟨po5, c6, h7⟩ := (((h).2 g1).1 g2) M3 e4
      refine wx_calli F 0 c6 (x_lt (by decide)) rfl rfl (cw_V F.1.2.2.2.2 lmE_174 cbE_dropReadyAndParked rfl rfl ⟨by rw [hR]; exact Nat.le_of_ble_eq_true rfl, by rw [hR]; exact Nat.le_of_ble_eq_true rfl⟩) rfl rfl (Nat.le_of_ble_eq_true rfl) dE_cancel_22 (fun r8 M9 p10 => ?_)
      refine wx_istore_n (lv' := [(1, .int r8), (0, .ref (a 0))]) F dE_cancel_25 rfl (by decide) rfl ?_
      refine wx_aload_n F 1 dE_cancel_26 rfl rfl ?_
      obtain ⟨po11, c12, h13⟩ := h7 r8 M9 p10
      refine wx_callv F 0 c12 (x_lt (by decide)) rfl rfl (cw_V F.1.2.2.2.2 lmE_177 cbE_endChildlessWaiting rfl rfl ⟨by rw [hR]; exact Nat.le_of_ble_eq_true rfl, by rw [hR]; exact Nat.le_of_ble_eq_true rfl⟩) rfl rfl (Nat.le_of_ble_eq_true rfl) dE_cancel_27 (fun M15 p16 => ?_)
      refine wx_aload_n F 1 dE_cancel_30 rfl rfl ?_
      obtain ⟨po17, c18, h19⟩ := h13 M15 p16
      refine wx_callv F 0 c18 (x_lt (by decide)) rfl rfl (cw_V F.1.2.2.2.2 lmE_171 cbE_closeRound rfl rfl ⟨by rw [hR]; exact Nat.le_of_ble_eq_true rfl, by rw [hR]; exact Nat.le_of_ble_eq_true rfl⟩) rfl rfl (Nat.le_of_ble_eq_true rfl) dE_cancel_31 (fun M21 p22 => ?_)
      refine wx_iload_n F 0 dE_cancel_34 rfl rfl ?_
      exact wx_iret F dE_cancel_35 (h19 M21 p22)
    · refine wx_iconst (v := (-1)) F dE_cancel_14 (by decide) ?_
      exact wx_iret F dE_cancel_15 (((h).2 g1).2 g2)
theorem oE_cancel {l : Launch} {D : va_G} {cI cZ cL cE : ClassId} {a : Nat → Nat} {w : Nat} {post : Int32 → MM → Prop} (hJ : IJ (sX D cI cZ cL cE a w)) (hw : w ≤ 4) {M : MM} (h : ((M 0 10) = 0 → (post (-1) M)) ∧ (¬ (M 0 10) = 0 → (((M 0 11) = 0 → (∀ M3 : MM, M3 = mp M 0 11 1 → (∃ po5 : Int32 → MM → Prop, Ci l (sX D cI cZ cL cE a w) yE_dropReadyAndParked wE_dropReadyAndParked rmE_dropReadyAndParked [.ref (a 0)] M3 po5 ∧ ∀ (r8 : Int32) (M9 : MM), po5 r8 M9 → (∃ po11 : MM → Prop, Cv l (sX D cI cZ cL cE a w) yE_endChildlessWaiting wE_endChildlessWaiting rmE_endChildlessWaiting [.ref (a 0)] M9 po11 ∧ ∀ (M15 : MM), po11 M15 → (∃ po17 : MM → Prop, Cv l (sX D cI cZ cL cE a w) yE_closeRound wE_closeRound rmE_closeRound [.ref (a 0)] M15 po17 ∧ ∀ (M21 : MM), po17 M21 → (post r8 M21)))))) ∧ (¬ (M 0 11) = 0 → (post (-1) M))))) : Ci l (sX D cI cZ cL cE a w) yE_cancel wE_cancel rmE_cancel [.ref (a 0)] M post := Ci.of (cc := cE_cancel) (nL := 2) rfl rfl (Nat.le_of_ble_eq_true rfl) hJ (fun G hl hR F => by subst hl; exact sE_cancel_0 F hw hR h)
set_option maxRecDepth 20000 in
theorem sE_state_0 {G : CX} {D : va_G} {cI cZ cL cE : ClassId} {a : Nat → Nat} {w : Nat} {post : Int32 → MM → Prop} (F : FX G (sX D cI cZ cL cE a w) cE_state 1 qnE (some .int)) (hw : w ≤ 4) (hR : gR G = rmE_state) {M : MM} (h : (¬ (M 0 14) = 0 → (((M 0 10) = 0 → (((M 0 11) = 0 → (((M 0 12) = (-1) → (post 3 M)) ∧ (¬ (M 0 12) = (-1) → (post 4 M)))) ∧ (¬ (M 0 11) = 0 → (post 5 M)))) ∧ (¬ (M 0 10) = 0 → (((M 0 11) = 0 → (post 1 M)) ∧ (¬ (M 0 11) = 0 → (post 2 M)))))) ∧ ((M 0 14) = 0 → (post 0 M))) : wx G (sX D cI cZ cL cE a w) 1 (Qxi G (sX D cI cZ cL cE a w) post) M 0 [(0, .ref (a 0))] [] := by
  refine wx_aload_n F 0 dE_state_0 rfl rfl ?_
  refine wx_get (ci := 0) (C := qnE) (T := TE) (N := 17) (v := .int (M 0 14)) F 0 (x_lt (by decide)) rfl rfl hiE 14 (by decide) rfl lfE_120 rfl dE_state_1 ?_
  refine wx_if_ne (tgt := 9) F dE_state_4 (by decide) (fun g1 => ?_) (fun g1 => ?_)
  · refine wx_aload_n F 0 dE_state_9 rfl rfl ?_
    refine wx_get (ci := 0) (C := qnE) (T := TE) (N := 17) (v := .int (M 0 10)) F 0 (x_lt (by decide)) rfl rfl hiE 10 (by decide) rfl lfE_73 rfl dE_state_10 ?_
    refine wx_if_eq (tgt := 29) F dE_state_13 (by decide) (fun g2 => ?_) (fun g2 => ?_)
    · refine wx_aload_n F 0 dE_state_29 rfl rfl ?_
      refine wx_get (ci := 0) (C := qnE) (T := TE) (N := 17) (v := .int (M 0 11)) F 0 (x_lt (by decide)) rfl rfl hiE 11 (by decide) rfl lfE_114 rfl dE_state_30 ?_
      refine wx_if_eq (tgt := 38) F dE_state_33 (by decide) (fun g3 => ?_) (fun g3 => ?_)
      · refine wx_aload_n F 0 dE_state_38 rfl rfl ?_
        refine wx_get (ci := 0) (C := qnE) (T := TE) (N := 17) (v := .int (M 0 12)) F 0 (x_lt (by decide)) rfl rfl hiE 12 (by decide) rfl lfE_70 rfl dE_state_39 ?_
        refine wx_iconst (v := (-1)) F dE_state_42 (by decide) ?_
        refine wx_icmp_eq (tgt := 50) F dE_state_43 (by decide) (fun g4 => ?_) (fun g4 => ?_)
        · refine wx_iconst (v := 3) F dE_state_50 (by decide) ?_
          exact wx_iret F dE_state_51 (((((h).1 g1).1 g2).1 g3).1 g4)
        · refine wx_iconst (v := 4) F dE_state_46 (by decide) ?_
          refine wx_goto (tgt := 51) F dE_state_47 (by decide) ?_
          exact wx_iret F dE_state_51 (((((h).1 g1).1 g2).1 g3).2 g4)
      · refine wx_iconst (v := 5) F dE_state_36 (by decide) ?_
        exact wx_iret F dE_state_37 ((((h).1 g1).1 g2).2 g3)
    · refine wx_aload_n F 0 dE_state_16 rfl rfl ?_
      refine wx_get (ci := 0) (C := qnE) (T := TE) (N := 17) (v := .int (M 0 11)) F 0 (x_lt (by decide)) rfl rfl hiE 11 (by decide) rfl lfE_114 rfl dE_state_17 ?_
      refine wx_if_eq (tgt := 27) F dE_state_20 (by decide) (fun g5 => ?_) (fun g5 => ?_)
      · refine wx_iconst (v := 1) F dE_state_27 (by decide) ?_
        exact wx_iret F dE_state_28 ((((h).1 g1).2 g2).1 g5)
      · refine wx_iconst (v := 2) F dE_state_23 (by decide) ?_
        refine wx_goto (tgt := 28) F dE_state_24 (by decide) ?_
        exact wx_iret F dE_state_28 ((((h).1 g1).2 g2).2 g5)
  · refine wx_iconst (v := 0) F dE_state_7 (by decide) ?_
    exact wx_iret F dE_state_8 ((h).2 g1)
theorem oE_state {l : Launch} {D : va_G} {cI cZ cL cE : ClassId} {a : Nat → Nat} {w : Nat} {post : Int32 → MM → Prop} (hJ : IJ (sX D cI cZ cL cE a w)) (hw : w ≤ 4) {M : MM} (h : (¬ (M 0 14) = 0 → (((M 0 10) = 0 → (((M 0 11) = 0 → (((M 0 12) = (-1) → (post 3 M)) ∧ (¬ (M 0 12) = (-1) → (post 4 M)))) ∧ (¬ (M 0 11) = 0 → (post 5 M)))) ∧ (¬ (M 0 10) = 0 → (((M 0 11) = 0 → (post 1 M)) ∧ (¬ (M 0 11) = 0 → (post 2 M)))))) ∧ ((M 0 14) = 0 → (post 0 M))) : Ci l (sX D cI cZ cL cE a w) yE_state wE_state rmE_state [.ref (a 0)] M post := Ci.of (cc := cE_state) (nL := 1) rfl rfl (Nat.le_of_ble_eq_true rfl) hJ (fun G hl hR F => by subst hl; exact sE_state_0 F hw hR h)
set_option maxRecDepth 20000 in
theorem sE_thrower_0 {G : CX} {D : va_G} {cI cZ cL cE : ClassId} {a : Nat → Nat} {w : Nat} {post : Int32 → MM → Prop} (F : FX G (sX D cI cZ cL cE a w) cE_thrower 1 qnE (some .int)) (hw : w ≤ 4) (hR : gR G = rmE_thrower) {M : MM} (h : post (M 0 12) M) : wx G (sX D cI cZ cL cE a w) 1 (Qxi G (sX D cI cZ cL cE a w) post) M 0 [(0, .ref (a 0))] [] := by
  refine wx_aload_n F 0 dE_thrower_0 rfl rfl ?_
  refine wx_get (ci := 0) (C := qnE) (T := TE) (N := 17) (v := .int (M 0 12)) F 0 (x_lt (by decide)) rfl rfl hiE 12 (by decide) rfl lfE_70 rfl dE_thrower_1 ?_
  exact wx_iret F dE_thrower_4 (h)
theorem oE_thrower {l : Launch} {D : va_G} {cI cZ cL cE : ClassId} {a : Nat → Nat} {w : Nat} {post : Int32 → MM → Prop} (hJ : IJ (sX D cI cZ cL cE a w)) (hw : w ≤ 4) {M : MM} (h : post (M 0 12) M) : Ci l (sX D cI cZ cL cE a w) yE_thrower wE_thrower rmE_thrower [.ref (a 0)] M post := Ci.of (cc := cE_thrower) (nL := 1) rfl rfl (Nat.le_of_ble_eq_true rfl) hJ (fun G hl hR F => by subst hl; exact sE_thrower_0 F hw hR h)
set_option maxRecDepth 20000 in
theorem sE_round_0 {G : CX} {D : va_G} {cI cZ cL cE : ClassId} {a : Nat → Nat} {w : Nat} {post : Int32 → MM → Prop} (F : FX G (sX D cI cZ cL cE a w) cE_round 1 qnE (some .int)) (hw : w ≤ 4) (hR : gR G = rmE_round) {M : MM} (h : post (M 0 14) M) : wx G (sX D cI cZ cL cE a w) 1 (Qxi G (sX D cI cZ cL cE a w) post) M 0 [(0, .ref (a 0))] [] := by
  refine wx_aload_n F 0 dE_round_0 rfl rfl ?_
  refine wx_get (ci := 0) (C := qnE) (T := TE) (N := 17) (v := .int (M 0 14)) F 0 (x_lt (by decide)) rfl rfl hiE 14 (by decide) rfl lfE_120 rfl dE_round_1 ?_
  exact wx_iret F dE_round_4 (h)
theorem oE_round {l : Launch} {D : va_G} {cI cZ cL cE : ClassId} {a : Nat → Nat} {w : Nat} {post : Int32 → MM → Prop} (hJ : IJ (sX D cI cZ cL cE a w)) (hw : w ≤ 4) {M : MM} (h : post (M 0 14) M) : Ci l (sX D cI cZ cL cE a w) yE_round wE_round rmE_round [.ref (a 0)] M post := Ci.of (cc := cE_round) (nL := 1) rfl rfl (Nat.le_of_ble_eq_true rfl) hJ (fun G hl hR F => by subst hl; exact sE_round_0 F hw hR h)
set_option maxRecDepth 20000 in
theorem sE_lost_0 {G : CX} {D : va_G} {cI cZ cL cE : ClassId} {a : Nat → Nat} {w : Nat} {post : Int32 → MM → Prop} (F : FX G (sX D cI cZ cL cE a w) cE_lost 1 qnE (some .int)) (hw : w ≤ 4) (hR : gR G = rmE_lost) {M : MM} (h : post (M 0 15) M) : wx G (sX D cI cZ cL cE a w) 1 (Qxi G (sX D cI cZ cL cE a w) post) M 0 [(0, .ref (a 0))] [] := by
  refine wx_aload_n F 0 dE_lost_0 rfl rfl ?_
  refine wx_get (ci := 0) (C := qnE) (T := TE) (N := 17) (v := .int (M 0 15)) F 0 (x_lt (by decide)) rfl rfl hiE 15 (by decide) rfl lfE_123 rfl dE_lost_1 ?_
  exact wx_iret F dE_lost_4 (h)
theorem oE_lost {l : Launch} {D : va_G} {cI cZ cL cE : ClassId} {a : Nat → Nat} {w : Nat} {post : Int32 → MM → Prop} (hJ : IJ (sX D cI cZ cL cE a w)) (hw : w ≤ 4) {M : MM} (h : post (M 0 15) M) : Ci l (sX D cI cZ cL cE a w) yE_lost wE_lost rmE_lost [.ref (a 0)] M post := Ci.of (cc := cE_lost) (nL := 1) rfl rfl (Nat.le_of_ble_eq_true rfl) hJ (fun G hl hR F => by subst hl; exact sE_lost_0 F hw hR h)
set_option maxRecDepth 20000 in
theorem sE_steals_0 {G : CX} {D : va_G} {cI cZ cL cE : ClassId} {a : Nat → Nat} {w : Nat} {post : Int32 → MM → Prop} (F : FX G (sX D cI cZ cL cE a w) cE_steals 1 qnE (some .int)) (hw : w ≤ 4) (hR : gR G = rmE_steals) {M : MM} (h : post (M 0 16) M) : wx G (sX D cI cZ cL cE a w) 1 (Qxi G (sX D cI cZ cL cE a w) post) M 0 [(0, .ref (a 0))] [] := by
  refine wx_aload_n F 0 dE_steals_0 rfl rfl ?_
  refine wx_get (ci := 0) (C := qnE) (T := TE) (N := 17) (v := .int (M 0 16)) F 0 (x_lt (by decide)) rfl rfl hiE 16 (by decide) rfl lfE_126 rfl dE_steals_1 ?_
  exact wx_iret F dE_steals_4 (h)
theorem oE_steals {l : Launch} {D : va_G} {cI cZ cL cE : ClassId} {a : Nat → Nat} {w : Nat} {post : Int32 → MM → Prop} (hJ : IJ (sX D cI cZ cL cE a w)) (hw : w ≤ 4) {M : MM} (h : post (M 0 16) M) : Ci l (sX D cI cZ cL cE a w) yE_steals wE_steals rmE_steals [.ref (a 0)] M post := Ci.of (cc := cE_steals) (nL := 1) rfl rfl (Nat.le_of_ble_eq_true rfl) hJ (fun G hl hR F => by subst hl; exact sE_steals_0 F hw hR h)
set_option maxRecDepth 20000 in
theorem sE_runs_0 {G : CX} {D : va_G} {cI cZ cL cE : ClassId} {a : Nat → Nat} {w : Nat} {post : Int32 → MM → Prop} (F : FX G (sX D cI cZ cL cE a w) cE_runs 2 qnE (some .int)) (hw : w ≤ 4) (hR : gR G = rmE_runs) {M : MM} {x1 : Int32} (h : ∃ po1 : Int32 → MM → Prop, Ci (gl G) (sX D cI cZ cL cE a w) yG_isTask wG_isTask rmG_isTask [.ref (a 1), .int x1] M po1 ∧ ∀ (r4 : Int32) (M5 : MM), po1 r4 M5 → ((r4 = 0 → (post 0 M5)) ∧ (¬ r4 = 0 → (∃ j8 : Nat, x1 = nI j8 ∧ j8 < 24 ∧ (post (M5 40 j8) M5))))) : wx G (sX D cI cZ cL cE a w) 2 (Qxi G (sX D cI cZ cL cE a w) post) M 0 [(0, .ref (a 0)), (1, .int x1)] [] := by
  refine wx_aload_n F 0 dE_runs_0 rfl rfl ?_
  refine wx_get (ci := 0) (C := qnE) (T := TE) (N := 17) (v := .ref (a 1)) F 0 (x_lt (by decide)) rfl rfl hiE 1 (by decide) rfl lfE_25 rfl dE_runs_1 ?_
  refine wx_iload_n F 1 dE_runs_4 rfl rfl ?_
  obtain ⟨po1, c2, h3⟩ := h
  refine wx_calli F 1 c2 (x_lt (by decide)) rfl rfl (cw_V F.1.2.2.2.2 lmE_180 cbG_isTask rfl rfl ⟨by rw [hR]; exact Nat.le_of_ble_eq_true rfl, by rw [hR]; exact Nat.le_of_ble_eq_true rfl⟩) rfl rfl (Nat.le_of_ble_eq_true rfl) dE_runs_5 (fun r4 M5 p6 => ?_)
  refine wx_if_eq (tgt := 20) F dE_runs_8 (by decide) (fun g7 => ?_) (fun g7 => ?_)
  · refine wx_iconst (v := 0) F dE_runs_20 (by decide) ?_
    exact wx_iret F dE_runs_21 ((h3 r4 M5 p6).1 g7)
  · refine wx_aload_n F 0 dE_runs_11 rfl rfl ?_
    refine wx_get (ci := 0) (C := qnE) (T := TE) (N := 17) (v := .ref (a 40)) F 0 (x_lt (by decide)) rfl rfl hiE 8 (by decide) rfl lfE_63 rfl dE_runs_12 ?_
    refine wx_iload_n F 1 dE_runs_15 rfl rfl ?_
    obtain ⟨j8, e9, b10, h11⟩ := (h3 r4 M5 p6).2 g7
    refine wx_iald (N := 24) F 40 (x_lt (by decide)) rfl 0 rfl e9 b10 (by omega) dE_runs_16 ?_
    refine wx_goto (tgt := 21) F dE_runs_17 (by decide) ?_
    exact wx_iret F dE_runs_21 (h11)
theorem oE_runs {l : Launch} {D : va_G} {cI cZ cL cE : ClassId} {a : Nat → Nat} {w : Nat} {post : Int32 → MM → Prop} (hJ : IJ (sX D cI cZ cL cE a w)) (hw : w ≤ 4) {M : MM} {x1 : Int32} (h : ∃ po1 : Int32 → MM → Prop, Ci l (sX D cI cZ cL cE a w) yG_isTask wG_isTask rmG_isTask [.ref (a 1), .int x1] M po1 ∧ ∀ (r4 : Int32) (M5 : MM), po1 r4 M5 → ((r4 = 0 → (post 0 M5)) ∧ (¬ r4 = 0 → (∃ j8 : Nat, x1 = nI j8 ∧ j8 < 24 ∧ (post (M5 40 j8) M5))))) : Ci l (sX D cI cZ cL cE a w) yE_runs wE_runs rmE_runs [.ref (a 0), .int x1] M post := Ci.of (cc := cE_runs) (nL := 2) rfl rfl (Nat.le_of_ble_eq_true rfl) hJ (fun G hl hR F => by subst hl; exact sE_runs_0 F hw hR h)
set_option maxRecDepth 20000 in
theorem sE_arrivals_0 {G : CX} {D : va_G} {cI cZ cL cE : ClassId} {a : Nat → Nat} {w : Nat} {post : Int32 → MM → Prop} (F : FX G (sX D cI cZ cL cE a w) cE_arrivals 2 qnE (some .int)) (hw : w ≤ 4) (hR : gR G = rmE_arrivals) {M : MM} {x1 : Int32} (h : ((M 0 10) = 0 → (post 0 M)) ∧ (¬ (M 0 10) = 0 → (∃ po2 : Int32 → MM → Prop, Ci (gl G) (sX D cI cZ cL cE a w) yG_isTask wG_isTask rmG_isTask [.ref (a 1), .int x1] M po2 ∧ ∀ (r5 : Int32) (M6 : MM), po2 r5 M6 → ((r5 = 0 → (post 0 M6)) ∧ (¬ r5 = 0 → (∃ j9 : Nat, x1 = nI j9 ∧ j9 < 24 ∧ (post (M6 39 j9) M6))))))) : wx G (sX D cI cZ cL cE a w) 2 (Qxi G (sX D cI cZ cL cE a w) post) M 0 [(0, .ref (a 0)), (1, .int x1)] [] := by
  refine wx_aload_n F 0 dE_arrivals_0 rfl rfl ?_
  refine wx_get (ci := 0) (C := qnE) (T := TE) (N := 17) (v := .int (M 0 10)) F 0 (x_lt (by decide)) rfl rfl hiE 10 (by decide) rfl lfE_73 rfl dE_arrivals_1 ?_
  refine wx_if_eq (tgt := 27) F dE_arrivals_4 (by decide) (fun g1 => ?_) (fun g1 => ?_)
  · refine wx_iconst (v := 0) F dE_arrivals_27 (by decide) ?_
    exact wx_iret F dE_arrivals_28 ((h).1 g1)
  · refine wx_aload_n F 0 dE_arrivals_7 rfl rfl ?_
    refine wx_get (ci := 0) (C := qnE) (T := TE) (N := 17) (v := .ref (a 1)) F 0 (x_lt (by decide)) rfl rfl hiE 1 (by decide) rfl lfE_25 rfl dE_arrivals_8 ?_
    refine wx_iload_n F 1 dE_arrivals_11 rfl rfl ?_
    obtain ⟨po2, c3, h4⟩ := (h).2 g1
    refine wx_calli F 1 c3 (x_lt (by decide)) rfl rfl (cw_V F.1.2.2.2.2 lmE_180 cbG_isTask rfl rfl ⟨by rw [hR]; exact Nat.le_of_ble_eq_true rfl, by rw [hR]; exact Nat.le_of_ble_eq_true rfl⟩) rfl rfl (Nat.le_of_ble_eq_true rfl) dE_arrivals_12 (fun r5 M6 p7 => ?_)
    refine wx_if_eq (tgt := 27) F dE_arrivals_15 (by decide) (fun g8 => ?_) (fun g8 => ?_)
    · refine wx_iconst (v := 0) F dE_arrivals_27 (by decide) ?_
      exact wx_iret F dE_arrivals_28 ((h4 r5 M6 p7).1 g8)
    · refine wx_aload_n F 0 dE_arrivals_18 rfl rfl ?_
      refine wx_get (ci := 0) (C := qnE) (T := TE) (N := 17) (v := .ref (a 39)) F 0 (x_lt (by decide)) rfl rfl hiE 7 (by decide) rfl lfE_60 rfl dE_arrivals_19 ?_
      refine wx_iload_n F 1 dE_arrivals_22 rfl rfl ?_
      obtain ⟨j9, e10, b11, h12⟩ := (h4 r5 M6 p7).2 g8
      refine wx_iald (N := 24) F 39 (x_lt (by decide)) rfl 0 rfl e10 b11 (by omega) dE_arrivals_23 ?_
      refine wx_goto (tgt := 28) F dE_arrivals_24 (by decide) ?_
      exact wx_iret F dE_arrivals_28 (h12)
theorem oE_arrivals {l : Launch} {D : va_G} {cI cZ cL cE : ClassId} {a : Nat → Nat} {w : Nat} {post : Int32 → MM → Prop} (hJ : IJ (sX D cI cZ cL cE a w)) (hw : w ≤ 4) {M : MM} {x1 : Int32} (h : ((M 0 10) = 0 → (post 0 M)) ∧ (¬ (M 0 10) = 0 → (∃ po2 : Int32 → MM → Prop, Ci l (sX D cI cZ cL cE a w) yG_isTask wG_isTask rmG_isTask [.ref (a 1), .int x1] M po2 ∧ ∀ (r5 : Int32) (M6 : MM), po2 r5 M6 → ((r5 = 0 → (post 0 M6)) ∧ (¬ r5 = 0 → (∃ j9 : Nat, x1 = nI j9 ∧ j9 < 24 ∧ (post (M6 39 j9) M6))))))) : Ci l (sX D cI cZ cL cE a w) yE_arrivals wE_arrivals rmE_arrivals [.ref (a 0), .int x1] M post := Ci.of (cc := cE_arrivals) (nL := 2) rfl rfl (Nat.le_of_ble_eq_true rfl) hJ (fun G hl hR F => by subst hl; exact sE_arrivals_0 F hw hR h)
set_option maxRecDepth 20000 in
theorem sE_where_0 {G : CX} {D : va_G} {cI cZ cL cE : ClassId} {a : Nat → Nat} {w : Nat} {post : Int32 → MM → Prop} (F : FX G (sX D cI cZ cL cE a w) cE_where 2 qnE (some .int)) (hw : w ≤ 4) (hR : gR G = rmE_where) {M : MM} {x1 : Int32} (h : ∃ po1 : Int32 → MM → Prop, Ci (gl G) (sX D cI cZ cL cE a w) yG_isTask wG_isTask rmG_isTask [.ref (a 1), .int x1] M po1 ∧ ∀ (r4 : Int32) (M5 : MM), po1 r4 M5 → ((r4 = 0 → (post (-1) M5)) ∧ (¬ r4 = 0 → (∃ j8 : Nat, x1 = nI j8 ∧ j8 < 24 ∧ (post (M5 38 j8) M5))))) : wx G (sX D cI cZ cL cE a w) 2 (Qxi G (sX D cI cZ cL cE a w) post) M 0 [(0, .ref (a 0)), (1, .int x1)] [] := by
  refine wx_aload_n F 0 dE_where_0 rfl rfl ?_
  refine wx_get (ci := 0) (C := qnE) (T := TE) (N := 17) (v := .ref (a 1)) F 0 (x_lt (by decide)) rfl rfl hiE 1 (by decide) rfl lfE_25 rfl dE_where_1 ?_
  refine wx_iload_n F 1 dE_where_4 rfl rfl ?_
  obtain ⟨po1, c2, h3⟩ := h
  refine wx_calli F 1 c2 (x_lt (by decide)) rfl rfl (cw_V F.1.2.2.2.2 lmE_180 cbG_isTask rfl rfl ⟨by rw [hR]; exact Nat.le_of_ble_eq_true rfl, by rw [hR]; exact Nat.le_of_ble_eq_true rfl⟩) rfl rfl (Nat.le_of_ble_eq_true rfl) dE_where_5 (fun r4 M5 p6 => ?_)
  refine wx_if_eq (tgt := 20) F dE_where_8 (by decide) (fun g7 => ?_) (fun g7 => ?_)
  · refine wx_iconst (v := (-1)) F dE_where_20 (by decide) ?_
    exact wx_iret F dE_where_21 ((h3 r4 M5 p6).1 g7)
  · refine wx_aload_n F 0 dE_where_11 rfl rfl ?_
    refine wx_get (ci := 0) (C := qnE) (T := TE) (N := 17) (v := .ref (a 38)) F 0 (x_lt (by decide)) rfl rfl hiE 6 (by decide) rfl lfE_57 rfl dE_where_12 ?_
    refine wx_iload_n F 1 dE_where_15 rfl rfl ?_
    obtain ⟨j8, e9, b10, h11⟩ := (h3 r4 M5 p6).2 g7
    refine wx_iald (N := 24) F 38 (x_lt (by decide)) rfl 0 rfl e9 b10 (by omega) dE_where_16 ?_
    refine wx_goto (tgt := 21) F dE_where_17 (by decide) ?_
    exact wx_iret F dE_where_21 (h11)
theorem oE_where {l : Launch} {D : va_G} {cI cZ cL cE : ClassId} {a : Nat → Nat} {w : Nat} {post : Int32 → MM → Prop} (hJ : IJ (sX D cI cZ cL cE a w)) (hw : w ≤ 4) {M : MM} {x1 : Int32} (h : ∃ po1 : Int32 → MM → Prop, Ci l (sX D cI cZ cL cE a w) yG_isTask wG_isTask rmG_isTask [.ref (a 1), .int x1] M po1 ∧ ∀ (r4 : Int32) (M5 : MM), po1 r4 M5 → ((r4 = 0 → (post (-1) M5)) ∧ (¬ r4 = 0 → (∃ j8 : Nat, x1 = nI j8 ∧ j8 < 24 ∧ (post (M5 38 j8) M5))))) : Ci l (sX D cI cZ cL cE a w) yE_where wE_where rmE_where [.ref (a 0), .int x1] M post := Ci.of (cc := cE_where) (nL := 2) rfl rfl (Nat.le_of_ble_eq_true rfl) hJ (fun G hl hR F => by subst hl; exact sE_where_0 F hw hR h)
set_option maxRecDepth 20000 in
theorem sE_lineAt_0 {G : CX} {D : va_G} {cI cZ cL cE : ClassId} {a : Nat → Nat} {w : Nat} {post : Int32 → MM → Prop} (F : FX G (sX D cI cZ cL cE a w) cE_lineAt 3 qnE (some .int)) (hw : w ≤ 4) (hR : gR G = rmE_lineAt) {M : MM} {x1 x2 : Int32} (h : (x1 < 0 → (post (-1) M)) ∧ (¬ x1 < 0 → ((x1 ≤ (M 0 0) → (∃ j3 : Nat, x1 = nI j3 ∧ j3 < (w + 1) ∧ (∃ po7 : Int32 → MM → Prop, Ci (gl G) (sX D cI cZ cL cE a w) yL_taskAt wL_taskAt rmL_taskAt [.ref (a (43 + 2 * (j3 + 1))), .int x2] M po7 ∧ ∀ (r10 : Int32) (M11 : MM), po7 r10 M11 → (post r10 M11)))) ∧ (¬ x1 ≤ (M 0 0) → (post (-1) M))))) : wx G (sX D cI cZ cL cE a w) 3 (Qxi G (sX D cI cZ cL cE a w) post) M 0 [(0, .ref (a 0)), (1, .int x1), (2, .int x2)] [] := by
  refine wx_iload_n F 1 dE_lineAt_0 rfl rfl ?_
  refine wx_if_lt (tgt := 12) F dE_lineAt_1 (by decide) (fun g1 => ?_) (fun g1 => ?_)
  · refine wx_iconst (v := (-1)) F dE_lineAt_12 (by decide) ?_
    refine wx_goto (tgt := 26) F dE_lineAt_13 (by decide) ?_
    exact wx_iret F dE_lineAt_26 ((h).1 g1)
  · refine wx_iload_n F 1 dE_lineAt_4 rfl rfl ?_
    refine wx_aload_n F 0 dE_lineAt_5 rfl rfl ?_
    refine wx_get (ci := 0) (C := qnE) (T := TE) (N := 17) (v := .int (M 0 0)) F 0 (x_lt (by decide)) rfl rfl hiE 0 (by decide) rfl lfE_18 rfl dE_lineAt_6 ?_
    refine wx_icmp_le (tgt := 16) F dE_lineAt_9 (by decide) (fun g2 => ?_) (fun g2 => ?_)
    · refine wx_aload_n F 0 dE_lineAt_16 rfl rfl ?_
      refine wx_get (ci := 0) (C := qnE) (T := TE) (N := 17) (v := .ref (a 42)) F 0 (x_lt (by decide)) rfl rfl hiE 3 (by decide) rfl lfE_38 rfl dE_lineAt_17 ?_
      refine wx_iload_n F 1 dE_lineAt_20 rfl rfl ?_
      obtain ⟨j3, e4, b5, h6⟩ := ((h).2 g1).1 g2
      refine xL_aald F hw e4 b5 dE_lineAt_21 ?_
      refine wx_iload_n F 2 dE_lineAt_22 rfl rfl ?_
      obtain ⟨po7, c8, h9⟩ := h6
      refine wx_calli F (43 + 2 * (j3 + 1)) c8 (x_ltL (i := (j3 + 1)) (by omega)) (x_cL (j3 + 1) _) rfl (cw_V F.1.2.2.2.2 lmE_183 cbL_taskAt rfl rfl ⟨by rw [hR]; exact Nat.le_of_ble_eq_true rfl, by rw [hR]; exact Nat.le_of_ble_eq_true rfl⟩) rfl rfl (Nat.le_of_ble_eq_true rfl) dE_lineAt_23 (fun r10 M11 p12 => ?_)
      exact wx_iret F dE_lineAt_26 (h9 r10 M11 p12)
    · refine wx_iconst (v := (-1)) F dE_lineAt_12 (by decide) ?_
      refine wx_goto (tgt := 26) F dE_lineAt_13 (by decide) ?_
      exact wx_iret F dE_lineAt_26 (((h).2 g1).2 g2)
theorem oE_lineAt {l : Launch} {D : va_G} {cI cZ cL cE : ClassId} {a : Nat → Nat} {w : Nat} {post : Int32 → MM → Prop} (hJ : IJ (sX D cI cZ cL cE a w)) (hw : w ≤ 4) {M : MM} {x1 x2 : Int32} (h : (x1 < 0 → (post (-1) M)) ∧ (¬ x1 < 0 → ((x1 ≤ (M 0 0) → (∃ j3 : Nat, x1 = nI j3 ∧ j3 < (w + 1) ∧ (∃ po7 : Int32 → MM → Prop, Ci l (sX D cI cZ cL cE a w) yL_taskAt wL_taskAt rmL_taskAt [.ref (a (43 + 2 * (j3 + 1))), .int x2] M po7 ∧ ∀ (r10 : Int32) (M11 : MM), po7 r10 M11 → (post r10 M11)))) ∧ (¬ x1 ≤ (M 0 0) → (post (-1) M))))) : Ci l (sX D cI cZ cL cE a w) yE_lineAt wE_lineAt rmE_lineAt [.ref (a 0), .int x1, .int x2] M post := Ci.of (cc := cE_lineAt) (nL := 3) rfl rfl (Nat.le_of_ble_eq_true rfl) hJ (fun G hl hR F => by subst hl; exact sE_lineAt_0 F hw hR h)
set_option maxRecDepth 20000 in
theorem sE_held_0 {G : CX} {D : va_G} {cI cZ cL cE : ClassId} {a : Nat → Nat} {w : Nat} {post : Int32 → MM → Prop} (F : FX G (sX D cI cZ cL cE a w) cE_held 2 qnE (some .int)) (hw : w ≤ 4) (hR : gR G = rmE_held) {M : MM} {x1 : Int32} (h : ∃ po1 : Int32 → MM → Prop, Ci (gl G) (sX D cI cZ cL cE a w) yE_isSemaphore wE_isSemaphore rmE_isSemaphore [.int x1] M po1 ∧ ∀ (r4 : Int32) (M5 : MM), po1 r4 M5 → ((r4 = 0 → (post 0 M5)) ∧ (¬ r4 = 0 → (∃ j8 : Nat, x1 = nI j8 ∧ j8 < 4 ∧ (post (M5 36 j8) M5))))) : wx G (sX D cI cZ cL cE a w) 2 (Qxi G (sX D cI cZ cL cE a w) post) M 0 [(0, .ref (a 0)), (1, .int x1)] [] := by
  refine wx_iload_n F 1 dE_held_0 rfl rfl ?_
  obtain ⟨po1, c2, h3⟩ := h
  refine wx_callsi F c2 (cw_S F.1.2.2.2.2 lmE_93 cbE_isSemaphore rfl rfl ⟨by rw [hR]; exact Nat.le_of_ble_eq_true rfl, by rw [hR]; exact Nat.le_of_ble_eq_true rfl⟩) rfl rfl (Nat.le_of_ble_eq_true rfl) dE_held_1 (fun r4 M5 p6 => ?_)
  refine wx_if_eq (tgt := 19) F dE_held_4 (by decide) (fun g7 => ?_) (fun g7 => ?_)
  · refine wx_iconst (v := 0) F dE_held_19 (by decide) ?_
    exact wx_iret F dE_held_20 ((h3 r4 M5 p6).1 g7)
  · refine wx_aload_n F 0 dE_held_7 rfl rfl ?_
    refine wx_get (ci := 0) (C := qnE) (T := TE) (N := 17) (v := .ref (a 34)) F 0 (x_lt (by decide)) rfl rfl hiE 2 (by decide) rfl lfE_32 rfl dE_held_8 ?_
    refine wx_get (ci := 3) (C := qnP) (T := TP) (N := 2) (v := .ref (a 36)) F 34 (x_lt (by decide)) rfl rfl hiP 1 (by decide) rfl lfE_186 rfl dE_held_11 ?_
    refine wx_iload_n F 1 dE_held_14 rfl rfl ?_
    obtain ⟨j8, e9, b10, h11⟩ := (h3 r4 M5 p6).2 g7
    refine wx_iald (N := 4) F 36 (x_lt (by decide)) rfl 0 rfl e9 b10 (by omega) dE_held_15 ?_
    refine wx_goto (tgt := 20) F dE_held_16 (by decide) ?_
    exact wx_iret F dE_held_20 (h11)
theorem oE_held {l : Launch} {D : va_G} {cI cZ cL cE : ClassId} {a : Nat → Nat} {w : Nat} {post : Int32 → MM → Prop} (hJ : IJ (sX D cI cZ cL cE a w)) (hw : w ≤ 4) {M : MM} {x1 : Int32} (h : ∃ po1 : Int32 → MM → Prop, Ci l (sX D cI cZ cL cE a w) yE_isSemaphore wE_isSemaphore rmE_isSemaphore [.int x1] M po1 ∧ ∀ (r4 : Int32) (M5 : MM), po1 r4 M5 → ((r4 = 0 → (post 0 M5)) ∧ (¬ r4 = 0 → (∃ j8 : Nat, x1 = nI j8 ∧ j8 < 4 ∧ (post (M5 36 j8) M5))))) : Ci l (sX D cI cZ cL cE a w) yE_held wE_held rmE_held [.ref (a 0), .int x1] M post := Ci.of (cc := cE_held) (nL := 2) rfl rfl (Nat.le_of_ble_eq_true rfl) hJ (fun G hl hR F => by subst hl; exact sE_held_0 F hw hR h)
set_option maxRecDepth 20000 in
theorem sE_isWorker_0 {G : CX} {D : va_G} {cI cZ cL cE : ClassId} {a : Nat → Nat} {w : Nat} {post : Int32 → MM → Prop} (F : FX G (sX D cI cZ cL cE a w) cE_isWorker 2 qnE (some .boolean)) (hw : w ≤ 4) (hR : gR G = rmE_isWorker) {M : MM} {x1 : Int32} (h : (x1 < 0 → (post 0 M)) ∧ (¬ x1 < 0 → (((M 0 0) ≤ x1 → (post 0 M)) ∧ (¬ (M 0 0) ≤ x1 → (post 1 M))))) : wx G (sX D cI cZ cL cE a w) 2 (Qxi G (sX D cI cZ cL cE a w) post) M 0 [(0, .ref (a 0)), (1, .int x1)] [] := by
  refine wx_iload_n F 1 dE_isWorker_0 rfl rfl ?_
  refine wx_if_lt (tgt := 16) F dE_isWorker_1 (by decide) (fun g1 => ?_) (fun g1 => ?_)
  · refine wx_iconst (v := 0) F dE_isWorker_16 (by decide) ?_
    exact wx_zret F dE_isWorker_17 rfl ((h).1 g1)
  · refine wx_iload_n F 1 dE_isWorker_4 rfl rfl ?_
    refine wx_aload_n F 0 dE_isWorker_5 rfl rfl ?_
    refine wx_get (ci := 0) (C := qnE) (T := TE) (N := 17) (v := .int (M 0 0)) F 0 (x_lt (by decide)) rfl rfl hiE 0 (by decide) rfl lfE_18 rfl dE_isWorker_6 ?_
    refine wx_icmp_ge (tgt := 16) F dE_isWorker_9 (by decide) (fun g2 => ?_) (fun g2 => ?_)
    · refine wx_iconst (v := 0) F dE_isWorker_16 (by decide) ?_
      exact wx_zret F dE_isWorker_17 rfl (((h).2 g1).1 g2)
    · refine wx_iconst (v := 1) F dE_isWorker_12 (by decide) ?_
      refine wx_goto (tgt := 17) F dE_isWorker_13 (by decide) ?_
      exact wx_zret F dE_isWorker_17 rfl (((h).2 g1).2 g2)
theorem oE_isWorker {l : Launch} {D : va_G} {cI cZ cL cE : ClassId} {a : Nat → Nat} {w : Nat} {post : Int32 → MM → Prop} (hJ : IJ (sX D cI cZ cL cE a w)) (hw : w ≤ 4) {M : MM} {x1 : Int32} (h : (x1 < 0 → (post 0 M)) ∧ (¬ x1 < 0 → (((M 0 0) ≤ x1 → (post 0 M)) ∧ (¬ (M 0 0) ≤ x1 → (post 1 M))))) : Ci l (sX D cI cZ cL cE a w) yE_isWorker wE_isWorker rmE_isWorker [.ref (a 0), .int x1] M post := Ci.of (cc := cE_isWorker) (nL := 2) rfl rfl (Nat.le_of_ble_eq_true rfl) hJ (fun G hl hR F => by subst hl; exact sE_isWorker_0 F hw hR h)
set_option maxRecDepth 20000 in
theorem sE_isSemaphore_0 {G : CX} {D : va_G} {cI cZ cL cE : ClassId} {a : Nat → Nat} {w : Nat} {post : Int32 → MM → Prop} (F : FX G (sX D cI cZ cL cE a w) cE_isSemaphore 1 qnE (some .boolean)) (hw : w ≤ 4) (hR : gR G = rmE_isSemaphore) {M : MM} {x0 : Int32} (h : (x0 < 0 → (post 0 M)) ∧ (¬ x0 < 0 → ((4 ≤ x0 → (post 0 M)) ∧ (¬ 4 ≤ x0 → (post 1 M))))) : wx G (sX D cI cZ cL cE a w) 1 (Qxi G (sX D cI cZ cL cE a w) post) M 0 [(0, .int x0)] [] := by
  refine wx_iload_n F 0 dE_isSemaphore_0 rfl rfl ?_
  refine wx_if_lt (tgt := 13) F dE_isSemaphore_1 (by decide) (fun g1 => ?_) (fun g1 => ?_)
  · refine wx_iconst (v := 0) F dE_isSemaphore_13 (by decide) ?_
    exact wx_zret F dE_isSemaphore_14 rfl ((h).1 g1)
  · refine wx_iload_n F 0 dE_isSemaphore_4 rfl rfl ?_
    refine wx_iconst (v := 4) F dE_isSemaphore_5 (by decide) ?_
    refine wx_icmp_ge (tgt := 13) F dE_isSemaphore_6 (by decide) (fun g2 => ?_) (fun g2 => ?_)
    · refine wx_iconst (v := 0) F dE_isSemaphore_13 (by decide) ?_
      exact wx_zret F dE_isSemaphore_14 rfl (((h).2 g1).1 g2)
    · refine wx_iconst (v := 1) F dE_isSemaphore_9 (by decide) ?_
      refine wx_goto (tgt := 14) F dE_isSemaphore_10 (by decide) ?_
      exact wx_zret F dE_isSemaphore_14 rfl (((h).2 g1).2 g2)
theorem oE_isSemaphore {l : Launch} {D : va_G} {cI cZ cL cE : ClassId} {a : Nat → Nat} {w : Nat} {post : Int32 → MM → Prop} (hJ : IJ (sX D cI cZ cL cE a w)) (hw : w ≤ 4) {M : MM} {x0 : Int32} (h : (x0 < 0 → (post 0 M)) ∧ (¬ x0 < 0 → ((4 ≤ x0 → (post 0 M)) ∧ (¬ 4 ≤ x0 → (post 1 M))))) : Ci l (sX D cI cZ cL cE a w) yE_isSemaphore wE_isSemaphore rmE_isSemaphore [.int x0] M post := Ci.of (cc := cE_isSemaphore) (nL := 1) rfl rfl (Nat.le_of_ble_eq_true rfl) hJ (fun G hl hR F => by subst hl; exact sE_isSemaphore_0 F hw hR h)
set_option maxRecDepth 20000 in
theorem sE_beginRound_0 {G : CX} {D : va_G} {cI cZ cL cE : ClassId} {a : Nat → Nat} {w : Nat} {post : MM → Prop} (F : FX G (sX D cI cZ cL cE a w) cE_beginRound 1 qnE none) (hw : w ≤ 4) (hR : gR G = rmE_beginRound) {M : MM} (h : ∀ M1 : MM, M1 = mp M 0 14 ((M 0 14) + 1) → (∃ po3 : MM → Prop, Cv (gl G) (sX D cI cZ cL cE a w) yA_fill wA_fill rmA_fill [.ref (a 39), .int 0] M1 po3 ∧ ∀ (M7 : MM), po3 M7 → (∃ po9 : MM → Prop, Cv (gl G) (sX D cI cZ cL cE a w) yE_sendToSources wE_sendToSources rmE_sendToSources [.ref (a 0), .int (-1), .int (M7 0 0)] M7 po9 ∧ ∀ (M13 : MM), po9 M13 → (post M13)))) : wx G (sX D cI cZ cL cE a w) 1 (Qxv G (sX D cI cZ cL cE a w) post) M 0 [(0, .ref (a 0))] [] := by
  refine wx_aload_n F 0 dE_beginRound_0 rfl rfl ?_
  refine wx_dup F dE_beginRound_1 rfl ?_
  refine wx_get (ci := 0) (C := qnE) (T := TE) (N := 17) (v := .int (M 0 14)) F 0 (x_lt (by decide)) rfl rfl hiE 14 (by decide) rfl lfE_120 rfl dE_beginRound_2 ?_
  refine wx_iconst (v := 1) F dE_beginRound_5 (by decide) ?_
  refine wx_iadd F dE_beginRound_6 ?_
  refine wx_put (ci := 0) (C := qnE) (T := TE) (N := 17) (ty := .int) F 0 (x_lt (by decide)) rfl rfl hiE tyE tyE_ok nmE 14 (by decide) rfl lfE_120 rfl (by decide +kernel) rfl rfl (Nat.le_of_ble_eq_true rfl) rfl dE_beginRound_7 (wx_nm (fun M1 e2 => ?_))
  refine wx_aload_n F 0 dE_beginRound_10 rfl rfl ?_
  refine wx_get (ci := 0) (C := qnE) (T := TE) (N := 17) (v := .ref (a 39)) F 0 (x_lt (by decide)) rfl rfl hiE 7 (by decide) rfl lfE_60 rfl dE_beginRound_11 ?_
  refine wx_iconst (v := 0) F dE_beginRound_14 (by decide) ?_
  obtain ⟨po3, c4, h5⟩ := h M1 e2
  refine wx_callsv F c4 (cw_S F.1.2.2.2.2 lmE_51 cbA_fill rfl rfl ⟨by rw [hR]; exact Nat.le_of_ble_eq_true rfl, by rw [hR]; exact Nat.le_of_ble_eq_true rfl⟩) rfl rfl (Nat.le_of_ble_eq_true rfl) dE_beginRound_15 (fun M7 p8 => ?_)
  refine wx_aload_n F 0 dE_beginRound_18 rfl rfl ?_
  refine wx_iconst (v := (-1)) F dE_beginRound_19 (by decide) ?_
  refine wx_aload_n F 0 dE_beginRound_20 rfl rfl ?_
  refine wx_get (ci := 0) (C := qnE) (T := TE) (N := 17) (v := .int (M7 0 0)) F 0 (x_lt (by decide)) rfl rfl hiE 0 (by decide) rfl lfE_18 rfl dE_beginRound_21 ?_
  obtain ⟨po9, c10, h11⟩ := h5 M7 p8
  refine wx_callv F 0 c10 (x_lt (by decide)) rfl rfl (cw_V F.1.2.2.2.2 lmE_189 cbE_sendToSources rfl rfl ⟨by rw [hR]; exact Nat.le_of_ble_eq_true rfl, by rw [hR]; exact Nat.le_of_ble_eq_true rfl⟩) rfl rfl (Nat.le_of_ble_eq_true rfl) dE_beginRound_24 (fun M13 p14 => ?_)
  exact wx_vret F dE_beginRound_27 (h11 M13 p14)
theorem oE_beginRound {l : Launch} {D : va_G} {cI cZ cL cE : ClassId} {a : Nat → Nat} {w : Nat} {post : MM → Prop} (hJ : IJ (sX D cI cZ cL cE a w)) (hw : w ≤ 4) {M : MM} (h : ∀ M1 : MM, M1 = mp M 0 14 ((M 0 14) + 1) → (∃ po3 : MM → Prop, Cv l (sX D cI cZ cL cE a w) yA_fill wA_fill rmA_fill [.ref (a 39), .int 0] M1 po3 ∧ ∀ (M7 : MM), po3 M7 → (∃ po9 : MM → Prop, Cv l (sX D cI cZ cL cE a w) yE_sendToSources wE_sendToSources rmE_sendToSources [.ref (a 0), .int (-1), .int (M7 0 0)] M7 po9 ∧ ∀ (M13 : MM), po9 M13 → (post M13)))) : Cv l (sX D cI cZ cL cE a w) yE_beginRound wE_beginRound rmE_beginRound [.ref (a 0)] M post := Cv.of (cc := cE_beginRound) (nL := 1) rfl rfl (Nat.le_of_ble_eq_true rfl) hJ (fun G hl hR F => by subst hl; exact sE_beginRound_0 F hw hR h)
set_option maxRecDepth 20000 in
theorem sE_closeRound_0 {G : CX} {D : va_G} {cI cZ cL cE : ClassId} {a : Nat → Nat} {w : Nat} {post : MM → Prop} (F : FX G (sX D cI cZ cL cE a w) cE_closeRound 1 qnE none) (hw : w ≤ 4) (hR : gR G = rmE_closeRound) {M : MM} (h : ∃ po1 : Int32 → MM → Prop, Ci (gl G) (sX D cI cZ cL cE a w) yE_hasActiveTask wE_hasActiveTask rmE_hasActiveTask [.ref (a 0)] M po1 ∧ ∀ (r4 : Int32) (M5 : MM), po1 r4 M5 → ((r4 = 0 → ((¬ (M5 0 11) = 0 → (∀ M9 : MM, M9 = mp M5 0 10 0 → (post M9))) ∧ ((M5 0 11) = 0 → ((¬ (M5 0 12) = (-1) → (∀ M12 : MM, M12 = mp M5 0 10 0 → (post M12))) ∧ ((M5 0 12) = (-1) → (((M5 0 14) < (M5 0 13) → (∃ po15 : MM → Prop, Cv (gl G) (sX D cI cZ cL cE a w) yE_beginRound wE_beginRound rmE_beginRound [.ref (a 0)] M5 po15 ∧ ∀ (M19 : MM), po15 M19 → (post M19))) ∧ (¬ (M5 0 14) < (M5 0 13) → (∀ M21 : MM, M21 = mp M5 0 10 0 → (post M21))))))))) ∧ (¬ r4 = 0 → (post M5)))) : wx G (sX D cI cZ cL cE a w) 1 (Qxv G (sX D cI cZ cL cE a w) post) M 0 [(0, .ref (a 0))] [] := by
  refine wx_aload_n F 0 dE_closeRound_0 rfl rfl ?_
  obtain ⟨po1, c2, h3⟩ := h
  refine wx_calli F 0 c2 (x_lt (by decide)) rfl rfl (cw_V F.1.2.2.2.2 lmE_192 cbE_hasActiveTask rfl rfl ⟨by rw [hR]; exact Nat.le_of_ble_eq_true rfl, by rw [hR]; exact Nat.le_of_ble_eq_true rfl⟩) rfl rfl (Nat.le_of_ble_eq_true rfl) dE_closeRound_1 (fun r4 M5 p6 => ?_)
  refine wx_if_eq (tgt := 8) F dE_closeRound_4 (by decide) (fun g7 => ?_) (fun g7 => ?_)
  · refine wx_aload_n F 0 dE_closeRound_8 rfl rfl ?_
    refine wx_get (ci := 0) (C := qnE) (T := TE) (N := 17) (v := .int (M5 0 11)) F 0 (x_lt (by decide)) rfl rfl hiE 11 (by decide) rfl lfE_114 rfl dE_closeRound_9 ?_
    refine wx_if_ne (tgt := 34) F dE_closeRound_12 (by decide) (fun g8 => ?_) (fun g8 => ?_)
    · refine wx_aload_n F 0 dE_closeRound_34 rfl rfl ?_
      refine wx_iconst (v := 0) F dE_closeRound_35 (by decide) ?_
      refine wx_put (ci := 0) (C := qnE) (T := TE) (N := 17) (ty := .boolean) F 0 (x_lt (by decide)) rfl rfl hiE tyE tyE_ok nmE 10 (by decide) rfl lfE_73 rfl (by decide +kernel) rfl rfl (Nat.le_of_ble_eq_true rfl) rfl dE_closeRound_36 (wx_nm (fun M9 e10 => ?_))
      refine wx_goto (tgt := 46) F dE_closeRound_39 (by decide) ?_
      exact wx_vret F dE_closeRound_46 ((((h3 r4 M5 p6).1 g7).1 g8) M9 e10)
    · refine wx_aload_n F 0 dE_closeRound_15 rfl rfl ?_
      refine wx_get (ci := 0) (C := qnE) (T := TE) (N := 17) (v := .int (M5 0 12)) F 0 (x_lt (by decide)) rfl rfl hiE 12 (by decide) rfl lfE_70 rfl dE_closeRound_16 ?_
      refine wx_iconst (v := (-1)) F dE_closeRound_19 (by decide) ?_
      refine wx_icmp_ne (tgt := 34) F dE_closeRound_20 (by decide) (fun g11 => ?_) (fun g11 => ?_)
      · refine wx_aload_n F 0 dE_closeRound_34 rfl rfl ?_
        refine wx_iconst (v := 0) F dE_closeRound_35 (by decide) ?_
        refine wx_put (ci := 0) (C := qnE) (T := TE) (N := 17) (ty := .boolean) F 0 (x_lt (by decide)) rfl rfl hiE tyE tyE_ok nmE 10 (by decide) rfl lfE_73 rfl (by decide +kernel) rfl rfl (Nat.le_of_ble_eq_true rfl) rfl dE_closeRound_36 (wx_nm (fun M12 e13 => ?_))
        refine wx_goto (tgt := 46) F dE_closeRound_39 (by decide) ?_
        exact wx_vret F dE_closeRound_46 (((((h3 r4 M5 p6).1 g7).2 g8).1 g11) M12 e13)
      · refine wx_aload_n F 0 dE_closeRound_23 rfl rfl ?_
        refine wx_get (ci := 0) (C := qnE) (T := TE) (N := 17) (v := .int (M5 0 14)) F 0 (x_lt (by decide)) rfl rfl hiE 14 (by decide) rfl lfE_120 rfl dE_closeRound_24 ?_
        refine wx_aload_n F 0 dE_closeRound_27 rfl rfl ?_
        refine wx_get (ci := 0) (C := qnE) (T := TE) (N := 17) (v := .int (M5 0 13)) F 0 (x_lt (by decide)) rfl rfl hiE 13 (by decide) rfl lfE_117 rfl dE_closeRound_28 ?_
        refine wx_icmp_lt (tgt := 42) F dE_closeRound_31 (by decide) (fun g14 => ?_) (fun g14 => ?_)
        · refine wx_aload_n F 0 dE_closeRound_42 rfl rfl ?_
          obtain ⟨po15, c16, h17⟩ := ((((h3 r4 M5 p6).1 g7).2 g8).2 g11).1 g14
          refine wx_callv F 0 c16 (x_lt (by decide)) rfl rfl (cw_V F.1.2.2.2.2 lmE_129 cbE_beginRound rfl rfl ⟨by rw [hR]; exact Nat.le_of_ble_eq_true rfl, by rw [hR]; exact Nat.le_of_ble_eq_true rfl⟩) rfl rfl (Nat.le_of_ble_eq_true rfl) dE_closeRound_43 (fun M19 p20 => ?_)
          exact wx_vret F dE_closeRound_46 (h17 M19 p20)
        · refine wx_aload_n F 0 dE_closeRound_34 rfl rfl ?_
          refine wx_iconst (v := 0) F dE_closeRound_35 (by decide) ?_
          refine wx_put (ci := 0) (C := qnE) (T := TE) (N := 17) (ty := .boolean) F 0 (x_lt (by decide)) rfl rfl hiE tyE tyE_ok nmE 10 (by decide) rfl lfE_73 rfl (by decide +kernel) rfl rfl (Nat.le_of_ble_eq_true rfl) rfl dE_closeRound_36 (wx_nm (fun M21 e22 => ?_))
          refine wx_goto (tgt := 46) F dE_closeRound_39 (by decide) ?_
          exact wx_vret F dE_closeRound_46 ((((((h3 r4 M5 p6).1 g7).2 g8).2 g11).2 g14) M21 e22)
  · exact wx_vret F dE_closeRound_7 ((h3 r4 M5 p6).2 g7)
theorem oE_closeRound {l : Launch} {D : va_G} {cI cZ cL cE : ClassId} {a : Nat → Nat} {w : Nat} {post : MM → Prop} (hJ : IJ (sX D cI cZ cL cE a w)) (hw : w ≤ 4) {M : MM} (h : ∃ po1 : Int32 → MM → Prop, Ci l (sX D cI cZ cL cE a w) yE_hasActiveTask wE_hasActiveTask rmE_hasActiveTask [.ref (a 0)] M po1 ∧ ∀ (r4 : Int32) (M5 : MM), po1 r4 M5 → ((r4 = 0 → ((¬ (M5 0 11) = 0 → (∀ M9 : MM, M9 = mp M5 0 10 0 → (post M9))) ∧ ((M5 0 11) = 0 → ((¬ (M5 0 12) = (-1) → (∀ M12 : MM, M12 = mp M5 0 10 0 → (post M12))) ∧ ((M5 0 12) = (-1) → (((M5 0 14) < (M5 0 13) → (∃ po15 : MM → Prop, Cv l (sX D cI cZ cL cE a w) yE_beginRound wE_beginRound rmE_beginRound [.ref (a 0)] M5 po15 ∧ ∀ (M19 : MM), po15 M19 → (post M19))) ∧ (¬ (M5 0 14) < (M5 0 13) → (∀ M21 : MM, M21 = mp M5 0 10 0 → (post M21))))))))) ∧ (¬ r4 = 0 → (post M5)))) : Cv l (sX D cI cZ cL cE a w) yE_closeRound wE_closeRound rmE_closeRound [.ref (a 0)] M post := Cv.of (cc := cE_closeRound) (nL := 1) rfl rfl (Nat.le_of_ble_eq_true rfl) hJ (fun G hl hR F => by subst hl; exact sE_closeRound_0 F hw hR h)
set_option maxRecDepth 20000 in
theorem sE_hasActiveTask_0 {G : CX} {D : va_G} {cI cZ cL cE : ClassId} {a : Nat → Nat} {w : Nat} {post : Int32 → MM → Prop} (F : FX G (sX D cI cZ cL cE a w) cE_hasActiveTask 2 qnE (some .boolean)) (hw : w ≤ 4) (hR : gR G = rmE_hasActiveTask) {K2 : MM → Int32 → Prop} (hK2 : ∀ (M : MM) (x1 : Int32), K2 M x1 → wx G (sX D cI cZ cL cE a w) 2 (Qxi G (sX D cI cZ cL cE a w) post) M 2 [(0, .ref (a 0)), (1, .int x1)] []) {M : MM} (h : K2 M 0) : wx G (sX D cI cZ cL cE a w) 2 (Qxi G (sX D cI cZ cL cE a w) post) M 0 [(0, .ref (a 0))] [] := by
  refine wx_iconst (v := 0) F dE_hasActiveTask_0 (by decide) ?_
  refine wx_istore_n (lv' := [(1, .int 0), (0, .ref (a 0))]) F dE_hasActiveTask_1 rfl (by decide) rfl ?_
  exact wx_lv [1, 0] rfl (hK2 _ _ (h))
set_option maxRecDepth 20000 in
theorem sE_hasActiveTask_2 {G : CX} {D : va_G} {cI cZ cL cE : ClassId} {a : Nat → Nat} {w : Nat} {post : Int32 → MM → Prop} (F : FX G (sX D cI cZ cL cE a w) cE_hasActiveTask 2 qnE (some .boolean)) (hw : w ≤ 4) (hR : gR G = rmE_hasActiveTask) {K2 : MM → Int32 → Prop} (hK2 : ∀ (M : MM) (x1 : Int32), K2 M x1 → wx G (sX D cI cZ cL cE a w) 2 (Qxi G (sX D cI cZ cL cE a w) post) M 2 [(0, .ref (a 0)), (1, .int x1)] []) {M : MM} {x1 : Int32} (h : ((M 1 0) ≤ x1 → (post 0 M)) ∧ (¬ (M 1 0) ≤ x1 → (∃ j2 : Nat, x1 = nI j2 ∧ j2 < 24 ∧ (((M 38 j2) = 0 → (K2 M (x1 + 1))) ∧ (¬ (M 38 j2) = 0 → (post 1 M)))))) : wx G (sX D cI cZ cL cE a w) 2 (Qxi G (sX D cI cZ cL cE a w) post) M 2 [(0, .ref (a 0)), (1, .int x1)] [] := by
  refine wx_iload_n F 1 dE_hasActiveTask_2 rfl rfl ?_
  refine wx_aload_n F 0 dE_hasActiveTask_3 rfl rfl ?_
  refine wx_get (ci := 0) (C := qnE) (T := TE) (N := 17) (v := .ref (a 1)) F 0 (x_lt (by decide)) rfl rfl hiE 1 (by decide) rfl lfE_25 rfl dE_hasActiveTask_4 ?_
  refine wx_get (ci := 1) (C := qnG) (T := TG) (N := 9) (v := .int (M 1 0)) F 1 (x_lt (by decide)) rfl rfl hiG 0 (by decide) rfl lfE_100 rfl dE_hasActiveTask_7 ?_
  refine wx_icmp_ge (tgt := 30) F dE_hasActiveTask_10 (by decide) (fun g1 => ?_) (fun g1 => ?_)
  · refine wx_iconst (v := 0) F dE_hasActiveTask_30 (by decide) ?_
    exact wx_zret F dE_hasActiveTask_31 rfl ((h).1 g1)
  · refine wx_aload_n F 0 dE_hasActiveTask_13 rfl rfl ?_
    refine wx_get (ci := 0) (C := qnE) (T := TE) (N := 17) (v := .ref (a 38)) F 0 (x_lt (by decide)) rfl rfl hiE 6 (by decide) rfl lfE_57 rfl dE_hasActiveTask_14 ?_
    refine wx_iload_n F 1 dE_hasActiveTask_17 rfl rfl ?_
    obtain ⟨j2, e3, b4, h5⟩ := (h).2 g1
    refine wx_iald (N := 24) F 38 (x_lt (by decide)) rfl 0 rfl e3 b4 (by omega) dE_hasActiveTask_18 ?_
    refine wx_if_eq (tgt := 24) F dE_hasActiveTask_19 (by decide) (fun g6 => ?_) (fun g6 => ?_)
    · refine wx_iinc (lv' := [(1, .int (x1 + 1)), (0, .ref (a 0))]) F 1 dE_hasActiveTask_24 rfl (ii1 _) (by decide) rfl ?_
      refine wx_goto (tgt := 2) F dE_hasActiveTask_27 (by decide) ?_
      exact wx_lv [1, 0] rfl (hK2 _ _ ((h5).1 g6))
    · refine wx_iconst (v := 1) F dE_hasActiveTask_22 (by decide) ?_
      exact wx_zret F dE_hasActiveTask_23 rfl ((h5).2 g6)
theorem oE_hasActiveTask {l : Launch} {D : va_G} {cI cZ cL cE : ClassId} {a : Nat → Nat} {w : Nat} {post : Int32 → MM → Prop} (hJ : IJ (sX D cI cZ cL cE a w)) {M : MM} (h : ∀ G : CX, gl G = l → gR G = rmE_hasActiveTask → FX G (sX D cI cZ cL cE a w) cE_hasActiveTask 2 qnE (some .boolean) → wx G (sX D cI cZ cL cE a w) 2 (Qxi G (sX D cI cZ cL cE a w) post) M 0 [(0, .ref (a 0))] []) : Ci l (sX D cI cZ cL cE a w) yE_hasActiveTask wE_hasActiveTask rmE_hasActiveTask [.ref (a 0)] M post := Ci.of (cc := cE_hasActiveTask) (nL := 2) rfl rfl (Nat.le_of_ble_eq_true rfl) hJ h
set_option maxRecDepth 20000 in
theorem sE_hasActiveChild_0 {G : CX} {D : va_G} {cI cZ cL cE : ClassId} {a : Nat → Nat} {w : Nat} {post : Int32 → MM → Prop} (F : FX G (sX D cI cZ cL cE a w) cE_hasActiveChild 3 qnE (some .boolean)) (hw : w ≤ 4) (hR : gR G = rmE_hasActiveChild) {K2 : MM → Int32 → Int32 → Prop} (hK2 : ∀ (M : MM) (x1 x2 : Int32), K2 M x1 x2 → wx G (sX D cI cZ cL cE a w) 3 (Qxi G (sX D cI cZ cL cE a w) post) M 2 [(0, .ref (a 0)), (1, .int x1), (2, .int x2)] []) {M : MM} {x1 : Int32} (h : K2 M x1 0) : wx G (sX D cI cZ cL cE a w) 3 (Qxi G (sX D cI cZ cL cE a w) post) M 0 [(0, .ref (a 0)), (1, .int x1)] [] := by
  refine wx_iconst (v := 0) F dE_hasActiveChild_0 (by decide) ?_
  refine wx_istore_n (lv' := [(2, .int 0), (0, .ref (a 0)), (1, .int x1)]) F dE_hasActiveChild_1 rfl (by decide) rfl ?_
  exact wx_lv [1, 2, 0] rfl (hK2 _ _ _ (h))
set_option maxRecDepth 20000 in
theorem sE_hasActiveChild_2 {G : CX} {D : va_G} {cI cZ cL cE : ClassId} {a : Nat → Nat} {w : Nat} {post : Int32 → MM → Prop} (F : FX G (sX D cI cZ cL cE a w) cE_hasActiveChild 3 qnE (some .boolean)) (hw : w ≤ 4) (hR : gR G = rmE_hasActiveChild) {K2 : MM → Int32 → Int32 → Prop} (hK2 : ∀ (M : MM) (x1 x2 : Int32), K2 M x1 x2 → wx G (sX D cI cZ cL cE a w) 3 (Qxi G (sX D cI cZ cL cE a w) post) M 2 [(0, .ref (a 0)), (1, .int x1), (2, .int x2)] []) {M : MM} {x1 x2 : Int32} (h : ((M 1 0) ≤ x2 → (post 0 M)) ∧ (¬ (M 1 0) ≤ x2 → (∃ j2 : Nat, x2 = nI j2 ∧ j2 < 24 ∧ ((¬ (M 3 j2) = x1 → (K2 M x1 (x2 + 1))) ∧ ((M 3 j2) = x1 → (((M 38 j2) = 0 → (K2 M x1 (x2 + 1))) ∧ (¬ (M 38 j2) = 0 → (post 1 M)))))))) : wx G (sX D cI cZ cL cE a w) 3 (Qxi G (sX D cI cZ cL cE a w) post) M 2 [(0, .ref (a 0)), (1, .int x1), (2, .int x2)] [] := by
  refine wx_iload_n F 2 dE_hasActiveChild_2 rfl rfl ?_
  refine wx_aload_n F 0 dE_hasActiveChild_3 rfl rfl ?_
  refine wx_get (ci := 0) (C := qnE) (T := TE) (N := 17) (v := .ref (a 1)) F 0 (x_lt (by decide)) rfl rfl hiE 1 (by decide) rfl lfE_25 rfl dE_hasActiveChild_4 ?_
  refine wx_get (ci := 1) (C := qnG) (T := TG) (N := 9) (v := .int (M 1 0)) F 1 (x_lt (by decide)) rfl rfl hiG 0 (by decide) rfl lfE_100 rfl dE_hasActiveChild_7 ?_
  refine wx_icmp_ge (tgt := 43) F dE_hasActiveChild_10 (by decide) (fun g1 => ?_) (fun g1 => ?_)
  · refine wx_iconst (v := 0) F dE_hasActiveChild_43 (by decide) ?_
    exact wx_zret F dE_hasActiveChild_44 rfl ((h).1 g1)
  · refine wx_aload_n F 0 dE_hasActiveChild_13 rfl rfl ?_
    refine wx_get (ci := 0) (C := qnE) (T := TE) (N := 17) (v := .ref (a 1)) F 0 (x_lt (by decide)) rfl rfl hiE 1 (by decide) rfl lfE_25 rfl dE_hasActiveChild_14 ?_
    refine wx_get (ci := 1) (C := qnG) (T := TG) (N := 9) (v := .ref (a 3)) F 1 (x_lt (by decide)) rfl rfl hiG 2 (by decide) rfl lfE_195 rfl dE_hasActiveChild_17 ?_
    refine wx_iload_n F 2 dE_hasActiveChild_20 rfl rfl ?_
    obtain ⟨j2, e3, b4, h5⟩ := (h).2 g1
    refine wx_iald (N := 24) F 3 (x_lt (by decide)) rfl 0 rfl e3 b4 (by omega) dE_hasActiveChild_21 ?_
    refine wx_iload_n F 1 dE_hasActiveChild_22 rfl rfl ?_
    refine wx_icmp_ne (tgt := 37) F dE_hasActiveChild_23 (by decide) (fun g6 => ?_) (fun g6 => ?_)
    · refine wx_iinc (lv' := [(2, .int (x2 + 1)), (0, .ref (a 0)), (1, .int x1)]) F 2 dE_hasActiveChild_37 rfl (ii1 _) (by decide) rfl ?_
      refine wx_goto (tgt := 2) F dE_hasActiveChild_40 (by decide) ?_
      exact wx_lv [1, 2, 0] rfl (hK2 _ _ _ ((h5).1 g6))
    · refine wx_aload_n F 0 dE_hasActiveChild_26 rfl rfl ?_
      refine wx_get (ci := 0) (C := qnE) (T := TE) (N := 17) (v := .ref (a 38)) F 0 (x_lt (by decide)) rfl rfl hiE 6 (by decide) rfl lfE_57 rfl dE_hasActiveChild_27 ?_
      refine wx_iload_n F 2 dE_hasActiveChild_30 rfl rfl ?_
      refine wx_iald (N := 24) F 38 (x_lt (by decide)) rfl 0 rfl e3 b4 (by omega) dE_hasActiveChild_31 ?_
      refine wx_if_eq (tgt := 37) F dE_hasActiveChild_32 (by decide) (fun g7 => ?_) (fun g7 => ?_)
      · refine wx_iinc (lv' := [(2, .int (x2 + 1)), (0, .ref (a 0)), (1, .int x1)]) F 2 dE_hasActiveChild_37 rfl (ii1 _) (by decide) rfl ?_
        refine wx_goto (tgt := 2) F dE_hasActiveChild_40 (by decide) ?_
        exact wx_lv [1, 2, 0] rfl (hK2 _ _ _ (((h5).2 g6).1 g7))
      · refine wx_iconst (v := 1) F dE_hasActiveChild_35 (by decide) ?_
        exact wx_zret F dE_hasActiveChild_36 rfl (((h5).2 g6).2 g7)
theorem oE_hasActiveChild {l : Launch} {D : va_G} {cI cZ cL cE : ClassId} {a : Nat → Nat} {w : Nat} {post : Int32 → MM → Prop} (hJ : IJ (sX D cI cZ cL cE a w)) {M : MM} {x1 : Int32} (h : ∀ G : CX, gl G = l → gR G = rmE_hasActiveChild → FX G (sX D cI cZ cL cE a w) cE_hasActiveChild 3 qnE (some .boolean) → wx G (sX D cI cZ cL cE a w) 3 (Qxi G (sX D cI cZ cL cE a w) post) M 0 [(0, .ref (a 0)), (1, .int x1)] []) : Ci l (sX D cI cZ cL cE a w) yE_hasActiveChild wE_hasActiveChild rmE_hasActiveChild [.ref (a 0), .int x1] M post := Ci.of (cc := cE_hasActiveChild) (nL := 3) rfl rfl (Nat.le_of_ble_eq_true rfl) hJ h
set_option maxRecDepth 20000 in
theorem sE_sendToSources_0 {G : CX} {D : va_G} {cI cZ cL cE : ClassId} {a : Nat → Nat} {w : Nat} {post : MM → Prop} (F : FX G (sX D cI cZ cL cE a w) cE_sendToSources 4 qnE none) (hw : w ≤ 4) (hR : gR G = rmE_sendToSources) {K2 : MM → Int32 → Int32 → Int32 → Prop} (hK2 : ∀ (M : MM) (x1 x2 x3 : Int32), K2 M x1 x2 x3 → wx G (sX D cI cZ cL cE a w) 4 (Qxv G (sX D cI cZ cL cE a w) post) M 2 [(0, .ref (a 0)), (1, .int x1), (2, .int x2), (3, .int x3)] []) {M : MM} {x1 x2 : Int32} (h : K2 M x1 x2 0) : wx G (sX D cI cZ cL cE a w) 4 (Qxv G (sX D cI cZ cL cE a w) post) M 0 [(0, .ref (a 0)), (1, .int x1), (2, .int x2)] [] := by
  refine wx_iconst (v := 0) F dE_sendToSources_0 (by decide) ?_
  refine wx_istore_n (lv' := [(3, .int 0), (0, .ref (a 0)), (1, .int x1), (2, .int x2)]) F dE_sendToSources_1 rfl (by decide) rfl ?_
  exact wx_lv [1, 2, 3, 0] rfl (hK2 _ _ _ _ (h))
set_option maxRecDepth 20000 in
theorem sE_sendToSources_2 {G : CX} {D : va_G} {cI cZ cL cE : ClassId} {a : Nat → Nat} {w : Nat} {post : MM → Prop} (F : FX G (sX D cI cZ cL cE a w) cE_sendToSources 4 qnE none) (hw : w ≤ 4) (hR : gR G = rmE_sendToSources) {K2 : MM → Int32 → Int32 → Int32 → Prop} (hK2 : ∀ (M : MM) (x1 x2 x3 : Int32), K2 M x1 x2 x3 → wx G (sX D cI cZ cL cE a w) 4 (Qxv G (sX D cI cZ cL cE a w) post) M 2 [(0, .ref (a 0)), (1, .int x1), (2, .int x2), (3, .int x3)] []) {M : MM} {x1 x2 x3 : Int32} (h : ((M 1 0) ≤ x3 → (post M)) ∧ (¬ (M 1 0) ≤ x3 → (∃ j2 : Nat, x3 = nI j2 ∧ j2 < 24 ∧ ((¬ (M 3 j2) = x1 → (K2 M x1 x2 (x3 + 1))) ∧ ((M 3 j2) = x1 → (∃ po7 : Int32 → MM → Prop, Ci (gl G) (sX D cI cZ cL cE a w) yG_isSource wG_isSource rmG_isSource [.ref (a 1), .int x3] M po7 ∧ ∀ (r10 : Int32) (M11 : MM), po7 r10 M11 → ((r10 = 0 → (K2 M11 x1 x2 (x3 + 1))) ∧ (¬ r10 = 0 → (∃ po14 : MM → Prop, Cv (gl G) (sX D cI cZ cL cE a w) yE_sendToken wE_sendToken rmE_sendToken [.ref (a 0), .int x3, .int x2] M11 po14 ∧ ∀ (M18 : MM), po14 M18 → (K2 M18 x1 x2 (x3 + 1))))))))))) : wx G (sX D cI cZ cL cE a w) 4 (Qxv G (sX D cI cZ cL cE a w) post) M 2 [(0, .ref (a 0)), (1, .int x1), (2, .int x2), (3, .int x3)] [] := by
  refine wx_iload_n F 3 dE_sendToSources_2 rfl rfl ?_
  refine wx_aload_n F 0 dE_sendToSources_3 rfl rfl ?_
  refine wx_get (ci := 0) (C := qnE) (T := TE) (N := 17) (v := .ref (a 1)) F 0 (x_lt (by decide)) rfl rfl hiE 1 (by decide) rfl lfE_25 rfl dE_sendToSources_4 ?_
  refine wx_get (ci := 1) (C := qnG) (T := TG) (N := 9) (v := .int (M 1 0)) F 1 (x_lt (by decide)) rfl rfl hiG 0 (by decide) rfl lfE_100 rfl dE_sendToSources_7 ?_
  refine wx_icmp_ge (tgt := 49) F dE_sendToSources_10 (by decide) (fun g1 => ?_) (fun g1 => ?_)
  · exact wx_vret F dE_sendToSources_49 ((h).1 g1)
  · refine wx_aload_n F 0 dE_sendToSources_13 rfl rfl ?_
    refine wx_get (ci := 0) (C := qnE) (T := TE) (N := 17) (v := .ref (a 1)) F 0 (x_lt (by decide)) rfl rfl hiE 1 (by decide) rfl lfE_25 rfl dE_sendToSources_14 ?_
    refine wx_get (ci := 1) (C := qnG) (T := TG) (N := 9) (v := .ref (a 3)) F 1 (x_lt (by decide)) rfl rfl hiG 2 (by decide) rfl lfE_195 rfl dE_sendToSources_17 ?_
    refine wx_iload_n F 3 dE_sendToSources_20 rfl rfl ?_
    obtain ⟨j2, e3, b4, h5⟩ := (h).2 g1
    refine wx_iald (N := 24) F 3 (x_lt (by decide)) rfl 0 rfl e3 b4 (by omega) dE_sendToSources_21 ?_
    refine wx_iload_n F 1 dE_sendToSources_22 rfl rfl ?_
    refine wx_icmp_ne (tgt := 43) F dE_sendToSources_23 (by decide) (fun g6 => ?_) (fun g6 => ?_)
    · refine wx_iinc (lv' := [(3, .int (x3 + 1)), (0, .ref (a 0)), (1, .int x1), (2, .int x2)]) F 3 dE_sendToSources_43 rfl (ii1 _) (by decide) rfl ?_
      refine wx_goto (tgt := 2) F dE_sendToSources_46 (by decide) ?_
      exact wx_lv [1, 2, 3, 0] rfl (hK2 _ _ _ _ ((h5).1 g6))
    · refine wx_aload_n F 0 dE_sendToSources_26 rfl rfl ?_
      refine wx_get (ci := 0) (C := qnE) (T := TE) (N := 17) (v := .ref (a 1)) F 0 (x_lt (by decide)) rfl rfl hiE 1 (by decide) rfl lfE_25 rfl dE_sendToSources_27 ?_
      refine wx_iload_n F 3 dE_sendToSources_30 rfl rfl ?_
      obtain ⟨po7, c8, h9⟩ := (h5).2 g6
      refine wx_calli F 1 c8 (x_lt (by decide)) rfl rfl (cw_V F.1.2.2.2.2 lmE_198 cbG_isSource rfl rfl ⟨by rw [hR]; exact Nat.le_of_ble_eq_true rfl, by rw [hR]; exact Nat.le_of_ble_eq_true rfl⟩) rfl rfl (Nat.le_of_ble_eq_true rfl) dE_sendToSources_31 (fun r10 M11 p12 => ?_)
      refine wx_if_eq (tgt := 43) F dE_sendToSources_34 (by decide) (fun g13 => ?_) (fun g13 => ?_)
      · refine wx_iinc (lv' := [(3, .int (x3 + 1)), (0, .ref (a 0)), (1, .int x1), (2, .int x2)]) F 3 dE_sendToSources_43 rfl (ii1 _) (by decide) rfl ?_
        refine wx_goto (tgt := 2) F dE_sendToSources_46 (by decide) ?_
        exact wx_lv [1, 2, 3, 0] rfl (hK2 _ _ _ _ ((h9 r10 M11 p12).1 g13))
      · refine wx_aload_n F 0 dE_sendToSources_37 rfl rfl ?_
        refine wx_iload_n F 3 dE_sendToSources_38 rfl rfl ?_
        refine wx_iload_n F 2 dE_sendToSources_39 rfl rfl ?_
        obtain ⟨po14, c15, h16⟩ := (h9 r10 M11 p12).2 g13
        refine wx_callv F 0 c15 (x_lt (by decide)) rfl rfl (cw_V F.1.2.2.2.2 lmE_201 cbE_sendToken rfl rfl ⟨by rw [hR]; exact Nat.le_of_ble_eq_true rfl, by rw [hR]; exact Nat.le_of_ble_eq_true rfl⟩) rfl rfl (Nat.le_of_ble_eq_true rfl) dE_sendToSources_40 (fun M18 p19 => ?_)
        refine wx_iinc (lv' := [(3, .int (x3 + 1)), (0, .ref (a 0)), (1, .int x1), (2, .int x2)]) F 3 dE_sendToSources_43 rfl (ii1 _) (by decide) rfl ?_
        refine wx_goto (tgt := 2) F dE_sendToSources_46 (by decide) ?_
        exact wx_lv [1, 2, 3, 0] rfl (hK2 _ _ _ _ (h16 M18 p19))
theorem oE_sendToSources {l : Launch} {D : va_G} {cI cZ cL cE : ClassId} {a : Nat → Nat} {w : Nat} {post : MM → Prop} (hJ : IJ (sX D cI cZ cL cE a w)) {M : MM} {x1 x2 : Int32} (h : ∀ G : CX, gl G = l → gR G = rmE_sendToSources → FX G (sX D cI cZ cL cE a w) cE_sendToSources 4 qnE none → wx G (sX D cI cZ cL cE a w) 4 (Qxv G (sX D cI cZ cL cE a w) post) M 0 [(0, .ref (a 0)), (1, .int x1), (2, .int x2)] []) : Cv l (sX D cI cZ cL cE a w) yE_sendToSources wE_sendToSources rmE_sendToSources [.ref (a 0), .int x1, .int x2] M post := Cv.of (cc := cE_sendToSources) (nL := 4) rfl rfl (Nat.le_of_ble_eq_true rfl) hJ h
set_option maxRecDepth 20000 in
theorem sE_sendToken_0 {G : CX} {D : va_G} {cI cZ cL cE : ClassId} {a : Nat → Nat} {w : Nat} {post : MM → Prop} (F : FX G (sX D cI cZ cL cE a w) cE_sendToken 3 qnE none) (hw : w ≤ 4) (hR : gR G = rmE_sendToken) {M : MM} {x1 x2 : Int32} (h : ∃ j1 : Nat, x1 = nI j1 ∧ j1 < 24 ∧ ((¬ (M 38 j1) = 0 → (∀ M6 : MM, M6 = mp M 0 15 ((M 0 15) + 1) → (post M6))) ∧ ((M 38 j1) = 0 → (∃ po8 : MM → Prop, Cv (gl G) (sX D cI cZ cL cE a w) yE_makeReady wE_makeReady rmE_makeReady [.ref (a 0), .int x1, .int x2] M po8 ∧ ∀ (M12 : MM), po8 M12 → (post M12))))) : wx G (sX D cI cZ cL cE a w) 3 (Qxv G (sX D cI cZ cL cE a w) post) M 0 [(0, .ref (a 0)), (1, .int x1), (2, .int x2)] [] := by
  refine wx_aload_n F 0 dE_sendToken_0 rfl rfl ?_
  refine wx_get (ci := 0) (C := qnE) (T := TE) (N := 17) (v := .ref (a 38)) F 0 (x_lt (by decide)) rfl rfl hiE 6 (by decide) rfl lfE_57 rfl dE_sendToken_1 ?_
  refine wx_iload_n F 1 dE_sendToken_4 rfl rfl ?_
  obtain ⟨j1, e2, b3, h4⟩ := h
  refine wx_iald (N := 24) F 38 (x_lt (by decide)) rfl 0 rfl e2 b3 (by omega) dE_sendToken_5 ?_
  refine wx_if_ne (tgt := 18) F dE_sendToken_6 (by decide) (fun g5 => ?_) (fun g5 => ?_)
  · refine wx_aload_n F 0 dE_sendToken_18 rfl rfl ?_
    refine wx_dup F dE_sendToken_19 rfl ?_
    refine wx_get (ci := 0) (C := qnE) (T := TE) (N := 17) (v := .int (M 0 15)) F 0 (x_lt (by decide)) rfl rfl hiE 15 (by decide) rfl lfE_123 rfl dE_sendToken_20 ?_
    refine wx_iconst (v := 1) F dE_sendToken_23 (by decide) ?_
    refine wx_iadd F dE_sendToken_24 ?_
    refine wx_put (ci := 0) (C := qnE) (T := TE) (N := 17) (ty := .int) F 0 (x_lt (by decide)) rfl rfl hiE tyE tyE_ok nmE 15 (by decide) rfl lfE_123 rfl (by decide +kernel) rfl rfl (Nat.le_of_ble_eq_true rfl) rfl dE_sendToken_25 (wx_nm (fun M6 e7 => ?_))
    exact wx_vret F dE_sendToken_28 (((h4).1 g5) M6 e7)
  · refine wx_aload_n F 0 dE_sendToken_9 rfl rfl ?_
    refine wx_iload_n F 1 dE_sendToken_10 rfl rfl ?_
    refine wx_iload_n F 2 dE_sendToken_11 rfl rfl ?_
    obtain ⟨po8, c9, h10⟩ := (h4).2 g5
    refine wx_callv F 0 c9 (x_lt (by decide)) rfl rfl (cw_V F.1.2.2.2.2 lmE_204 cbE_makeReady rfl rfl ⟨by rw [hR]; exact Nat.le_of_ble_eq_true rfl, by rw [hR]; exact Nat.le_of_ble_eq_true rfl⟩) rfl rfl (Nat.le_of_ble_eq_true rfl) dE_sendToken_12 (fun M12 p13 => ?_)
    refine wx_goto (tgt := 28) F dE_sendToken_15 (by decide) ?_
    exact wx_vret F dE_sendToken_28 (h10 M12 p13)
theorem oE_sendToken {l : Launch} {D : va_G} {cI cZ cL cE : ClassId} {a : Nat → Nat} {w : Nat} {post : MM → Prop} (hJ : IJ (sX D cI cZ cL cE a w)) (hw : w ≤ 4) {M : MM} {x1 x2 : Int32} (h : ∃ j1 : Nat, x1 = nI j1 ∧ j1 < 24 ∧ ((¬ (M 38 j1) = 0 → (∀ M6 : MM, M6 = mp M 0 15 ((M 0 15) + 1) → (post M6))) ∧ ((M 38 j1) = 0 → (∃ po8 : MM → Prop, Cv l (sX D cI cZ cL cE a w) yE_makeReady wE_makeReady rmE_makeReady [.ref (a 0), .int x1, .int x2] M po8 ∧ ∀ (M12 : MM), po8 M12 → (post M12))))) : Cv l (sX D cI cZ cL cE a w) yE_sendToken wE_sendToken rmE_sendToken [.ref (a 0), .int x1, .int x2] M post := Cv.of (cc := cE_sendToken) (nL := 3) rfl rfl (Nat.le_of_ble_eq_true rfl) hJ (fun G hl hR F => by subst hl; exact sE_sendToken_0 F hw hR h)
set_option maxRecDepth 20000 in
theorem sE_makeReady_0 {G : CX} {D : va_G} {cI cZ cL cE : ClassId} {a : Nat → Nat} {w : Nat} {post : MM → Prop} (F : FX G (sX D cI cZ cL cE a w) cE_makeReady 3 qnE none) (hw : w ≤ 4) (hR : gR G = rmE_makeReady) {M : MM} {x1 x2 : Int32} (h : (¬ x2 = (M 0 0) → (∃ j4 : Nat, x1 = nI j4 ∧ j4 < 24 ∧ (∀ M2 : MM, M2 = mp M 38 j4 (10 + x2) → (∃ j8 : Nat, x2 = nI j8 ∧ j8 < (w + 1) ∧ (∃ po12 : MM → Prop, Cv (gl G) (sX D cI cZ cL cE a w) yL_append wL_append rmL_append [.ref (a (43 + 2 * (j8 + 1))), .int x1] M2 po12 ∧ ∀ (M16 : MM), po12 M16 → (post M16)))))) ∧ (x2 = (M 0 0) → (∃ j20 : Nat, x1 = nI j20 ∧ j20 < 24 ∧ (∀ M18 : MM, M18 = mp M 38 j20 20 → (∃ j24 : Nat, x2 = nI j24 ∧ j24 < (w + 1) ∧ (∃ po28 : MM → Prop, Cv (gl G) (sX D cI cZ cL cE a w) yL_append wL_append rmL_append [.ref (a (43 + 2 * (j24 + 1))), .int x1] M18 po28 ∧ ∀ (M32 : MM), po28 M32 → (post M32))))))) : wx G (sX D cI cZ cL cE a w) 3 (Qxv G (sX D cI cZ cL cE a w) post) M 0 [(0, .ref (a 0)), (1, .int x1), (2, .int x2)] [] := by
  refine wx_aload_n F 0 dE_makeReady_0 rfl rfl ?_
  refine wx_get (ci := 0) (C := qnE) (T := TE) (N := 17) (v := .ref (a 38)) F 0 (x_lt (by decide)) rfl rfl hiE 6 (by decide) rfl lfE_57 rfl dE_makeReady_1 ?_
  refine wx_iload_n F 1 dE_makeReady_4 rfl rfl ?_
  refine wx_iload_n F 2 dE_makeReady_5 rfl rfl ?_
  refine wx_aload_n F 0 dE_makeReady_6 rfl rfl ?_
  refine wx_get (ci := 0) (C := qnE) (T := TE) (N := 17) (v := .int (M 0 0)) F 0 (x_lt (by decide)) rfl rfl hiE 0 (by decide) rfl lfE_18 rfl dE_makeReady_7 ?_
  refine wx_icmp_ne (tgt := 18) F dE_makeReady_10 (by decide) (fun g1 => ?_) (fun g1 => ?_)
  · refine wx_bipush (v := 10) F dE_makeReady_18 (by decide) ?_
    refine wx_iload_n F 2 dE_makeReady_20 rfl rfl ?_
    refine wx_iadd F dE_makeReady_21 ?_
    obtain ⟨j4, e5, b6, h7⟩ := (h).1 g1
    refine wx_iast (N := 24) F 38 (x_lt (by decide)) (fun _ => rfl) 0 rfl e5 b6 (by omega) dE_makeReady_22 (wx_nm (fun M2 e3 => ?_))
    refine wx_aload_n F 0 dE_makeReady_23 rfl rfl ?_
    refine wx_get (ci := 0) (C := qnE) (T := TE) (N := 17) (v := .ref (a 42)) F 0 (x_lt (by decide)) rfl rfl hiE 3 (by decide) rfl lfE_38 rfl dE_makeReady_24 ?_
    refine wx_iload_n F 2 dE_makeReady_27 rfl rfl ?_
    obtain ⟨j8, e9, b10, h11⟩ := h7 M2 e3
    refine xL_aald F hw e9 b10 dE_makeReady_28 ?_
    refine wx_iload_n F 1 dE_makeReady_29 rfl rfl ?_
    obtain ⟨po12, c13, h14⟩ := h11
    refine wx_callv F (43 + 2 * (j8 + 1)) c13 (x_ltL (i := (j8 + 1)) (by omega)) (x_cL (j8 + 1) _) rfl (cw_V F.1.2.2.2.2 lmE_207 cbL_append rfl rfl ⟨by rw [hR]; exact Nat.le_of_ble_eq_true rfl, by rw [hR]; exact Nat.le_of_ble_eq_true rfl⟩) rfl rfl (Nat.le_of_ble_eq_true rfl) dE_makeReady_30 (fun M16 p17 => ?_)
    exact wx_vret F dE_makeReady_33 (h14 M16 p17)
  · refine wx_bipush (v := 20) F dE_makeReady_13 (by decide) ?_
    refine wx_goto (tgt := 22) F dE_makeReady_15 (by decide) ?_
    obtain ⟨j20, e21, b22, h23⟩ := (h).2 g1
    refine wx_iast (N := 24) F 38 (x_lt (by decide)) (fun _ => rfl) 0 rfl e21 b22 (by omega) dE_makeReady_22 (wx_nm (fun M18 e19 => ?_))
    refine wx_aload_n F 0 dE_makeReady_23 rfl rfl ?_
    refine wx_get (ci := 0) (C := qnE) (T := TE) (N := 17) (v := .ref (a 42)) F 0 (x_lt (by decide)) rfl rfl hiE 3 (by decide) rfl lfE_38 rfl dE_makeReady_24 ?_
    refine wx_iload_n F 2 dE_makeReady_27 rfl rfl ?_
    obtain ⟨j24, e25, b26, h27⟩ := h23 M18 e19
    refine xL_aald F hw e25 b26 dE_makeReady_28 ?_
    refine wx_iload_n F 1 dE_makeReady_29 rfl rfl ?_
    obtain ⟨po28, c29, h30⟩ := h27
    refine wx_callv F (43 + 2 * (j24 + 1)) c29 (x_ltL (i := (j24 + 1)) (by omega)) (x_cL (j24 + 1) _) rfl (cw_V F.1.2.2.2.2 lmE_207 cbL_append rfl rfl ⟨by rw [hR]; exact Nat.le_of_ble_eq_true rfl, by rw [hR]; exact Nat.le_of_ble_eq_true rfl⟩) rfl rfl (Nat.le_of_ble_eq_true rfl) dE_makeReady_30 (fun M32 p33 => ?_)
    exact wx_vret F dE_makeReady_33 (h30 M32 p33)
theorem oE_makeReady {l : Launch} {D : va_G} {cI cZ cL cE : ClassId} {a : Nat → Nat} {w : Nat} {post : MM → Prop} (hJ : IJ (sX D cI cZ cL cE a w)) (hw : w ≤ 4) {M : MM} {x1 x2 : Int32} (h : (¬ x2 = (M 0 0) → (∃ j4 : Nat, x1 = nI j4 ∧ j4 < 24 ∧ (∀ M2 : MM, M2 = mp M 38 j4 (10 + x2) → (∃ j8 : Nat, x2 = nI j8 ∧ j8 < (w + 1) ∧ (∃ po12 : MM → Prop, Cv l (sX D cI cZ cL cE a w) yL_append wL_append rmL_append [.ref (a (43 + 2 * (j8 + 1))), .int x1] M2 po12 ∧ ∀ (M16 : MM), po12 M16 → (post M16)))))) ∧ (x2 = (M 0 0) → (∃ j20 : Nat, x1 = nI j20 ∧ j20 < 24 ∧ (∀ M18 : MM, M18 = mp M 38 j20 20 → (∃ j24 : Nat, x2 = nI j24 ∧ j24 < (w + 1) ∧ (∃ po28 : MM → Prop, Cv l (sX D cI cZ cL cE a w) yL_append wL_append rmL_append [.ref (a (43 + 2 * (j24 + 1))), .int x1] M18 po28 ∧ ∀ (M32 : MM), po28 M32 → (post M32))))))) : Cv l (sX D cI cZ cL cE a w) yE_makeReady wE_makeReady rmE_makeReady [.ref (a 0), .int x1, .int x2] M post := Cv.of (cc := cE_makeReady) (nL := 3) rfl rfl (Nat.le_of_ble_eq_true rfl) hJ (fun G hl hR F => by subst hl; exact sE_makeReady_0 F hw hR h)
set_option maxRecDepth 20000 in
theorem sE_take_0 {G : CX} {D : va_G} {cI cZ cL cE : ClassId} {a : Nat → Nat} {w : Nat} {post : Int32 → MM → Prop} (F : FX G (sX D cI cZ cL cE a w) cE_take 2 qnE (some .int)) (hw : w ≤ 4) (hR : gR G = rmE_take) {M : MM} {x1 : Int32} (h : ∃ j1 : Nat, x1 = nI j1 ∧ j1 < (w + 1) ∧ (((M (43 + 2 * (j1 + 1)) 1) ≤ 0 → (∃ j6 : Nat, (M 0 0) = nI j6 ∧ j6 < (w + 1) ∧ (((M (43 + 2 * (j6 + 1)) 1) ≤ 0 → (∃ po11 : Int32 → MM → Prop, Ci (gl G) (sX D cI cZ cL cE a w) yE_steal wE_steal rmE_steal [.ref (a 0), .int x1] M po11 ∧ ∀ (r14 : Int32) (M15 : MM), po11 r14 M15 → (post r14 M15))) ∧ (¬ (M (43 + 2 * (j6 + 1)) 1) ≤ 0 → (∃ po17 : Int32 → MM → Prop, Ci (gl G) (sX D cI cZ cL cE a w) yL_takeOut wL_takeOut rmL_takeOut [.ref (a (43 + 2 * (j6 + 1))), .int 0] M po17 ∧ ∀ (r20 : Int32) (M21 : MM), po17 r20 M21 → (post r20 M21)))))) ∧ (¬ (M (43 + 2 * (j1 + 1)) 1) ≤ 0 → (∃ po23 : Int32 → MM → Prop, Ci (gl G) (sX D cI cZ cL cE a w) yL_takeOut wL_takeOut rmL_takeOut [.ref (a (43 + 2 * (j1 + 1))), .int ((M (43 + 2 * (j1 + 1)) 1) - 1)] M po23 ∧ ∀ (r26 : Int32) (M27 : MM), po23 r26 M27 → (post r26 M27))))) : wx G (sX D cI cZ cL cE a w) 2 (Qxi G (sX D cI cZ cL cE a w) post) M 0 [(0, .ref (a 0)), (1, .int x1)] [] := by
  refine wx_aload_n F 0 dE_take_0 rfl rfl ?_
  refine wx_get (ci := 0) (C := qnE) (T := TE) (N := 17) (v := .ref (a 42)) F 0 (x_lt (by decide)) rfl rfl hiE 3 (by decide) rfl lfE_38 rfl dE_take_1 ?_
  refine wx_iload_n F 1 dE_take_4 rfl rfl ?_
  obtain ⟨j1, e2, b3, h4⟩ := h
  refine xL_aald F hw e2 b3 dE_take_5 ?_
  refine wx_get (ci := 2) (C := qnL) (T := TL) (N := 2) (v := .int (M (43 + 2 * (j1 + 1)) 1)) F (43 + 2 * (j1 + 1)) (x_ltL (i := (j1 + 1)) (by omega)) (x_cL (j1 + 1) _) rfl hiL 1 (by decide) rfl lfE_210 rfl dE_take_6 ?_
  refine wx_if_le (tgt := 33) F dE_take_9 (by decide) (fun g5 => ?_) (fun g5 => ?_)
  · refine wx_aload_n F 0 dE_take_33 rfl rfl ?_
    refine wx_get (ci := 0) (C := qnE) (T := TE) (N := 17) (v := .ref (a 42)) F 0 (x_lt (by decide)) rfl rfl hiE 3 (by decide) rfl lfE_38 rfl dE_take_34 ?_
    refine wx_aload_n F 0 dE_take_37 rfl rfl ?_
    refine wx_get (ci := 0) (C := qnE) (T := TE) (N := 17) (v := .int (M 0 0)) F 0 (x_lt (by decide)) rfl rfl hiE 0 (by decide) rfl lfE_18 rfl dE_take_38 ?_
    obtain ⟨j6, e7, b8, h9⟩ := (h4).1 g5
    refine xL_aald F hw e7 b8 dE_take_41 ?_
    refine wx_get (ci := 2) (C := qnL) (T := TL) (N := 2) (v := .int (M (43 + 2 * (j6 + 1)) 1)) F (43 + 2 * (j6 + 1)) (x_ltL (i := (j6 + 1)) (by omega)) (x_cL (j6 + 1) _) rfl hiL 1 (by decide) rfl lfE_210 rfl dE_take_42 ?_
    refine wx_if_le (tgt := 62) F dE_take_45 (by decide) (fun g10 => ?_) (fun g10 => ?_)
    · refine wx_aload_n F 0 dE_take_62 rfl rfl ?_
      refine wx_iload_n F 1 dE_take_63 rfl rfl ?_
      obtain ⟨po11, c12, h13⟩ := (h9).1 g10
      refine wx_calli F 0 c12 (x_lt (by decide)) rfl rfl (cw_V F.1.2.2.2.2 lmE_216 cbE_steal rfl rfl ⟨by rw [hR]; exact Nat.le_of_ble_eq_true rfl, by rw [hR]; exact Nat.le_of_ble_eq_true rfl⟩) rfl rfl (Nat.le_of_ble_eq_true rfl) dE_take_64 (fun r14 M15 p16 => ?_)
      exact wx_iret F dE_take_67 (h13 r14 M15 p16)
    · refine wx_aload_n F 0 dE_take_48 rfl rfl ?_
      refine wx_get (ci := 0) (C := qnE) (T := TE) (N := 17) (v := .ref (a 42)) F 0 (x_lt (by decide)) rfl rfl hiE 3 (by decide) rfl lfE_38 rfl dE_take_49 ?_
      refine wx_aload_n F 0 dE_take_52 rfl rfl ?_
      refine wx_get (ci := 0) (C := qnE) (T := TE) (N := 17) (v := .int (M 0 0)) F 0 (x_lt (by decide)) rfl rfl hiE 0 (by decide) rfl lfE_18 rfl dE_take_53 ?_
      refine xL_aald F hw e7 b8 dE_take_56 ?_
      refine wx_iconst (v := 0) F dE_take_57 (by decide) ?_
      obtain ⟨po17, c18, h19⟩ := (h9).2 g10
      refine wx_calli F (43 + 2 * (j6 + 1)) c18 (x_ltL (i := (j6 + 1)) (by omega)) (x_cL (j6 + 1) _) rfl (cw_V F.1.2.2.2.2 lmE_213 cbL_takeOut rfl rfl ⟨by rw [hR]; exact Nat.le_of_ble_eq_true rfl, by rw [hR]; exact Nat.le_of_ble_eq_true rfl⟩) rfl rfl (Nat.le_of_ble_eq_true rfl) dE_take_58 (fun r20 M21 p22 => ?_)
      exact wx_iret F dE_take_61 (h19 r20 M21 p22)
  · refine wx_aload_n F 0 dE_take_12 rfl rfl ?_
    refine wx_get (ci := 0) (C := qnE) (T := TE) (N := 17) (v := .ref (a 42)) F 0 (x_lt (by decide)) rfl rfl hiE 3 (by decide) rfl lfE_38 rfl dE_take_13 ?_
    refine wx_iload_n F 1 dE_take_16 rfl rfl ?_
    refine xL_aald F hw e2 b3 dE_take_17 ?_
    refine wx_aload_n F 0 dE_take_18 rfl rfl ?_
    refine wx_get (ci := 0) (C := qnE) (T := TE) (N := 17) (v := .ref (a 42)) F 0 (x_lt (by decide)) rfl rfl hiE 3 (by decide) rfl lfE_38 rfl dE_take_19 ?_
    refine wx_iload_n F 1 dE_take_22 rfl rfl ?_
    refine xL_aald F hw e2 b3 dE_take_23 ?_
    refine wx_get (ci := 2) (C := qnL) (T := TL) (N := 2) (v := .int (M (43 + 2 * (j1 + 1)) 1)) F (43 + 2 * (j1 + 1)) (x_ltL (i := (j1 + 1)) (by omega)) (x_cL (j1 + 1) _) rfl hiL 1 (by decide) rfl lfE_210 rfl dE_take_24 ?_
    refine wx_iconst (v := 1) F dE_take_27 (by decide) ?_
    refine wx_isub F dE_take_28 ?_
    obtain ⟨po23, c24, h25⟩ := (h4).2 g5
    refine wx_calli F (43 + 2 * (j1 + 1)) c24 (x_ltL (i := (j1 + 1)) (by omega)) (x_cL (j1 + 1) _) rfl (cw_V F.1.2.2.2.2 lmE_213 cbL_takeOut rfl rfl ⟨by rw [hR]; exact Nat.le_of_ble_eq_true rfl, by rw [hR]; exact Nat.le_of_ble_eq_true rfl⟩) rfl rfl (Nat.le_of_ble_eq_true rfl) dE_take_29 (fun r26 M27 p28 => ?_)
    exact wx_iret F dE_take_32 (h25 r26 M27 p28)
theorem oE_take {l : Launch} {D : va_G} {cI cZ cL cE : ClassId} {a : Nat → Nat} {w : Nat} {post : Int32 → MM → Prop} (hJ : IJ (sX D cI cZ cL cE a w)) (hw : w ≤ 4) {M : MM} {x1 : Int32} (h : ∃ j1 : Nat, x1 = nI j1 ∧ j1 < (w + 1) ∧ (((M (43 + 2 * (j1 + 1)) 1) ≤ 0 → (∃ j6 : Nat, (M 0 0) = nI j6 ∧ j6 < (w + 1) ∧ (((M (43 + 2 * (j6 + 1)) 1) ≤ 0 → (∃ po11 : Int32 → MM → Prop, Ci l (sX D cI cZ cL cE a w) yE_steal wE_steal rmE_steal [.ref (a 0), .int x1] M po11 ∧ ∀ (r14 : Int32) (M15 : MM), po11 r14 M15 → (post r14 M15))) ∧ (¬ (M (43 + 2 * (j6 + 1)) 1) ≤ 0 → (∃ po17 : Int32 → MM → Prop, Ci l (sX D cI cZ cL cE a w) yL_takeOut wL_takeOut rmL_takeOut [.ref (a (43 + 2 * (j6 + 1))), .int 0] M po17 ∧ ∀ (r20 : Int32) (M21 : MM), po17 r20 M21 → (post r20 M21)))))) ∧ (¬ (M (43 + 2 * (j1 + 1)) 1) ≤ 0 → (∃ po23 : Int32 → MM → Prop, Ci l (sX D cI cZ cL cE a w) yL_takeOut wL_takeOut rmL_takeOut [.ref (a (43 + 2 * (j1 + 1))), .int ((M (43 + 2 * (j1 + 1)) 1) - 1)] M po23 ∧ ∀ (r26 : Int32) (M27 : MM), po23 r26 M27 → (post r26 M27))))) : Ci l (sX D cI cZ cL cE a w) yE_take wE_take rmE_take [.ref (a 0), .int x1] M post := Ci.of (cc := cE_take) (nL := 2) rfl rfl (Nat.le_of_ble_eq_true rfl) hJ (fun G hl hR F => by subst hl; exact sE_take_0 F hw hR h)
set_option maxRecDepth 20000 in
theorem sE_steal_0 {G : CX} {D : va_G} {cI cZ cL cE : ClassId} {a : Nat → Nat} {w : Nat} {post : Int32 → MM → Prop} (F : FX G (sX D cI cZ cL cE a w) cE_steal 4 qnE (some .int)) (hw : w ≤ 4) (hR : gR G = rmE_steal) {K2 : MM → Int32 → Int32 → Prop} (hK2 : ∀ (M : MM) (x1 x2 : Int32), K2 M x1 x2 → wx G (sX D cI cZ cL cE a w) 4 (Qxi G (sX D cI cZ cL cE a w) post) M 2 [(0, .ref (a 0)), (1, .int x1), (2, .int x2)] []) {M : MM} {x1 : Int32} (h : K2 M x1 1) : wx G (sX D cI cZ cL cE a w) 4 (Qxi G (sX D cI cZ cL cE a w) post) M 0 [(0, .ref (a 0)), (1, .int x1)] [] := by
  refine wx_iconst (v := 1) F dE_steal_0 (by decide) ?_
  refine wx_istore_n (lv' := [(2, .int 1), (0, .ref (a 0)), (1, .int x1)]) F dE_steal_1 rfl (by decide) rfl ?_
  exact wx_lv [1, 2, 0] rfl (hK2 _ _ _ (h))
set_option maxRecDepth 20000 in
theorem sE_steal_2 {G : CX} {D : va_G} {cI cZ cL cE : ClassId} {a : Nat → Nat} {w : Nat} {post : Int32 → MM → Prop} (F : FX G (sX D cI cZ cL cE a w) cE_steal 4 qnE (some .int)) (hw : w ≤ 4) (hR : gR G = rmE_steal) {K2 : MM → Int32 → Int32 → Prop} (hK2 : ∀ (M : MM) (x1 x2 : Int32), K2 M x1 x2 → wx G (sX D cI cZ cL cE a w) 4 (Qxi G (sX D cI cZ cL cE a w) post) M 2 [(0, .ref (a 0)), (1, .int x1), (2, .int x2)] []) {M : MM} {x1 x2 : Int32} (h : ((M 0 0) ≤ x2 → (post (-1) M)) ∧ (¬ (M 0 0) ≤ x2 → (((M 0 0) ≤ (x1 + x2) → (∃ j3 : Nat, ((x1 + x2) - (M 0 0)) = nI j3 ∧ j3 < (w + 1) ∧ (((M (43 + 2 * (j3 + 1)) 1) ≤ 0 → (K2 M x1 (x2 + 1))) ∧ (¬ (M (43 + 2 * (j3 + 1)) 1) ≤ 0 → (∀ M8 : MM, M8 = mp M 0 16 ((M 0 16) + 1) → (∃ po10 : Int32 → MM → Prop, Ci (gl G) (sX D cI cZ cL cE a w) yL_takeOut wL_takeOut rmL_takeOut [.ref (a (43 + 2 * (j3 + 1))), .int 0] M8 po10 ∧ ∀ (r13 : Int32) (M14 : MM), po10 r13 M14 → (post r13 M14))))))) ∧ (¬ (M 0 0) ≤ (x1 + x2) → (∃ j16 : Nat, (x1 + x2) = nI j16 ∧ j16 < (w + 1) ∧ (((M (43 + 2 * (j16 + 1)) 1) ≤ 0 → (K2 M x1 (x2 + 1))) ∧ (¬ (M (43 + 2 * (j16 + 1)) 1) ≤ 0 → (∀ M21 : MM, M21 = mp M 0 16 ((M 0 16) + 1) → (∃ po23 : Int32 → MM → Prop, Ci (gl G) (sX D cI cZ cL cE a w) yL_takeOut wL_takeOut rmL_takeOut [.ref (a (43 + 2 * (j16 + 1))), .int 0] M21 po23 ∧ ∀ (r26 : Int32) (M27 : MM), po23 r26 M27 → (post r26 M27)))))))))) : wx G (sX D cI cZ cL cE a w) 4 (Qxi G (sX D cI cZ cL cE a w) post) M 2 [(0, .ref (a 0)), (1, .int x1), (2, .int x2)] [] := by
  refine wx_iload_n F 2 dE_steal_2 rfl rfl ?_
  refine wx_aload_n F 0 dE_steal_3 rfl rfl ?_
  refine wx_get (ci := 0) (C := qnE) (T := TE) (N := 17) (v := .int (M 0 0)) F 0 (x_lt (by decide)) rfl rfl hiE 0 (by decide) rfl lfE_18 rfl dE_steal_4 ?_
  refine wx_icmp_ge (tgt := 74) F dE_steal_7 (by decide) (fun g1 => ?_) (fun g1 => ?_)
  · refine wx_iconst (v := (-1)) F dE_steal_74 (by decide) ?_
    exact wx_iret F dE_steal_75 ((h).1 g1)
  · refine wx_iload_n F 1 dE_steal_10 rfl rfl ?_
    refine wx_iload_n F 2 dE_steal_11 rfl rfl ?_
    refine wx_iadd F dE_steal_12 ?_
    refine wx_aload_n F 0 dE_steal_13 rfl rfl ?_
    refine wx_get (ci := 0) (C := qnE) (T := TE) (N := 17) (v := .int (M 0 0)) F 0 (x_lt (by decide)) rfl rfl hiE 0 (by decide) rfl lfE_18 rfl dE_steal_14 ?_
    refine wx_icmp_ge (tgt := 26) F dE_steal_17 (by decide) (fun g2 => ?_) (fun g2 => ?_)
    · refine wx_iload_n F 1 dE_steal_26 rfl rfl ?_
      refine wx_iload_n F 2 dE_steal_27 rfl rfl ?_
      refine wx_iadd F dE_steal_28 ?_
      refine wx_aload_n F 0 dE_steal_29 rfl rfl ?_
      refine wx_get (ci := 0) (C := qnE) (T := TE) (N := 17) (v := .int (M 0 0)) F 0 (x_lt (by decide)) rfl rfl hiE 0 (by decide) rfl lfE_18 rfl dE_steal_30 ?_
      refine wx_isub F dE_steal_33 ?_
      refine wx_istore_n (lv' := [(3, .int ((x1 + x2) - (M 0 0))), (0, .ref (a 0)), (1, .int x1), (2, .int x2)]) F dE_steal_34 rfl (by decide) rfl ?_
      refine wx_aload_n F 1 dE_steal_35 rfl rfl ?_
      refine wx_get (ci := 0) (C := qnE) (T := TE) (N := 17) (v := .ref (a 42)) F 0 (x_lt (by decide)) rfl rfl hiE 3 (by decide) rfl lfE_38 rfl dE_steal_36 ?_
      refine wx_iload_n F 0 dE_steal_39 rfl rfl ?_
      obtain ⟨j3, e4, b5, h6⟩ := ((h).2 g1).1 g2
      refine xL_aald F hw e4 b5 dE_steal_40 ?_
      refine wx_get (ci := 2) (C := qnL) (T := TL) (N := 2) (v := .int (M (43 + 2 * (j3 + 1)) 1)) F (43 + 2 * (j3 + 1)) (x_ltL (i := (j3 + 1)) (by omega)) (x_cL (j3 + 1) _) rfl hiL 1 (by decide) rfl lfE_210 rfl dE_steal_41 ?_
      refine wx_if_le (tgt := 68) F dE_steal_44 (by decide) (fun g7 => ?_) (fun g7 => ?_)
      · refine wx_iinc (lv' := [(2, .int (x2 + 1)), (3, .int ((x1 + x2) - (M 0 0))), (0, .ref (a 0)), (1, .int x1)]) F 3 dE_steal_68 rfl (ii1 _) (by decide) rfl ?_
        refine wx_goto (tgt := 2) F dE_steal_71 (by decide) ?_
        exact wx_lv [2, 3, 0] rfl (hK2 _ _ _ ((h6).1 g7))
      · refine wx_aload_n F 1 dE_steal_47 rfl rfl ?_
        refine wx_dup F dE_steal_48 rfl ?_
        refine wx_get (ci := 0) (C := qnE) (T := TE) (N := 17) (v := .int (M 0 16)) F 0 (x_lt (by decide)) rfl rfl hiE 16 (by decide) rfl lfE_126 rfl dE_steal_49 ?_
        refine wx_iconst (v := 1) F dE_steal_52 (by decide) ?_
        refine wx_iadd F dE_steal_53 ?_
        refine wx_put (ci := 0) (C := qnE) (T := TE) (N := 17) (ty := .int) F 0 (x_lt (by decide)) rfl rfl hiE tyE tyE_ok nmE 16 (by decide) rfl lfE_126 rfl (by decide +kernel) rfl rfl (Nat.le_of_ble_eq_true rfl) rfl dE_steal_54 (wx_nm (fun M8 e9 => ?_))
        refine wx_aload_n F 1 dE_steal_57 rfl rfl ?_
        refine wx_get (ci := 0) (C := qnE) (T := TE) (N := 17) (v := .ref (a 42)) F 0 (x_lt (by decide)) rfl rfl hiE 3 (by decide) rfl lfE_38 rfl dE_steal_58 ?_
        refine wx_iload_n F 0 dE_steal_61 rfl rfl ?_
        refine xL_aald F hw e4 b5 dE_steal_62 ?_
        refine wx_iconst (v := 0) F dE_steal_63 (by decide) ?_
        obtain ⟨po10, c11, h12⟩ := ((h6).2 g7) M8 e9
        refine wx_calli F (43 + 2 * (j3 + 1)) c11 (x_ltL (i := (j3 + 1)) (by omega)) (x_cL (j3 + 1) _) rfl (cw_V F.1.2.2.2.2 lmE_213 cbL_takeOut rfl rfl ⟨by rw [hR]; exact Nat.le_of_ble_eq_true rfl, by rw [hR]; exact Nat.le_of_ble_eq_true rfl⟩) rfl rfl (Nat.le_of_ble_eq_true rfl) dE_steal_64 (fun r13 M14 p15 => ?_)
        exact wx_iret F dE_steal_67 (h12 r13 M14 p15)
    · refine wx_iload_n F 1 dE_steal_20 rfl rfl ?_
      refine wx_iload_n F 2 dE_steal_21 rfl rfl ?_
      refine wx_iadd F dE_steal_22 ?_
      refine wx_goto (tgt := 34) F dE_steal_23 (by decide) ?_
      refine wx_istore_n (lv' := [(3, .int (x1 + x2)), (0, .ref (a 0)), (1, .int x1), (2, .int x2)]) F dE_steal_34 rfl (by decide) rfl ?_
      refine wx_aload_n F 1 dE_steal_35 rfl rfl ?_
      refine wx_get (ci := 0) (C := qnE) (T := TE) (N := 17) (v := .ref (a 42)) F 0 (x_lt (by decide)) rfl rfl hiE 3 (by decide) rfl lfE_38 rfl dE_steal_36 ?_
      refine wx_iload_n F 0 dE_steal_39 rfl rfl ?_
      obtain ⟨j16, e17, b18, h19⟩ := ((h).2 g1).2 g2
      refine xL_aald F hw e17 b18 dE_steal_40 ?_
      refine wx_get (ci := 2) (C := qnL) (T := TL) (N := 2) (v := .int (M (43 + 2 * (j16 + 1)) 1)) F (43 + 2 * (j16 + 1)) (x_ltL (i := (j16 + 1)) (by omega)) (x_cL (j16 + 1) _) rfl hiL 1 (by decide) rfl lfE_210 rfl dE_steal_41 ?_
      refine wx_if_le (tgt := 68) F dE_steal_44 (by decide) (fun g20 => ?_) (fun g20 => ?_)
      · refine wx_iinc (lv' := [(2, .int (x2 + 1)), (3, .int (x1 + x2)), (0, .ref (a 0)), (1, .int x1)]) F 3 dE_steal_68 rfl (ii1 _) (by decide) rfl ?_
        refine wx_goto (tgt := 2) F dE_steal_71 (by decide) ?_
        exact wx_lv [2, 3, 0] rfl (hK2 _ _ _ ((h19).1 g20))
      · refine wx_aload_n F 1 dE_steal_47 rfl rfl ?_
        refine wx_dup F dE_steal_48 rfl ?_
        refine wx_get (ci := 0) (C := qnE) (T := TE) (N := 17) (v := .int (M 0 16)) F 0 (x_lt (by decide)) rfl rfl hiE 16 (by decide) rfl lfE_126 rfl dE_steal_49 ?_
        refine wx_iconst (v := 1) F dE_steal_52 (by decide) ?_
        refine wx_iadd F dE_steal_53 ?_
        refine wx_put (ci := 0) (C := qnE) (T := TE) (N := 17) (ty := .int) F 0 (x_lt (by decide)) rfl rfl hiE tyE tyE_ok nmE 16 (by decide) rfl lfE_126 rfl (by decide +kernel) rfl rfl (Nat.le_of_ble_eq_true rfl) rfl dE_steal_54 (wx_nm (fun M21 e22 => ?_))
        refine wx_aload_n F 1 dE_steal_57 rfl rfl ?_
        refine wx_get (ci := 0) (C := qnE) (T := TE) (N := 17) (v := .ref (a 42)) F 0 (x_lt (by decide)) rfl rfl hiE 3 (by decide) rfl lfE_38 rfl dE_steal_58 ?_
        refine wx_iload_n F 0 dE_steal_61 rfl rfl ?_
        refine xL_aald F hw e17 b18 dE_steal_62 ?_
        refine wx_iconst (v := 0) F dE_steal_63 (by decide) ?_
        obtain ⟨po23, c24, h25⟩ := ((h19).2 g20) M21 e22
        refine wx_calli F (43 + 2 * (j16 + 1)) c24 (x_ltL (i := (j16 + 1)) (by omega)) (x_cL (j16 + 1) _) rfl (cw_V F.1.2.2.2.2 lmE_213 cbL_takeOut rfl rfl ⟨by rw [hR]; exact Nat.le_of_ble_eq_true rfl, by rw [hR]; exact Nat.le_of_ble_eq_true rfl⟩) rfl rfl (Nat.le_of_ble_eq_true rfl) dE_steal_64 (fun r26 M27 p28 => ?_)
        exact wx_iret F dE_steal_67 (h25 r26 M27 p28)
theorem oE_steal {l : Launch} {D : va_G} {cI cZ cL cE : ClassId} {a : Nat → Nat} {w : Nat} {post : Int32 → MM → Prop} (hJ : IJ (sX D cI cZ cL cE a w)) {M : MM} {x1 : Int32} (h : ∀ G : CX, gl G = l → gR G = rmE_steal → FX G (sX D cI cZ cL cE a w) cE_steal 4 qnE (some .int) → wx G (sX D cI cZ cL cE a w) 4 (Qxi G (sX D cI cZ cL cE a w) post) M 0 [(0, .ref (a 0)), (1, .int x1)] []) : Ci l (sX D cI cZ cL cE a w) yE_steal wE_steal rmE_steal [.ref (a 0), .int x1] M post := Ci.of (cc := cE_steal) (nL := 4) rfl rfl (Nat.le_of_ble_eq_true rfl) hJ h
set_option maxRecDepth 20000 in
theorem sE_run_0 {G : CX} {D : va_G} {cI cZ cL cE : ClassId} {a : Nat → Nat} {w : Nat} {post : MM → Prop} (F : FX G (sX D cI cZ cL cE a w) cE_run 3 qnE none) (hw : w ≤ 4) (hR : gR G = rmE_run) {M : MM} {x1 x2 : Int32} (h : ∃ j1 : Nat, x1 = nI j1 ∧ j1 < 24 ∧ (∃ po5 : MM → Prop, Cv (gl G) (sX D cI cZ cL cE a w) yP_hold wP_hold rmP_hold [.ref (a 34), .int (M 5 j1)] M po5 ∧ ∀ (M9 : MM), po5 M9 → (∀ M11 : MM, M11 = mp M9 38 j1 (3 + x2) → (∃ j15 : Nat, x2 = nI j15 ∧ j15 < w ∧ (∀ M13 : MM, M13 = mp M11 37 j15 x1 → (∀ M19 : MM, M19 = mp M13 40 j1 ((M13 40 j1) + 1) → (post M19))))))) : wx G (sX D cI cZ cL cE a w) 3 (Qxv G (sX D cI cZ cL cE a w) post) M 0 [(0, .ref (a 0)), (1, .int x1), (2, .int x2)] [] := by
  refine wx_aload_n F 0 dE_run_0 rfl rfl ?_
  refine wx_get (ci := 0) (C := qnE) (T := TE) (N := 17) (v := .ref (a 34)) F 0 (x_lt (by decide)) rfl rfl hiE 2 (by decide) rfl lfE_32 rfl dE_run_1 ?_
  refine wx_aload_n F 0 dE_run_4 rfl rfl ?_
  refine wx_get (ci := 0) (C := qnE) (T := TE) (N := 17) (v := .ref (a 1)) F 0 (x_lt (by decide)) rfl rfl hiE 1 (by decide) rfl lfE_25 rfl dE_run_5 ?_
  refine wx_get (ci := 1) (C := qnG) (T := TG) (N := 9) (v := .ref (a 5)) F 1 (x_lt (by decide)) rfl rfl hiG 4 (by decide) rfl lfE_139 rfl dE_run_8 ?_
  refine wx_iload_n F 1 dE_run_11 rfl rfl ?_
  obtain ⟨j1, e2, b3, h4⟩ := h
  refine wx_iald (N := 24) F 5 (x_lt (by decide)) rfl 0 rfl e2 b3 (by omega) dE_run_12 ?_
  obtain ⟨po5, c6, h7⟩ := h4
  refine wx_callv F 34 c6 (x_lt (by decide)) rfl rfl (cw_V F.1.2.2.2.2 lmE_219 cbP_hold rfl rfl ⟨by rw [hR]; exact Nat.le_of_ble_eq_true rfl, by rw [hR]; exact Nat.le_of_ble_eq_true rfl⟩) rfl rfl (Nat.le_of_ble_eq_true rfl) dE_run_13 (fun M9 p10 => ?_)
  refine wx_aload_n F 0 dE_run_16 rfl rfl ?_
  refine wx_get (ci := 0) (C := qnE) (T := TE) (N := 17) (v := .ref (a 38)) F 0 (x_lt (by decide)) rfl rfl hiE 6 (by decide) rfl lfE_57 rfl dE_run_17 ?_
  refine wx_iload_n F 1 dE_run_20 rfl rfl ?_
  refine wx_iconst (v := 3) F dE_run_21 (by decide) ?_
  refine wx_iload_n F 2 dE_run_22 rfl rfl ?_
  refine wx_iadd F dE_run_23 ?_
  refine wx_iast (N := 24) F 38 (x_lt (by decide)) (fun _ => rfl) 0 rfl e2 b3 (by omega) dE_run_24 (wx_nm (fun M11 e12 => ?_))
  refine wx_aload_n F 0 dE_run_25 rfl rfl ?_
  refine wx_get (ci := 0) (C := qnE) (T := TE) (N := 17) (v := .ref (a 37)) F 0 (x_lt (by decide)) rfl rfl hiE 5 (by decide) rfl lfE_47 rfl dE_run_26 ?_
  refine wx_iload_n F 2 dE_run_29 rfl rfl ?_
  refine wx_iload_n F 1 dE_run_30 rfl rfl ?_
  obtain ⟨j15, e16, b17, h18⟩ := (h7 M9 p10) M11 e12
  refine wx_iast (N := w) F 37 (x_lt (by decide)) (fun _ => rfl) 0 rfl e16 b17 (by omega) dE_run_31 (wx_nm (fun M13 e14 => ?_))
  refine wx_aload_n F 0 dE_run_32 rfl rfl ?_
  refine wx_get (ci := 0) (C := qnE) (T := TE) (N := 17) (v := .ref (a 40)) F 0 (x_lt (by decide)) rfl rfl hiE 8 (by decide) rfl lfE_63 rfl dE_run_33 ?_
  refine wx_iload_n F 1 dE_run_36 rfl rfl ?_
  refine wx_dup2 F dE_run_37 rfl rfl ?_
  refine wx_iald (N := 24) F 40 (x_lt (by decide)) rfl 0 rfl e2 b3 (by omega) dE_run_38 ?_
  refine wx_iconst (v := 1) F dE_run_39 (by decide) ?_
  refine wx_iadd F dE_run_40 ?_
  refine wx_iast (N := 24) F 40 (x_lt (by decide)) (fun _ => rfl) 0 rfl e2 b3 (by omega) dE_run_41 (wx_nm (fun M19 e20 => ?_))
  exact wx_vret F dE_run_42 ((h18 M13 e14) M19 e20)
theorem oE_run {l : Launch} {D : va_G} {cI cZ cL cE : ClassId} {a : Nat → Nat} {w : Nat} {post : MM → Prop} (hJ : IJ (sX D cI cZ cL cE a w)) (hw : w ≤ 4) {M : MM} {x1 x2 : Int32} (h : ∃ j1 : Nat, x1 = nI j1 ∧ j1 < 24 ∧ (∃ po5 : MM → Prop, Cv l (sX D cI cZ cL cE a w) yP_hold wP_hold rmP_hold [.ref (a 34), .int (M 5 j1)] M po5 ∧ ∀ (M9 : MM), po5 M9 → (∀ M11 : MM, M11 = mp M9 38 j1 (3 + x2) → (∃ j15 : Nat, x2 = nI j15 ∧ j15 < w ∧ (∀ M13 : MM, M13 = mp M11 37 j15 x1 → (∀ M19 : MM, M19 = mp M13 40 j1 ((M13 40 j1) + 1) → (post M19))))))) : Cv l (sX D cI cZ cL cE a w) yE_run wE_run rmE_run [.ref (a 0), .int x1, .int x2] M post := Cv.of (cc := cE_run) (nL := 3) rfl rfl (Nat.le_of_ble_eq_true rfl) hJ (fun G hl hR F => by subst hl; exact sE_run_0 F hw hR h)
set_option maxRecDepth 20000 in
theorem sE_park_0 {G : CX} {D : va_G} {cI cZ cL cE : ClassId} {a : Nat → Nat} {w : Nat} {post : MM → Prop} (F : FX G (sX D cI cZ cL cE a w) cE_park 2 qnE none) (hw : w ≤ 4) (hR : gR G = rmE_park) {M : MM} {x1 : Int32} (h : ∃ j3 : Nat, x1 = nI j3 ∧ j3 < 24 ∧ (∀ M1 : MM, M1 = mp M 38 j3 1 → (∃ po7 : MM → Prop, Cv (gl G) (sX D cI cZ cL cE a w) yL_append wL_append rmL_append [.ref (a (43 + 2 * 0)), .int x1] M1 po7 ∧ ∀ (M11 : MM), po7 M11 → (post M11)))) : wx G (sX D cI cZ cL cE a w) 2 (Qxv G (sX D cI cZ cL cE a w) post) M 0 [(0, .ref (a 0)), (1, .int x1)] [] := by
  refine wx_aload_n F 0 dE_park_0 rfl rfl ?_
  refine wx_get (ci := 0) (C := qnE) (T := TE) (N := 17) (v := .ref (a 38)) F 0 (x_lt (by decide)) rfl rfl hiE 6 (by decide) rfl lfE_57 rfl dE_park_1 ?_
  refine wx_iload_n F 1 dE_park_4 rfl rfl ?_
  refine wx_iconst (v := 1) F dE_park_5 (by decide) ?_
  obtain ⟨j3, e4, b5, h6⟩ := h
  refine wx_iast (N := 24) F 38 (x_lt (by decide)) (fun _ => rfl) 0 rfl e4 b5 (by omega) dE_park_6 (wx_nm (fun M1 e2 => ?_))
  refine wx_aload_n F 0 dE_park_7 rfl rfl ?_
  refine wx_get (ci := 0) (C := qnE) (T := TE) (N := 17) (v := .ref (a (43 + 2 * 0))) F 0 (x_lt (by decide)) rfl rfl hiE 4 (by decide) rfl lfE_43 rfl dE_park_8 ?_
  refine wx_iload_n F 1 dE_park_11 rfl rfl ?_
  obtain ⟨po7, c8, h9⟩ := h6 M1 e2
  refine wx_callv F (43 + 2 * 0) c8 (x_ltL (i := 0) (by omega)) (x_cL 0 _) rfl (cw_V F.1.2.2.2.2 lmE_207 cbL_append rfl rfl ⟨by rw [hR]; exact Nat.le_of_ble_eq_true rfl, by rw [hR]; exact Nat.le_of_ble_eq_true rfl⟩) rfl rfl (Nat.le_of_ble_eq_true rfl) dE_park_12 (fun M11 p12 => ?_)
  exact wx_vret F dE_park_15 (h9 M11 p12)
theorem oE_park {l : Launch} {D : va_G} {cI cZ cL cE : ClassId} {a : Nat → Nat} {w : Nat} {post : MM → Prop} (hJ : IJ (sX D cI cZ cL cE a w)) (hw : w ≤ 4) {M : MM} {x1 : Int32} (h : ∃ j3 : Nat, x1 = nI j3 ∧ j3 < 24 ∧ (∀ M1 : MM, M1 = mp M 38 j3 1 → (∃ po7 : MM → Prop, Cv l (sX D cI cZ cL cE a w) yL_append wL_append rmL_append [.ref (a (43 + 2 * 0)), .int x1] M1 po7 ∧ ∀ (M11 : MM), po7 M11 → (post M11)))) : Cv l (sX D cI cZ cL cE a w) yE_park wE_park rmE_park [.ref (a 0), .int x1] M post := Cv.of (cc := cE_park) (nL := 2) rfl rfl (Nat.le_of_ble_eq_true rfl) hJ (fun G hl hR F => by subst hl; exact sE_park_0 F hw hR h)
set_option maxRecDepth 20000 in
theorem sE_leaveBody_0 {G : CX} {D : va_G} {cI cZ cL cE : ClassId} {a : Nat → Nat} {w : Nat} {post : Int32 → MM → Prop} (F : FX G (sX D cI cZ cL cE a w) cE_leaveBody 3 qnE (some .int)) (hw : w ≤ 4) (hR : gR G = rmE_leaveBody) {M : MM} {x1 : Int32} (h : ∃ j1 : Nat, x1 = nI j1 ∧ j1 < w ∧ (∀ M5 : MM, M5 = mp M 37 j1 (-1) → (∃ j7 : Nat, (M 37 j1) = nI j7 ∧ j7 < 24 ∧ (∃ po11 : MM → Prop, Cv (gl G) (sX D cI cZ cL cE a w) yP_giveBack wP_giveBack rmP_giveBack [.ref (a 34), .int (M5 5 j7)] M5 po11 ∧ ∀ (M15 : MM), po11 M15 → (∃ po17 : MM → Prop, Cv (gl G) (sX D cI cZ cL cE a w) yE_wakeParked wE_wakeParked rmE_wakeParked [.ref (a 0), .int (M15 5 j7)] M15 po17 ∧ ∀ (M21 : MM), po17 M21 → (post (M 37 j1) M21)))))) : wx G (sX D cI cZ cL cE a w) 3 (Qxi G (sX D cI cZ cL cE a w) post) M 0 [(0, .ref (a 0)), (1, .int x1)] [] := by
  refine wx_aload_n F 0 dE_leaveBody_0 rfl rfl ?_
  refine wx_get (ci := 0) (C := qnE) (T := TE) (N := 17) (v := .ref (a 37)) F 0 (x_lt (by decide)) rfl rfl hiE 5 (by decide) rfl lfE_47 rfl dE_leaveBody_1 ?_
  refine wx_iload_n F 1 dE_leaveBody_4 rfl rfl ?_
  obtain ⟨j1, e2, b3, h4⟩ := h
  refine wx_iald (N := w) F 37 (x_lt (by decide)) rfl 0 rfl e2 b3 (by omega) dE_leaveBody_5 ?_
  refine wx_istore_n (lv' := [(2, .int (M 37 j1)), (0, .ref (a 0)), (1, .int x1)]) F dE_leaveBody_6 rfl (by decide) rfl ?_
  refine wx_aload_n F 1 dE_leaveBody_7 rfl rfl ?_
  refine wx_get (ci := 0) (C := qnE) (T := TE) (N := 17) (v := .ref (a 37)) F 0 (x_lt (by decide)) rfl rfl hiE 5 (by decide) rfl lfE_47 rfl dE_leaveBody_8 ?_
  refine wx_iload_n F 2 dE_leaveBody_11 rfl rfl ?_
  refine wx_iconst (v := (-1)) F dE_leaveBody_12 (by decide) ?_
  refine wx_iast (N := w) F 37 (x_lt (by decide)) (fun _ => rfl) 0 rfl e2 b3 (by omega) dE_leaveBody_13 (wx_nm (fun M5 e6 => ?_))
  refine wx_aload_n F 1 dE_leaveBody_14 rfl rfl ?_
  refine wx_get (ci := 0) (C := qnE) (T := TE) (N := 17) (v := .ref (a 34)) F 0 (x_lt (by decide)) rfl rfl hiE 2 (by decide) rfl lfE_32 rfl dE_leaveBody_15 ?_
  refine wx_aload_n F 1 dE_leaveBody_18 rfl rfl ?_
  refine wx_get (ci := 0) (C := qnE) (T := TE) (N := 17) (v := .ref (a 1)) F 0 (x_lt (by decide)) rfl rfl hiE 1 (by decide) rfl lfE_25 rfl dE_leaveBody_19 ?_
  refine wx_get (ci := 1) (C := qnG) (T := TG) (N := 9) (v := .ref (a 5)) F 1 (x_lt (by decide)) rfl rfl hiG 4 (by decide) rfl lfE_139 rfl dE_leaveBody_22 ?_
  refine wx_iload_n F 0 dE_leaveBody_25 rfl rfl ?_
  obtain ⟨j7, e8, b9, h10⟩ := h4 M5 e6
  refine wx_iald (N := 24) F 5 (x_lt (by decide)) rfl 0 rfl e8 b9 (by omega) dE_leaveBody_26 ?_
  obtain ⟨po11, c12, h13⟩ := h10
  refine wx_callv F 34 c12 (x_lt (by decide)) rfl rfl (cw_V F.1.2.2.2.2 lmE_222 cbP_giveBack rfl rfl ⟨by rw [hR]; exact Nat.le_of_ble_eq_true rfl, by rw [hR]; exact Nat.le_of_ble_eq_true rfl⟩) rfl rfl (Nat.le_of_ble_eq_true rfl) dE_leaveBody_27 (fun M15 p16 => ?_)
  refine wx_aload_n F 1 dE_leaveBody_30 rfl rfl ?_
  refine wx_aload_n F 1 dE_leaveBody_31 rfl rfl ?_
  refine wx_get (ci := 0) (C := qnE) (T := TE) (N := 17) (v := .ref (a 1)) F 0 (x_lt (by decide)) rfl rfl hiE 1 (by decide) rfl lfE_25 rfl dE_leaveBody_32 ?_
  refine wx_get (ci := 1) (C := qnG) (T := TG) (N := 9) (v := .ref (a 5)) F 1 (x_lt (by decide)) rfl rfl hiG 4 (by decide) rfl lfE_139 rfl dE_leaveBody_35 ?_
  refine wx_iload_n F 0 dE_leaveBody_38 rfl rfl ?_
  refine wx_iald (N := 24) F 5 (x_lt (by decide)) rfl 0 rfl e8 b9 (by omega) dE_leaveBody_39 ?_
  obtain ⟨po17, c18, h19⟩ := h13 M15 p16
  refine wx_callv F 0 c18 (x_lt (by decide)) rfl rfl (cw_V F.1.2.2.2.2 lmE_225 cbE_wakeParked rfl rfl ⟨by rw [hR]; exact Nat.le_of_ble_eq_true rfl, by rw [hR]; exact Nat.le_of_ble_eq_true rfl⟩) rfl rfl (Nat.le_of_ble_eq_true rfl) dE_leaveBody_40 (fun M21 p22 => ?_)
  refine wx_iload_n F 0 dE_leaveBody_43 rfl rfl ?_
  exact wx_iret F dE_leaveBody_44 (h19 M21 p22)
theorem oE_leaveBody {l : Launch} {D : va_G} {cI cZ cL cE : ClassId} {a : Nat → Nat} {w : Nat} {post : Int32 → MM → Prop} (hJ : IJ (sX D cI cZ cL cE a w)) (hw : w ≤ 4) {M : MM} {x1 : Int32} (h : ∃ j1 : Nat, x1 = nI j1 ∧ j1 < w ∧ (∀ M5 : MM, M5 = mp M 37 j1 (-1) → (∃ j7 : Nat, (M 37 j1) = nI j7 ∧ j7 < 24 ∧ (∃ po11 : MM → Prop, Cv l (sX D cI cZ cL cE a w) yP_giveBack wP_giveBack rmP_giveBack [.ref (a 34), .int (M5 5 j7)] M5 po11 ∧ ∀ (M15 : MM), po11 M15 → (∃ po17 : MM → Prop, Cv l (sX D cI cZ cL cE a w) yE_wakeParked wE_wakeParked rmE_wakeParked [.ref (a 0), .int (M15 5 j7)] M15 po17 ∧ ∀ (M21 : MM), po17 M21 → (post (M 37 j1) M21)))))) : Ci l (sX D cI cZ cL cE a w) yE_leaveBody wE_leaveBody rmE_leaveBody [.ref (a 0), .int x1] M post := Ci.of (cc := cE_leaveBody) (nL := 3) rfl rfl (Nat.le_of_ble_eq_true rfl) hJ (fun G hl hR F => by subst hl; exact sE_leaveBody_0 F hw hR h)
set_option maxRecDepth 20000 in
theorem sE_wakeParked_0 {G : CX} {D : va_G} {cI cZ cL cE : ClassId} {a : Nat → Nat} {w : Nat} {post : MM → Prop} (F : FX G (sX D cI cZ cL cE a w) cE_wakeParked 5 qnE none) (hw : w ≤ 4) (hR : gR G = rmE_wakeParked) {K4 : MM → Int32 → Int32 → Int32 → Prop} (hK4 : ∀ (M : MM) (x1 x2 x3 : Int32), K4 M x1 x2 x3 → wx G (sX D cI cZ cL cE a w) 5 (Qxv G (sX D cI cZ cL cE a w) post) M 4 [(0, .ref (a 0)), (1, .int x1), (2, .int x2), (3, .int x3)] []) {M : MM} {x1 : Int32} (h : K4 M x1 0 0) : wx G (sX D cI cZ cL cE a w) 5 (Qxv G (sX D cI cZ cL cE a w) post) M 0 [(0, .ref (a 0)), (1, .int x1)] [] := by
  refine wx_iconst (v := 0) F dE_wakeParked_0 (by decide) ?_
  refine wx_istore_n (lv' := [(2, .int 0), (0, .ref (a 0)), (1, .int x1)]) F dE_wakeParked_1 rfl (by decide) rfl ?_
  refine wx_iconst (v := 0) F dE_wakeParked_2 (by decide) ?_
  refine wx_istore_n (lv' := [(3, .int 0), (2, .int 0), (0, .ref (a 0)), (1, .int x1)]) F dE_wakeParked_3 rfl (by decide) rfl ?_
  exact wx_lv [2, 3, 1, 0] rfl (hK4 _ _ _ _ (h))
set_option maxRecDepth 20000 in
theorem sE_wakeParked_4 {G : CX} {D : va_G} {cI cZ cL cE : ClassId} {a : Nat → Nat} {w : Nat} {post : MM → Prop} (F : FX G (sX D cI cZ cL cE a w) cE_wakeParked 5 qnE none) (hw : w ≤ 4) (hR : gR G = rmE_wakeParked) {K4 : MM → Int32 → Int32 → Int32 → Prop} (hK4 : ∀ (M : MM) (x1 x2 x3 : Int32), K4 M x1 x2 x3 → wx G (sX D cI cZ cL cE a w) 5 (Qxv G (sX D cI cZ cL cE a w) post) M 4 [(0, .ref (a 0)), (1, .int x1), (2, .int x2), (3, .int x3)] []) {M : MM} {x1 x2 x3 : Int32} (h : ((M (43 + 2 * 0) 1) ≤ x3 → (∀ M2 : MM, M2 = mp M (43 + 2 * 0) 1 x2 → (post M2))) ∧ (¬ (M (43 + 2 * 0) 1) ≤ x3 → (∃ j4 : Nat, x3 = nI j4 ∧ j4 < 24 ∧ (∃ j8 : Nat, (M ((43 + 2 * 0) + 1) j4) = nI j8 ∧ j8 < 24 ∧ ((((M 5 j8) &&& x1) = 0 → (∃ j15 : Nat, x2 = nI j15 ∧ j15 < 24 ∧ (∀ M13 : MM, M13 = mp M ((43 + 2 * 0) + 1) j15 (M ((43 + 2 * 0) + 1) j4) → (K4 M13 x1 (x2 + 1) (x3 + 1))))) ∧ (¬ ((M 5 j8) &&& x1) = 0 → (∃ po19 : MM → Prop, Cv (gl G) (sX D cI cZ cL cE a w) yE_makeReady wE_makeReady rmE_makeReady [.ref (a 0), .int (M ((43 + 2 * 0) + 1) j4), .int (M 0 0)] M po19 ∧ ∀ (M23 : MM), po19 M23 → (K4 M23 x1 x2 (x3 + 1))))))))) : wx G (sX D cI cZ cL cE a w) 5 (Qxv G (sX D cI cZ cL cE a w) post) M 4 [(0, .ref (a 0)), (1, .int x1), (2, .int x2), (3, .int x3)] [] := by
  refine wx_iload_n F 3 dE_wakeParked_4 rfl rfl ?_
  refine wx_aload_n F 0 dE_wakeParked_5 rfl rfl ?_
  refine wx_get (ci := 0) (C := qnE) (T := TE) (N := 17) (v := .ref (a (43 + 2 * 0))) F 0 (x_lt (by decide)) rfl rfl hiE 4 (by decide) rfl lfE_43 rfl dE_wakeParked_6 ?_
  refine wx_get (ci := 2) (C := qnL) (T := TL) (N := 2) (v := .int (M (43 + 2 * 0) 1)) F (43 + 2 * 0) (x_ltL (i := 0) (by omega)) (x_cL 0 _) rfl hiL 1 (by decide) rfl lfE_210 rfl dE_wakeParked_9 ?_
  refine wx_icmp_ge (tgt := 74) F dE_wakeParked_12 (by decide) (fun g1 => ?_) (fun g1 => ?_)
  · refine wx_aload_n F 0 dE_wakeParked_74 rfl rfl ?_
    refine wx_get (ci := 0) (C := qnE) (T := TE) (N := 17) (v := .ref (a (43 + 2 * 0))) F 0 (x_lt (by decide)) rfl rfl hiE 4 (by decide) rfl lfE_43 rfl dE_wakeParked_75 ?_
    refine wx_iload_n F 2 dE_wakeParked_78 rfl rfl ?_
    refine wx_put (ci := 2) (C := qnL) (T := TL) (N := 2) (ty := .int) F (43 + 2 * 0) (x_ltL (i := 0) (by omega)) (x_cL 0 _) rfl hiL tyL tyL_ok nmL 1 (by decide) rfl lfE_210 rfl (by decide +kernel) rfl rfl (Nat.le_of_ble_eq_true rfl) (x_cL 0 _) dE_wakeParked_79 (wx_nm (fun M2 e3 => ?_))
    exact wx_vret F dE_wakeParked_82 (((h).1 g1) M2 e3)
  · refine wx_aload_n F 0 dE_wakeParked_15 rfl rfl ?_
    refine wx_get (ci := 0) (C := qnE) (T := TE) (N := 17) (v := .ref (a (43 + 2 * 0))) F 0 (x_lt (by decide)) rfl rfl hiE 4 (by decide) rfl lfE_43 rfl dE_wakeParked_16 ?_
    refine wx_get (ci := 2) (C := qnL) (T := TL) (N := 2) (v := .ref (a ((43 + 2 * 0) + 1))) F (43 + 2 * 0) (x_ltL (i := 0) (by omega)) (x_cL 0 _) rfl hiL 0 (by decide) rfl lfE_228 rfl dE_wakeParked_19 ?_
    refine wx_iload_n F 3 dE_wakeParked_22 rfl rfl ?_
    obtain ⟨j4, e5, b6, h7⟩ := (h).2 g1
    refine wx_iald (N := 24) F ((43 + 2 * 0) + 1) (x_ltT (i := 0) (by omega)) (x_cT 0 _) 0 rfl e5 b6 (by omega) dE_wakeParked_23 ?_
    refine wx_istore (lv' := [(4, .int (M ((43 + 2 * 0) + 1) j4)), (0, .ref (a 0)), (1, .int x1), (2, .int x2), (3, .int x3)]) F dE_wakeParked_24 (by decide) rfl ?_
    refine wx_aload_n F 1 dE_wakeParked_26 rfl rfl ?_
    refine wx_get (ci := 0) (C := qnE) (T := TE) (N := 17) (v := .ref (a 1)) F 0 (x_lt (by decide)) rfl rfl hiE 1 (by decide) rfl lfE_25 rfl dE_wakeParked_27 ?_
    refine wx_get (ci := 1) (C := qnG) (T := TG) (N := 9) (v := .ref (a 5)) F 1 (x_lt (by decide)) rfl rfl hiG 4 (by decide) rfl lfE_139 rfl dE_wakeParked_30 ?_
    refine wx_iload F 0 dE_wakeParked_33 rfl ?_
    obtain ⟨j8, e9, b10, h11⟩ := h7
    refine wx_iald (N := 24) F 5 (x_lt (by decide)) rfl 0 rfl e9 b10 (by omega) dE_wakeParked_35 ?_
    refine wx_iload_n F 2 dE_wakeParked_36 rfl rfl ?_
    refine wx_iand F dE_wakeParked_37 ?_
    refine wx_if_eq (tgt := 54) F dE_wakeParked_38 (by decide) (fun g12 => ?_) (fun g12 => ?_)
    · refine wx_aload_n F 1 dE_wakeParked_54 rfl rfl ?_
      refine wx_get (ci := 0) (C := qnE) (T := TE) (N := 17) (v := .ref (a (43 + 2 * 0))) F 0 (x_lt (by decide)) rfl rfl hiE 4 (by decide) rfl lfE_43 rfl dE_wakeParked_55 ?_
      refine wx_get (ci := 2) (C := qnL) (T := TL) (N := 2) (v := .ref (a ((43 + 2 * 0) + 1))) F (43 + 2 * 0) (x_ltL (i := 0) (by omega)) (x_cL 0 _) rfl hiL 0 (by decide) rfl lfE_228 rfl dE_wakeParked_58 ?_
      refine wx_iload_n F 3 dE_wakeParked_61 rfl rfl ?_
      refine wx_iload F 0 dE_wakeParked_62 rfl ?_
      obtain ⟨j15, e16, b17, h18⟩ := (h11).1 g12
      refine wx_iast (N := 24) F ((43 + 2 * 0) + 1) (x_ltT (i := 0) (by omega)) (fun _ => (x_cT 0 _)) 0 rfl e16 b17 (by omega) dE_wakeParked_64 (wx_nm (fun M13 e14 => ?_))
      refine wx_iinc (lv' := [(2, .int (x2 + 1)), (4, .int (M ((43 + 2 * 0) + 1) j4)), (0, .ref (a 0)), (1, .int x1), (3, .int x3)]) F 3 dE_wakeParked_65 rfl (ii1 _) (by decide) rfl ?_
      refine wx_iinc (lv' := [(3, .int (x3 + 1)), (2, .int (x2 + 1)), (4, .int (M ((43 + 2 * 0) + 1) j4)), (0, .ref (a 0)), (1, .int x1)]) F 4 dE_wakeParked_68 rfl (ii1 _) (by decide) rfl ?_
      refine wx_goto (tgt := 4) F dE_wakeParked_71 (by decide) ?_
      exact wx_lv [3, 4, 1, 0] rfl (hK4 _ _ _ _ (h18 M13 e14))
    · refine wx_aload_n F 1 dE_wakeParked_41 rfl rfl ?_
      refine wx_iload F 0 dE_wakeParked_42 rfl ?_
      refine wx_aload_n F 1 dE_wakeParked_44 rfl rfl ?_
      refine wx_get (ci := 0) (C := qnE) (T := TE) (N := 17) (v := .int (M 0 0)) F 0 (x_lt (by decide)) rfl rfl hiE 0 (by decide) rfl lfE_18 rfl dE_wakeParked_45 ?_
      obtain ⟨po19, c20, h21⟩ := (h11).2 g12
      refine wx_callv F 0 c20 (x_lt (by decide)) rfl rfl (cw_V F.1.2.2.2.2 lmE_204 cbE_makeReady rfl rfl ⟨by rw [hR]; exact Nat.le_of_ble_eq_true rfl, by rw [hR]; exact Nat.le_of_ble_eq_true rfl⟩) rfl rfl (Nat.le_of_ble_eq_true rfl) dE_wakeParked_48 (fun M23 p24 => ?_)
      refine wx_goto (tgt := 68) F dE_wakeParked_51 (by decide) ?_
      refine wx_iinc (lv' := [(3, .int (x3 + 1)), (4, .int (M ((43 + 2 * 0) + 1) j4)), (0, .ref (a 0)), (1, .int x1), (2, .int x2)]) F 4 dE_wakeParked_68 rfl (ii1 _) (by decide) rfl ?_
      refine wx_goto (tgt := 4) F dE_wakeParked_71 (by decide) ?_
      exact wx_lv [2, 3, 4, 0] rfl (hK4 _ _ _ _ (h21 M23 p24))
theorem oE_wakeParked {l : Launch} {D : va_G} {cI cZ cL cE : ClassId} {a : Nat → Nat} {w : Nat} {post : MM → Prop} (hJ : IJ (sX D cI cZ cL cE a w)) {M : MM} {x1 : Int32} (h : ∀ G : CX, gl G = l → gR G = rmE_wakeParked → FX G (sX D cI cZ cL cE a w) cE_wakeParked 5 qnE none → wx G (sX D cI cZ cL cE a w) 5 (Qxv G (sX D cI cZ cL cE a w) post) M 0 [(0, .ref (a 0)), (1, .int x1)] []) : Cv l (sX D cI cZ cL cE a w) yE_wakeParked wE_wakeParked rmE_wakeParked [.ref (a 0), .int x1] M post := Cv.of (cc := cE_wakeParked) (nL := 5) rfl rfl (Nat.le_of_ble_eq_true rfl) hJ h
set_option maxRecDepth 20000 in
theorem sE_spawn_0 {G : CX} {D : va_G} {cI cZ cL cE : ClassId} {a : Nat → Nat} {w : Nat} {post : MM → Prop} (F : FX G (sX D cI cZ cL cE a w) cE_spawn 4 qnE none) (hw : w ≤ 4) (hR : gR G = rmE_spawn) {K9 : MM → Int32 → Int32 → Int32 → Prop} (hK9 : ∀ (M : MM) (x1 x2 x3 : Int32), K9 M x1 x2 x3 → wx G (sX D cI cZ cL cE a w) 4 (Qxv G (sX D cI cZ cL cE a w) post) M 9 [(0, .ref (a 0)), (1, .int x1), (2, .int x2), (3, .int x3)] []) {M : MM} {x1 x2 : Int32} (h : ∃ j3 : Nat, x1 = nI j3 ∧ j3 < 24 ∧ (∀ M1 : MM, M1 = mp M 41 j3 0 → (K9 M1 x1 x2 0))) : wx G (sX D cI cZ cL cE a w) 4 (Qxv G (sX D cI cZ cL cE a w) post) M 0 [(0, .ref (a 0)), (1, .int x1), (2, .int x2)] [] := by
  refine wx_aload_n F 0 dE_spawn_0 rfl rfl ?_
  refine wx_get (ci := 0) (C := qnE) (T := TE) (N := 17) (v := .ref (a 41)) F 0 (x_lt (by decide)) rfl rfl hiE 9 (by decide) rfl lfE_66 rfl dE_spawn_1 ?_
  refine wx_iload_n F 1 dE_spawn_4 rfl rfl ?_
  refine wx_iconst (v := 0) F dE_spawn_5 (by decide) ?_
  obtain ⟨j3, e4, b5, h6⟩ := h
  refine wx_zast (N := 24) F 41 (x_lt (by decide)) (fun _ => rfl) 1 rfl e4 b5 (by omega) rfl dE_spawn_6 (wx_nm (fun M1 e2 => ?_))
  refine wx_iconst (v := 0) F dE_spawn_7 (by decide) ?_
  refine wx_istore_n (lv' := [(3, .int 0), (0, .ref (a 0)), (1, .int x1), (2, .int x2)]) F dE_spawn_8 rfl (by decide) rfl ?_
  exact wx_lv [1, 2, 3, 0] rfl (hK9 _ _ _ _ (h6 M1 e2))
set_option maxRecDepth 20000 in
theorem sE_spawn_9 {G : CX} {D : va_G} {cI cZ cL cE : ClassId} {a : Nat → Nat} {w : Nat} {post : MM → Prop} (F : FX G (sX D cI cZ cL cE a w) cE_spawn 4 qnE none) (hw : w ≤ 4) (hR : gR G = rmE_spawn) {K9 : MM → Int32 → Int32 → Int32 → Prop} (hK9 : ∀ (M : MM) (x1 x2 x3 : Int32), K9 M x1 x2 x3 → wx G (sX D cI cZ cL cE a w) 4 (Qxv G (sX D cI cZ cL cE a w) post) M 9 [(0, .ref (a 0)), (1, .int x1), (2, .int x2), (3, .int x3)] []) {M : MM} {x1 x2 x3 : Int32} (h : ((M 1 0) ≤ x3 → (∃ po2 : MM → Prop, Cv (gl G) (sX D cI cZ cL cE a w) yE_sendToSources wE_sendToSources rmE_sendToSources [.ref (a 0), .int x1, .int x2] M po2 ∧ ∀ (M6 : MM), po2 M6 → (post M6))) ∧ (¬ (M 1 0) ≤ x3 → (∃ j8 : Nat, x3 = nI j8 ∧ j8 < 24 ∧ ((¬ (M 3 j8) = x1 → (K9 M x1 x2 (x3 + 1))) ∧ ((M 3 j8) = x1 → (∀ M13 : MM, M13 = mp M 39 j8 0 → (K9 M13 x1 x2 (x3 + 1)))))))) : wx G (sX D cI cZ cL cE a w) 4 (Qxv G (sX D cI cZ cL cE a w) post) M 9 [(0, .ref (a 0)), (1, .int x1), (2, .int x2), (3, .int x3)] [] := by
  refine wx_iload_n F 3 dE_spawn_9 rfl rfl ?_
  refine wx_aload_n F 0 dE_spawn_10 rfl rfl ?_
  refine wx_get (ci := 0) (C := qnE) (T := TE) (N := 17) (v := .ref (a 1)) F 0 (x_lt (by decide)) rfl rfl hiE 1 (by decide) rfl lfE_25 rfl dE_spawn_11 ?_
  refine wx_get (ci := 1) (C := qnG) (T := TG) (N := 9) (v := .int (M 1 0)) F 1 (x_lt (by decide)) rfl rfl hiG 0 (by decide) rfl lfE_100 rfl dE_spawn_14 ?_
  refine wx_icmp_ge (tgt := 46) F dE_spawn_17 (by decide) (fun g1 => ?_) (fun g1 => ?_)
  · refine wx_aload_n F 0 dE_spawn_46 rfl rfl ?_
    refine wx_iload_n F 1 dE_spawn_47 rfl rfl ?_
    refine wx_iload_n F 2 dE_spawn_48 rfl rfl ?_
    obtain ⟨po2, c3, h4⟩ := (h).1 g1
    refine wx_callv F 0 c3 (x_lt (by decide)) rfl rfl (cw_V F.1.2.2.2.2 lmE_189 cbE_sendToSources rfl rfl ⟨by rw [hR]; exact Nat.le_of_ble_eq_true rfl, by rw [hR]; exact Nat.le_of_ble_eq_true rfl⟩) rfl rfl (Nat.le_of_ble_eq_true rfl) dE_spawn_49 (fun M6 p7 => ?_)
    exact wx_vret F dE_spawn_52 (h4 M6 p7)
  · refine wx_aload_n F 0 dE_spawn_20 rfl rfl ?_
    refine wx_get (ci := 0) (C := qnE) (T := TE) (N := 17) (v := .ref (a 1)) F 0 (x_lt (by decide)) rfl rfl hiE 1 (by decide) rfl lfE_25 rfl dE_spawn_21 ?_
    refine wx_get (ci := 1) (C := qnG) (T := TG) (N := 9) (v := .ref (a 3)) F 1 (x_lt (by decide)) rfl rfl hiG 2 (by decide) rfl lfE_195 rfl dE_spawn_24 ?_
    refine wx_iload_n F 3 dE_spawn_27 rfl rfl ?_
    obtain ⟨j8, e9, b10, h11⟩ := (h).2 g1
    refine wx_iald (N := 24) F 3 (x_lt (by decide)) rfl 0 rfl e9 b10 (by omega) dE_spawn_28 ?_
    refine wx_iload_n F 1 dE_spawn_29 rfl rfl ?_
    refine wx_icmp_ne (tgt := 40) F dE_spawn_30 (by decide) (fun g12 => ?_) (fun g12 => ?_)
    · refine wx_iinc (lv' := [(3, .int (x3 + 1)), (0, .ref (a 0)), (1, .int x1), (2, .int x2)]) F 3 dE_spawn_40 rfl (ii1 _) (by decide) rfl ?_
      refine wx_goto (tgt := 9) F dE_spawn_43 (by decide) ?_
      exact wx_lv [1, 2, 3, 0] rfl (hK9 _ _ _ _ ((h11).1 g12))
    · refine wx_aload_n F 0 dE_spawn_33 rfl rfl ?_
      refine wx_get (ci := 0) (C := qnE) (T := TE) (N := 17) (v := .ref (a 39)) F 0 (x_lt (by decide)) rfl rfl hiE 7 (by decide) rfl lfE_60 rfl dE_spawn_34 ?_
      refine wx_iload_n F 3 dE_spawn_37 rfl rfl ?_
      refine wx_iconst (v := 0) F dE_spawn_38 (by decide) ?_
      refine wx_iast (N := 24) F 39 (x_lt (by decide)) (fun _ => rfl) 0 rfl e9 b10 (by omega) dE_spawn_39 (wx_nm (fun M13 e14 => ?_))
      refine wx_iinc (lv' := [(3, .int (x3 + 1)), (0, .ref (a 0)), (1, .int x1), (2, .int x2)]) F 3 dE_spawn_40 rfl (ii1 _) (by decide) rfl ?_
      refine wx_goto (tgt := 9) F dE_spawn_43 (by decide) ?_
      exact wx_lv [1, 2, 3, 0] rfl (hK9 _ _ _ _ (((h11).2 g12) M13 e14))
theorem oE_spawn {l : Launch} {D : va_G} {cI cZ cL cE : ClassId} {a : Nat → Nat} {w : Nat} {post : MM → Prop} (hJ : IJ (sX D cI cZ cL cE a w)) {M : MM} {x1 x2 : Int32} (h : ∀ G : CX, gl G = l → gR G = rmE_spawn → FX G (sX D cI cZ cL cE a w) cE_spawn 4 qnE none → wx G (sX D cI cZ cL cE a w) 4 (Qxv G (sX D cI cZ cL cE a w) post) M 0 [(0, .ref (a 0)), (1, .int x1), (2, .int x2)] []) : Cv l (sX D cI cZ cL cE a w) yE_spawn wE_spawn rmE_spawn [.ref (a 0), .int x1, .int x2] M post := Cv.of (cc := cE_spawn) (nL := 4) rfl rfl (Nat.le_of_ble_eq_true rfl) hJ h
set_option maxRecDepth 20000 in
theorem sE_endUpwards_0 {G : CX} {D : va_G} {cI cZ cL cE : ClassId} {a : Nat → Nat} {w : Nat} {post : Int32 → MM → Prop} (F : FX G (sX D cI cZ cL cE a w) cE_endUpwards 9 qnE (some .int)) (hw : w ≤ 4) (hR : gR G = rmE_endUpwards) {K12 : MM → Int32 → Int32 → Int32 → Int32 → Int32 → Int32 → Int32 → Int32 → Prop} (hK12 : ∀ (M : MM) (x1 x2 x3 x4 x5 x6 x7 x8 : Int32), K12 M x1 x2 x3 x4 x5 x6 x7 x8 → wx G (sX D cI cZ cL cE a w) 9 (Qxi G (sX D cI cZ cL cE a w) post) M 12 [(0, .ref (a 0)), (1, .int x1), (2, .int x2), (3, .int x3), (4, .int x4), (5, .int x5), (6, .int x6), (7, .int x7), (8, .int x8)] []) {M : MM} {x1 x2 x3 x4 : Int32} (h : K12 M x1 x2 x3 x4 0 x1 x2 0) : wx G (sX D cI cZ cL cE a w) 9 (Qxi G (sX D cI cZ cL cE a w) post) M 0 [(0, .ref (a 0)), (1, .int x1), (2, .int x2), (3, .int x3), (4, .int x4)] [] := by
  refine wx_iconst (v := 0) F dE_endUpwards_0 (by decide) ?_
  refine wx_istore (lv' := [(5, .int 0), (0, .ref (a 0)), (1, .int x1), (2, .int x2), (3, .int x3), (4, .int x4)]) F dE_endUpwards_1 (by decide) rfl ?_
  refine wx_iload_n F 2 dE_endUpwards_3 rfl rfl ?_
  refine wx_istore (lv' := [(6, .int x1), (5, .int 0), (0, .ref (a 0)), (1, .int x1), (2, .int x2), (3, .int x3), (4, .int x4)]) F dE_endUpwards_4 (by decide) rfl ?_
  refine wx_iload_n F 4 dE_endUpwards_6 rfl rfl ?_
  refine wx_istore (lv' := [(7, .int x2), (6, .int x1), (5, .int 0), (0, .ref (a 0)), (1, .int x1), (2, .int x2), (3, .int x3), (4, .int x4)]) F dE_endUpwards_7 (by decide) rfl ?_
  refine wx_iconst (v := 0) F dE_endUpwards_9 (by decide) ?_
  refine wx_istore (lv' := [(8, .int 0), (7, .int x2), (6, .int x1), (5, .int 0), (0, .ref (a 0)), (1, .int x1), (2, .int x2), (3, .int x3), (4, .int x4)]) F dE_endUpwards_10 (by decide) rfl ?_
  exact wx_lv [4, 5, 6, 7, 8, 3, 2, 1, 0] rfl (hK12 _ _ _ _ _ _ _ _ _ (h))
set_option maxRecDepth 20000 in
theorem sE_endUpwards_12 {G : CX} {D : va_G} {cI cZ cL cE : ClassId} {a : Nat → Nat} {w : Nat} {post : Int32 → MM → Prop} (F : FX G (sX D cI cZ cL cE a w) cE_endUpwards 9 qnE (some .int)) (hw : w ≤ 4) (hR : gR G = rmE_endUpwards) {K56 : MM → Int32 → Int32 → Int32 → Int32 → Int32 → Int32 → Int32 → Int32 → Prop} (hK56 : ∀ (M : MM) (x1 x2 x3 x4 x5 x6 x7 x8 : Int32), K56 M x1 x2 x3 x4 x5 x6 x7 x8 → wx G (sX D cI cZ cL cE a w) 9 (Qxi G (sX D cI cZ cL cE a w) post) M 56 [(0, .ref (a 0)), (1, .int x1), (2, .int x2), (3, .int x3), (4, .int x4), (5, .int x5), (6, .int x6), (7, .int x7), (8, .int x8)] []) {M : MM} {x1 x2 x3 x4 x5 x6 x7 x8 : Int32} (h : (3 < x8 → (post x5 M)) ∧ (¬ 3 < x8 → ((x6 = (-1) → (post x5 M)) ∧ (¬ x6 = (-1) → (∃ j5 : Nat, x6 = nI j5 ∧ j5 < 24 ∧ (∀ M3 : MM, M3 = mp M 38 j5 0 → ((¬ x7 = 0 → (K56 M3 x1 x2 x3 x4 (x5 + 1) x6 x7 x8)) ∧ (x7 = 0 → ((¬ (M3 0 11) = 0 → (K56 M3 x1 x2 x3 x4 (x5 + 1) x6 x7 x8)) ∧ ((M3 0 11) = 0 → (∃ po11 : MM → Prop, Cv (gl G) (sX D cI cZ cL cE a w) yE_passOn wE_passOn rmE_passOn [.ref (a 0), .int x6, .int x3, .int x4] M3 po11 ∧ ∀ (M15 : MM), po11 M15 → (K56 M15 x1 x2 x3 x4 (x5 + 1) x6 x7 x8)))))))))))) : wx G (sX D cI cZ cL cE a w) 9 (Qxi G (sX D cI cZ cL cE a w) post) M 12 [(0, .ref (a 0)), (1, .int x1), (2, .int x2), (3, .int x3), (4, .int x4), (5, .int x5), (6, .int x6), (7, .int x7), (8, .int x8)] [] := by
  refine wx_iload F 8 dE_endUpwards_12 rfl ?_
  refine wx_iconst (v := 3) F dE_endUpwards_14 (by decide) ?_
  refine wx_icmp_gt (tgt := 95) F dE_endUpwards_15 (by decide) (fun g1 => ?_) (fun g1 => ?_)
  · refine wx_iload F 5 dE_endUpwards_95 rfl ?_
    exact wx_iret F dE_endUpwards_97 ((h).1 g1)
  · refine wx_iload F 6 dE_endUpwards_18 rfl ?_
    refine wx_iconst (v := (-1)) F dE_endUpwards_20 (by decide) ?_
    refine wx_icmp_eq (tgt := 95) F dE_endUpwards_21 (by decide) (fun g2 => ?_) (fun g2 => ?_)
    · refine wx_iload F 5 dE_endUpwards_95 rfl ?_
      exact wx_iret F dE_endUpwards_97 (((h).2 g1).1 g2)
    · refine wx_aload_n F 0 dE_endUpwards_24 rfl rfl ?_
      refine wx_get (ci := 0) (C := qnE) (T := TE) (N := 17) (v := .ref (a 38)) F 0 (x_lt (by decide)) rfl rfl hiE 6 (by decide) rfl lfE_57 rfl dE_endUpwards_25 ?_
      refine wx_iload F 6 dE_endUpwards_28 rfl ?_
      refine wx_iconst (v := 0) F dE_endUpwards_30 (by decide) ?_
      obtain ⟨j5, e6, b7, h8⟩ := ((h).2 g1).2 g2
      refine wx_iast (N := 24) F 38 (x_lt (by decide)) (fun _ => rfl) 0 rfl e6 b7 (by omega) dE_endUpwards_31 (wx_nm (fun M3 e4 => ?_))
      refine wx_iinc (lv' := [(5, .int (x5 + 1)), (0, .ref (a 0)), (1, .int x1), (2, .int x2), (3, .int x3), (4, .int x4), (6, .int x6), (7, .int x7), (8, .int x8)]) F 5 dE_endUpwards_32 rfl (ii1 _) (by decide) rfl ?_
      refine wx_iload F 7 dE_endUpwards_35 rfl ?_
      refine wx_if_ne (tgt := 56) F dE_endUpwards_37 (by decide) (fun g9 => ?_) (fun g9 => ?_)
      · exact wx_lv [1, 2, 3, 4, 5, 0, 6, 7, 8] rfl (hK56 _ _ _ _ _ _ _ _ _ ((h8 M3 e4).1 g9))
      · refine wx_aload_n F 1 dE_endUpwards_40 rfl rfl ?_
        refine wx_get (ci := 0) (C := qnE) (T := TE) (N := 17) (v := .int (M3 0 11)) F 0 (x_lt (by decide)) rfl rfl hiE 11 (by decide) rfl lfE_114 rfl dE_endUpwards_41 ?_
        refine wx_if_ne (tgt := 56) F dE_endUpwards_44 (by decide) (fun g10 => ?_) (fun g10 => ?_)
        · exact wx_lv [1, 2, 3, 4, 5, 0, 6, 7, 8] rfl (hK56 _ _ _ _ _ _ _ _ _ (((h8 M3 e4).2 g9).1 g10))
        · refine wx_aload_n F 1 dE_endUpwards_47 rfl rfl ?_
          refine wx_iload F 6 dE_endUpwards_48 rfl ?_
          refine wx_iload_n F 4 dE_endUpwards_50 rfl rfl ?_
          refine wx_iload F 5 dE_endUpwards_51 rfl ?_
          obtain ⟨po11, c12, h13⟩ := ((h8 M3 e4).2 g9).2 g10
          refine wx_callv F 0 c12 (x_lt (by decide)) rfl rfl (cw_V F.1.2.2.2.2 lmE_231 cbE_passOn rfl rfl ⟨by rw [hR]; exact Nat.le_of_ble_eq_true rfl, by rw [hR]; exact Nat.le_of_ble_eq_true rfl⟩) rfl rfl (Nat.le_of_ble_eq_true rfl) dE_endUpwards_53 (fun M15 p16 => ?_)
          exact wx_lv [1, 2, 3, 4, 5, 0, 6, 7, 8] rfl (hK56 _ _ _ _ _ _ _ _ _ (h13 M15 p16))
set_option maxRecDepth 20000 in
theorem sE_endUpwards_56 {G : CX} {D : va_G} {cI cZ cL cE : ClassId} {a : Nat → Nat} {w : Nat} {post : Int32 → MM → Prop} (F : FX G (sX D cI cZ cL cE a w) cE_endUpwards 9 qnE (some .int)) (hw : w ≤ 4) (hR : gR G = rmE_endUpwards) {K12 : MM → Int32 → Int32 → Int32 → Int32 → Int32 → Int32 → Int32 → Int32 → Prop} (hK12 : ∀ (M : MM) (x1 x2 x3 x4 x5 x6 x7 x8 : Int32), K12 M x1 x2 x3 x4 x5 x6 x7 x8 → wx G (sX D cI cZ cL cE a w) 9 (Qxi G (sX D cI cZ cL cE a w) post) M 12 [(0, .ref (a 0)), (1, .int x1), (2, .int x2), (3, .int x3), (4, .int x4), (5, .int x5), (6, .int x6), (7, .int x7), (8, .int x8)] []) {M : MM} {x1 x2 x3 x4 x5 x6 x7 x8 : Int32} (h : ∃ po1 : Int32 → MM → Prop, Ci (gl G) (sX D cI cZ cL cE a w) yE_parentThatEnds wE_parentThatEnds rmE_parentThatEnds [.ref (a 0), .int x6, .int x7] M po1 ∧ ∀ (r4 : Int32) (M5 : MM), po1 r4 M5 → ((r4 = (-1) → (K12 M5 x1 x2 x3 x4 x5 r4 0 (x8 + 1))) ∧ (¬ r4 = (-1) → (∃ j8 : Nat, r4 = nI j8 ∧ j8 < 24 ∧ (((M5 41 j8) = 0 → (K12 M5 x1 x2 x3 x4 x5 r4 0 (x8 + 1))) ∧ (¬ (M5 41 j8) = 0 → (K12 M5 x1 x2 x3 x4 x5 r4 1 (x8 + 1)))))))) : wx G (sX D cI cZ cL cE a w) 9 (Qxi G (sX D cI cZ cL cE a w) post) M 56 [(0, .ref (a 0)), (1, .int x1), (2, .int x2), (3, .int x3), (4, .int x4), (5, .int x5), (6, .int x6), (7, .int x7), (8, .int x8)] [] := by
  refine wx_aload_n F 0 dE_endUpwards_56 rfl rfl ?_
  refine wx_iload F 6 dE_endUpwards_57 rfl ?_
  refine wx_iload F 7 dE_endUpwards_59 rfl ?_
  obtain ⟨po1, c2, h3⟩ := h
  refine wx_calli F 0 c2 (x_lt (by decide)) rfl rfl (cw_V F.1.2.2.2.2 lmE_235 cbE_parentThatEnds rfl rfl ⟨by rw [hR]; exact Nat.le_of_ble_eq_true rfl, by rw [hR]; exact Nat.le_of_ble_eq_true rfl⟩) rfl rfl (Nat.le_of_ble_eq_true rfl) dE_endUpwards_61 (fun r4 M5 p6 => ?_)
  refine wx_istore (lv' := [(6, .int r4), (0, .ref (a 0)), (1, .int x1), (2, .int x2), (3, .int x3), (4, .int x4), (5, .int x5), (7, .int x7), (8, .int x8)]) F dE_endUpwards_64 (by decide) rfl ?_
  refine wx_iload F 0 dE_endUpwards_66 rfl ?_
  refine wx_iconst (v := (-1)) F dE_endUpwards_68 (by decide) ?_
  refine wx_icmp_eq (tgt := 86) F dE_endUpwards_69 (by decide) (fun g7 => ?_) (fun g7 => ?_)
  · refine wx_iconst (v := 0) F dE_endUpwards_86 (by decide) ?_
    refine wx_istore (lv' := [(7, .int 0), (6, .int r4), (0, .ref (a 0)), (1, .int x1), (2, .int x2), (3, .int x3), (4, .int x4), (5, .int x5), (8, .int x8)]) F dE_endUpwards_87 (by decide) rfl ?_
    refine wx_iinc (lv' := [(8, .int (x8 + 1)), (7, .int 0), (6, .int r4), (0, .ref (a 0)), (1, .int x1), (2, .int x2), (3, .int x3), (4, .int x4), (5, .int x5)]) F 8 dE_endUpwards_89 rfl (ii1 _) (by decide) rfl ?_
    refine wx_goto (tgt := 12) F dE_endUpwards_92 (by decide) ?_
    exact wx_lv [3, 4, 5, 6, 7, 8, 2, 1, 0] rfl (hK12 _ _ _ _ _ _ _ _ _ ((h3 r4 M5 p6).1 g7))
  · refine wx_aload_n F 1 dE_endUpwards_72 rfl rfl ?_
    refine wx_get (ci := 0) (C := qnE) (T := TE) (N := 17) (v := .ref (a 41)) F 0 (x_lt (by decide)) rfl rfl hiE 9 (by decide) rfl lfE_66 rfl dE_endUpwards_73 ?_
    refine wx_iload F 0 dE_endUpwards_76 rfl ?_
    obtain ⟨j8, e9, b10, h11⟩ := (h3 r4 M5 p6).2 g7
    refine wx_zald (N := 24) F 41 (x_lt (by decide)) rfl 1 rfl e9 b10 (by omega) dE_endUpwards_78 ?_
    refine wx_if_eq (tgt := 86) F dE_endUpwards_79 (by decide) (fun g12 => ?_) (fun g12 => ?_)
    · refine wx_iconst (v := 0) F dE_endUpwards_86 (by decide) ?_
      refine wx_istore (lv' := [(7, .int 0), (6, .int r4), (0, .ref (a 0)), (1, .int x1), (2, .int x2), (3, .int x3), (4, .int x4), (5, .int x5), (8, .int x8)]) F dE_endUpwards_87 (by decide) rfl ?_
      refine wx_iinc (lv' := [(8, .int (x8 + 1)), (7, .int 0), (6, .int r4), (0, .ref (a 0)), (1, .int x1), (2, .int x2), (3, .int x3), (4, .int x4), (5, .int x5)]) F 8 dE_endUpwards_89 rfl (ii1 _) (by decide) rfl ?_
      refine wx_goto (tgt := 12) F dE_endUpwards_92 (by decide) ?_
      exact wx_lv [3, 4, 5, 6, 7, 8, 2, 1, 0] rfl (hK12 _ _ _ _ _ _ _ _ _ ((h11).1 g12))
    · refine wx_iconst (v := 1) F dE_endUpwards_82 (by decide) ?_
      refine wx_goto (tgt := 87) F dE_endUpwards_83 (by decide) ?_
      refine wx_istore (lv' := [(7, .int 1), (6, .int r4), (0, .ref (a 0)), (1, .int x1), (2, .int x2), (3, .int x3), (4, .int x4), (5, .int x5), (8, .int x8)]) F dE_endUpwards_87 (by decide) rfl ?_
      refine wx_iinc (lv' := [(8, .int (x8 + 1)), (7, .int 1), (6, .int r4), (0, .ref (a 0)), (1, .int x1), (2, .int x2), (3, .int x3), (4, .int x4), (5, .int x5)]) F 8 dE_endUpwards_89 rfl (ii1 _) (by decide) rfl ?_
      refine wx_goto (tgt := 12) F dE_endUpwards_92 (by decide) ?_
      exact wx_lv [3, 4, 5, 6, 7, 8, 2, 1, 0] rfl (hK12 _ _ _ _ _ _ _ _ _ ((h11).2 g12))
theorem oE_endUpwards {l : Launch} {D : va_G} {cI cZ cL cE : ClassId} {a : Nat → Nat} {w : Nat} {post : Int32 → MM → Prop} (hJ : IJ (sX D cI cZ cL cE a w)) {M : MM} {x1 x2 x3 x4 : Int32} (h : ∀ G : CX, gl G = l → gR G = rmE_endUpwards → FX G (sX D cI cZ cL cE a w) cE_endUpwards 9 qnE (some .int) → wx G (sX D cI cZ cL cE a w) 9 (Qxi G (sX D cI cZ cL cE a w) post) M 0 [(0, .ref (a 0)), (1, .int x1), (2, .int x2), (3, .int x3), (4, .int x4)] []) : Ci l (sX D cI cZ cL cE a w) yE_endUpwards wE_endUpwards rmE_endUpwards [.ref (a 0), .int x1, .int x2, .int x3, .int x4] M post := Ci.of (cc := cE_endUpwards) (nL := 9) rfl rfl (Nat.le_of_ble_eq_true rfl) hJ h
set_option maxRecDepth 20000 in
theorem sE_parentThatEnds_0 {G : CX} {D : va_G} {cI cZ cL cE : ClassId} {a : Nat → Nat} {w : Nat} {post : Int32 → MM → Prop} (F : FX G (sX D cI cZ cL cE a w) cE_parentThatEnds 4 qnE (some .int)) (hw : w ≤ 4) (hR : gR G = rmE_parentThatEnds) {M : MM} {x1 x2 : Int32} (h : ∃ j1 : Nat, x1 = nI j1 ∧ j1 < 24 ∧ (((M 3 j1) = (-1) → (post (-1) M)) ∧ (¬ (M 3 j1) = (-1) → (∃ j6 : Nat, (M 3 j1) = nI j6 ∧ j6 < 24 ∧ (((M 2 j6) = 2 → ((x2 = 0 → (∃ po12 : Int32 → MM → Prop, Ci (gl G) (sX D cI cZ cL cE a w) yE_hasActiveChild wE_hasActiveChild rmE_hasActiveChild [.ref (a 0), .int (M 3 j1)] M po12 ∧ ∀ (r15 : Int32) (M16 : MM), po12 r15 M16 → ((r15 = 0 → (post (M 3 j1) M16)) ∧ (¬ r15 = 0 → (post (-1) M16))))) ∧ (¬ x2 = 0 → (∀ M19 : MM, M19 = mp M 41 j6 1 → (∃ po21 : Int32 → MM → Prop, Ci (gl G) (sX D cI cZ cL cE a w) yE_hasActiveChild wE_hasActiveChild rmE_hasActiveChild [.ref (a 0), .int (M 3 j1)] M19 po21 ∧ ∀ (r24 : Int32) (M25 : MM), po21 r24 M25 → ((r24 = 0 → (post (M 3 j1) M25)) ∧ (¬ r24 = 0 → (post (-1) M25)))))))) ∧ (¬ (M 2 j6) = 2 → (post (-1) M))))))) : wx G (sX D cI cZ cL cE a w) 4 (Qxi G (sX D cI cZ cL cE a w) post) M 0 [(0, .ref (a 0)), (1, .int x1), (2, .int x2)] [] := by
  refine wx_aload_n F 0 dE_parentThatEnds_0 rfl rfl ?_
  refine wx_get (ci := 0) (C := qnE) (T := TE) (N := 17) (v := .ref (a 1)) F 0 (x_lt (by decide)) rfl rfl hiE 1 (by decide) rfl lfE_25 rfl dE_parentThatEnds_1 ?_
  refine wx_get (ci := 1) (C := qnG) (T := TG) (N := 9) (v := .ref (a 3)) F 1 (x_lt (by decide)) rfl rfl hiG 2 (by decide) rfl lfE_195 rfl dE_parentThatEnds_4 ?_
  refine wx_iload_n F 1 dE_parentThatEnds_7 rfl rfl ?_
  obtain ⟨j1, e2, b3, h4⟩ := h
  refine wx_iald (N := 24) F 3 (x_lt (by decide)) rfl 0 rfl e2 b3 (by omega) dE_parentThatEnds_8 ?_
  refine wx_istore_n (lv' := [(3, .int (M 3 j1)), (0, .ref (a 0)), (1, .int x1), (2, .int x2)]) F dE_parentThatEnds_9 rfl (by decide) rfl ?_
  refine wx_iload_n F 0 dE_parentThatEnds_10 rfl rfl ?_
  refine wx_iconst (v := (-1)) F dE_parentThatEnds_11 (by decide) ?_
  refine wx_icmp_eq (tgt := 28) F dE_parentThatEnds_12 (by decide) (fun g5 => ?_) (fun g5 => ?_)
  · refine wx_iconst (v := (-1)) F dE_parentThatEnds_28 (by decide) ?_
    exact wx_iret F dE_parentThatEnds_29 ((h4).1 g5)
  · refine wx_aload_n F 1 dE_parentThatEnds_15 rfl rfl ?_
    refine wx_get (ci := 0) (C := qnE) (T := TE) (N := 17) (v := .ref (a 1)) F 0 (x_lt (by decide)) rfl rfl hiE 1 (by decide) rfl lfE_25 rfl dE_parentThatEnds_16 ?_
    refine wx_get (ci := 1) (C := qnG) (T := TG) (N := 9) (v := .ref (a 2)) F 1 (x_lt (by decide)) rfl rfl hiG 1 (by decide) rfl lfE_161 rfl dE_parentThatEnds_19 ?_
    refine wx_iload_n F 0 dE_parentThatEnds_22 rfl rfl ?_
    obtain ⟨j6, e7, b8, h9⟩ := (h4).2 g5
    refine wx_iald (N := 24) F 2 (x_lt (by decide)) rfl 0 rfl e7 b8 (by omega) dE_parentThatEnds_23 ?_
    refine wx_iconst (v := 2) F dE_parentThatEnds_24 (by decide) ?_
    refine wx_icmp_eq (tgt := 30) F dE_parentThatEnds_25 (by decide) (fun g10 => ?_) (fun g10 => ?_)
    · refine wx_iload_n F 3 dE_parentThatEnds_30 rfl rfl ?_
      refine wx_if_eq (tgt := 41) F dE_parentThatEnds_31 (by decide) (fun g11 => ?_) (fun g11 => ?_)
      · refine wx_aload_n F 1 dE_parentThatEnds_41 rfl rfl ?_
        refine wx_iload_n F 0 dE_parentThatEnds_42 rfl rfl ?_
        obtain ⟨po12, c13, h14⟩ := ((h9).1 g10).1 g11
        refine wx_calli F 0 c13 (x_lt (by decide)) rfl rfl (cw_V F.1.2.2.2.2 lmE_164 cbE_hasActiveChild rfl rfl ⟨by rw [hR]; exact Nat.le_of_ble_eq_true rfl, by rw [hR]; exact Nat.le_of_ble_eq_true rfl⟩) rfl rfl (Nat.le_of_ble_eq_true rfl) dE_parentThatEnds_43 (fun r15 M16 p17 => ?_)
        refine wx_if_eq (tgt := 53) F dE_parentThatEnds_46 (by decide) (fun g18 => ?_) (fun g18 => ?_)
        · refine wx_iload_n F 0 dE_parentThatEnds_53 rfl rfl ?_
          exact wx_iret F dE_parentThatEnds_54 ((h14 r15 M16 p17).1 g18)
        · refine wx_iconst (v := (-1)) F dE_parentThatEnds_49 (by decide) ?_
          refine wx_goto (tgt := 54) F dE_parentThatEnds_50 (by decide) ?_
          exact wx_iret F dE_parentThatEnds_54 ((h14 r15 M16 p17).2 g18)
      · refine wx_aload_n F 1 dE_parentThatEnds_34 rfl rfl ?_
        refine wx_get (ci := 0) (C := qnE) (T := TE) (N := 17) (v := .ref (a 41)) F 0 (x_lt (by decide)) rfl rfl hiE 9 (by decide) rfl lfE_66 rfl dE_parentThatEnds_35 ?_
        refine wx_iload_n F 0 dE_parentThatEnds_38 rfl rfl ?_
        refine wx_iconst (v := 1) F dE_parentThatEnds_39 (by decide) ?_
        refine wx_zast (N := 24) F 41 (x_lt (by decide)) (fun _ => rfl) 1 rfl e7 b8 (by omega) rfl dE_parentThatEnds_40 (wx_nm (fun M19 e20 => ?_))
        refine wx_aload_n F 1 dE_parentThatEnds_41 rfl rfl ?_
        refine wx_iload_n F 0 dE_parentThatEnds_42 rfl rfl ?_
        obtain ⟨po21, c22, h23⟩ := (((h9).1 g10).2 g11) M19 e20
        refine wx_calli F 0 c22 (x_lt (by decide)) rfl rfl (cw_V F.1.2.2.2.2 lmE_164 cbE_hasActiveChild rfl rfl ⟨by rw [hR]; exact Nat.le_of_ble_eq_true rfl, by rw [hR]; exact Nat.le_of_ble_eq_true rfl⟩) rfl rfl (Nat.le_of_ble_eq_true rfl) dE_parentThatEnds_43 (fun r24 M25 p26 => ?_)
        refine wx_if_eq (tgt := 53) F dE_parentThatEnds_46 (by decide) (fun g27 => ?_) (fun g27 => ?_)
        · refine wx_iload_n F 0 dE_parentThatEnds_53 rfl rfl ?_
          exact wx_iret F dE_parentThatEnds_54 ((h23 r24 M25 p26).1 g27)
        · refine wx_iconst (v := (-1)) F dE_parentThatEnds_49 (by decide) ?_
          refine wx_goto (tgt := 54) F dE_parentThatEnds_50 (by decide) ?_
          exact wx_iret F dE_parentThatEnds_54 ((h23 r24 M25 p26).2 g27)
    · refine wx_iconst (v := (-1)) F dE_parentThatEnds_28 (by decide) ?_
      exact wx_iret F dE_parentThatEnds_29 ((h9).2 g10)
theorem oE_parentThatEnds {l : Launch} {D : va_G} {cI cZ cL cE : ClassId} {a : Nat → Nat} {w : Nat} {post : Int32 → MM → Prop} (hJ : IJ (sX D cI cZ cL cE a w)) (hw : w ≤ 4) {M : MM} {x1 x2 : Int32} (h : ∃ j1 : Nat, x1 = nI j1 ∧ j1 < 24 ∧ (((M 3 j1) = (-1) → (post (-1) M)) ∧ (¬ (M 3 j1) = (-1) → (∃ j6 : Nat, (M 3 j1) = nI j6 ∧ j6 < 24 ∧ (((M 2 j6) = 2 → ((x2 = 0 → (∃ po12 : Int32 → MM → Prop, Ci l (sX D cI cZ cL cE a w) yE_hasActiveChild wE_hasActiveChild rmE_hasActiveChild [.ref (a 0), .int (M 3 j1)] M po12 ∧ ∀ (r15 : Int32) (M16 : MM), po12 r15 M16 → ((r15 = 0 → (post (M 3 j1) M16)) ∧ (¬ r15 = 0 → (post (-1) M16))))) ∧ (¬ x2 = 0 → (∀ M19 : MM, M19 = mp M 41 j6 1 → (∃ po21 : Int32 → MM → Prop, Ci l (sX D cI cZ cL cE a w) yE_hasActiveChild wE_hasActiveChild rmE_hasActiveChild [.ref (a 0), .int (M 3 j1)] M19 po21 ∧ ∀ (r24 : Int32) (M25 : MM), po21 r24 M25 → ((r24 = 0 → (post (M 3 j1) M25)) ∧ (¬ r24 = 0 → (post (-1) M25)))))))) ∧ (¬ (M 2 j6) = 2 → (post (-1) M))))))) : Ci l (sX D cI cZ cL cE a w) yE_parentThatEnds wE_parentThatEnds rmE_parentThatEnds [.ref (a 0), .int x1, .int x2] M post := Ci.of (cc := cE_parentThatEnds) (nL := 4) rfl rfl (Nat.le_of_ble_eq_true rfl) hJ (fun G hl hR F => by subst hl; exact sE_parentThatEnds_0 F hw hR h)
set_option maxRecDepth 20000 in
theorem sE_passOn_0 {G : CX} {D : va_G} {cI cZ cL cE : ClassId} {a : Nat → Nat} {w : Nat} {post : MM → Prop} (F : FX G (sX D cI cZ cL cE a w) cE_passOn 5 qnE none) (hw : w ≤ 4) (hR : gR G = rmE_passOn) {K50 : MM → Int32 → Int32 → Int32 → Int32 → Prop} (hK50 : ∀ (M : MM) (x1 x2 x3 x4 : Int32), K50 M x1 x2 x3 x4 → wx G (sX D cI cZ cL cE a w) 5 (Qxv G (sX D cI cZ cL cE a w) post) M 50 [(0, .ref (a 0)), (1, .int x1), (2, .int x2), (3, .int x3), (4, .int x4)] []) {M : MM} {x1 x2 x3 : Int32} (h : ∃ j1 : Nat, x1 = nI j1 ∧ j1 < 24 ∧ ((¬ (M 2 j1) = 1 → (K50 M x1 x2 x3 0)) ∧ ((M 2 j1) = 1 → ((x2 < 0 → (post M)) ∧ (¬ x2 < 0 → (((M 6 j1) ≤ x2 → (post M)) ∧ (¬ (M 6 j1) ≤ x2 → (∃ j8 : Nat, x2 = nI j8 ∧ j8 < 6 ∧ (∃ po12 : MM → Prop, Cv (gl G) (sX D cI cZ cL cE a w) yE_sendToken wE_sendToken rmE_sendToken [.ref (a 0), .int (M (10 + j1) j8), .int x3] M po12 ∧ ∀ (M16 : MM), po12 M16 → (post M16)))))))))) : wx G (sX D cI cZ cL cE a w) 5 (Qxv G (sX D cI cZ cL cE a w) post) M 0 [(0, .ref (a 0)), (1, .int x1), (2, .int x2), (3, .int x3)] [] := by
  refine wx_aload_n F 0 dE_passOn_0 rfl rfl ?_
  refine wx_get (ci := 0) (C := qnE) (T := TE) (N := 17) (v := .ref (a 1)) F 0 (x_lt (by decide)) rfl rfl hiE 1 (by decide) rfl lfE_25 rfl dE_passOn_1 ?_
  refine wx_get (ci := 1) (C := qnG) (T := TG) (N := 9) (v := .ref (a 2)) F 1 (x_lt (by decide)) rfl rfl hiG 1 (by decide) rfl lfE_161 rfl dE_passOn_4 ?_
  refine wx_iload_n F 1 dE_passOn_7 rfl rfl ?_
  obtain ⟨j1, e2, b3, h4⟩ := h
  refine wx_iald (N := 24) F 2 (x_lt (by decide)) rfl 0 rfl e2 b3 (by omega) dE_passOn_8 ?_
  refine wx_iconst (v := 1) F dE_passOn_9 (by decide) ?_
  refine wx_icmp_ne (tgt := 47) F dE_passOn_10 (by decide) (fun g5 => ?_) (fun g5 => ?_)
  · refine wx_iconst (v := 0) F dE_passOn_47 (by decide) ?_
    refine wx_istore (lv' := [(4, .int 0), (0, .ref (a 0)), (1, .int x1), (2, .int x2), (3, .int x3)]) F dE_passOn_48 (by decide) rfl ?_
    exact wx_lv [1, 2, 3, 4, 0] rfl (hK50 _ _ _ _ _ ((h4).1 g5))
  · refine wx_iload_n F 2 dE_passOn_13 rfl rfl ?_
    refine wx_if_lt (tgt := 46) F dE_passOn_14 (by decide) (fun g6 => ?_) (fun g6 => ?_)
    · exact wx_vret F dE_passOn_46 (((h4).2 g5).1 g6)
    · refine wx_iload_n F 2 dE_passOn_17 rfl rfl ?_
      refine wx_aload_n F 0 dE_passOn_18 rfl rfl ?_
      refine wx_get (ci := 0) (C := qnE) (T := TE) (N := 17) (v := .ref (a 1)) F 0 (x_lt (by decide)) rfl rfl hiE 1 (by decide) rfl lfE_25 rfl dE_passOn_19 ?_
      refine wx_get (ci := 1) (C := qnG) (T := TG) (N := 9) (v := .ref (a 6)) F 1 (x_lt (by decide)) rfl rfl hiG 6 (by decide) rfl lfE_239 rfl dE_passOn_22 ?_
      refine wx_iload_n F 1 dE_passOn_25 rfl rfl ?_
      refine wx_iald (N := 24) F 6 (x_lt (by decide)) rfl 0 rfl e2 b3 (by omega) dE_passOn_26 ?_
      refine wx_icmp_ge (tgt := 46) F dE_passOn_27 (by decide) (fun g7 => ?_) (fun g7 => ?_)
      · exact wx_vret F dE_passOn_46 ((((h4).2 g5).2 g6).1 g7)
      · refine wx_aload_n F 0 dE_passOn_30 rfl rfl ?_
        refine wx_aload_n F 0 dE_passOn_31 rfl rfl ?_
        refine wx_get (ci := 0) (C := qnE) (T := TE) (N := 17) (v := .ref (a 1)) F 0 (x_lt (by decide)) rfl rfl hiE 1 (by decide) rfl lfE_25 rfl dE_passOn_32 ?_
        refine wx_get (ci := 1) (C := qnG) (T := TG) (N := 9) (v := .ref (a 9)) F 1 (x_lt (by decide)) rfl rfl hiG 5 (by decide) rfl lfE_242 rfl dE_passOn_35 ?_
        refine wx_iload_n F 1 dE_passOn_38 rfl rfl ?_
        refine xE_aald F hw e2 b3 dE_passOn_39 ?_
        refine wx_iload_n F 2 dE_passOn_40 rfl rfl ?_
        obtain ⟨j8, e9, b10, h11⟩ := (((h4).2 g5).2 g6).2 g7
        refine wx_iald (N := 6) F (10 + j1) (x_ltE (by omega)) (x_cE (by omega) _) 0 rfl e9 b10 (by omega) dE_passOn_41 ?_
        refine wx_iload_n F 3 dE_passOn_42 rfl rfl ?_
        obtain ⟨po12, c13, h14⟩ := h11
        refine wx_callv F 0 c13 (x_lt (by decide)) rfl rfl (cw_V F.1.2.2.2.2 lmE_201 cbE_sendToken rfl rfl ⟨by rw [hR]; exact Nat.le_of_ble_eq_true rfl, by rw [hR]; exact Nat.le_of_ble_eq_true rfl⟩) rfl rfl (Nat.le_of_ble_eq_true rfl) dE_passOn_43 (fun M16 p17 => ?_)
        exact wx_vret F dE_passOn_46 (h14 M16 p17)
set_option maxRecDepth 20000 in
theorem sE_passOn_50 {G : CX} {D : va_G} {cI cZ cL cE : ClassId} {a : Nat → Nat} {w : Nat} {post : MM → Prop} (F : FX G (sX D cI cZ cL cE a w) cE_passOn 5 qnE none) (hw : w ≤ 4) (hR : gR G = rmE_passOn) {K50 : MM → Int32 → Int32 → Int32 → Int32 → Prop} (hK50 : ∀ (M : MM) (x1 x2 x3 x4 : Int32), K50 M x1 x2 x3 x4 → wx G (sX D cI cZ cL cE a w) 5 (Qxv G (sX D cI cZ cL cE a w) post) M 50 [(0, .ref (a 0)), (1, .int x1), (2, .int x2), (3, .int x3), (4, .int x4)] []) {M : MM} {x1 x2 x3 x4 : Int32} (h : ∃ j1 : Nat, x1 = nI j1 ∧ j1 < 24 ∧ (((M 6 j1) ≤ x4 → (post M)) ∧ (¬ (M 6 j1) ≤ x4 → (∃ j6 : Nat, x4 = nI j6 ∧ j6 < 6 ∧ (∃ po10 : MM → Prop, Cv (gl G) (sX D cI cZ cL cE a w) yE_arrive wE_arrive rmE_arrive [.ref (a 0), .int (M (10 + j1) j6), .int x3] M po10 ∧ ∀ (M14 : MM), po10 M14 → (K50 M14 x1 x2 x3 (x4 + 1))))))) : wx G (sX D cI cZ cL cE a w) 5 (Qxv G (sX D cI cZ cL cE a w) post) M 50 [(0, .ref (a 0)), (1, .int x1), (2, .int x2), (3, .int x3), (4, .int x4)] [] := by
  refine wx_iload F 4 dE_passOn_50 rfl ?_
  refine wx_aload_n F 0 dE_passOn_52 rfl rfl ?_
  refine wx_get (ci := 0) (C := qnE) (T := TE) (N := 17) (v := .ref (a 1)) F 0 (x_lt (by decide)) rfl rfl hiE 1 (by decide) rfl lfE_25 rfl dE_passOn_53 ?_
  refine wx_get (ci := 1) (C := qnG) (T := TG) (N := 9) (v := .ref (a 6)) F 1 (x_lt (by decide)) rfl rfl hiG 6 (by decide) rfl lfE_239 rfl dE_passOn_56 ?_
  refine wx_iload_n F 1 dE_passOn_59 rfl rfl ?_
  obtain ⟨j1, e2, b3, h4⟩ := h
  refine wx_iald (N := 24) F 6 (x_lt (by decide)) rfl 0 rfl e2 b3 (by omega) dE_passOn_60 ?_
  refine wx_icmp_ge (tgt := 87) F dE_passOn_61 (by decide) (fun g5 => ?_) (fun g5 => ?_)
  · exact wx_vret F dE_passOn_87 ((h4).1 g5)
  · refine wx_aload_n F 0 dE_passOn_64 rfl rfl ?_
    refine wx_aload_n F 0 dE_passOn_65 rfl rfl ?_
    refine wx_get (ci := 0) (C := qnE) (T := TE) (N := 17) (v := .ref (a 1)) F 0 (x_lt (by decide)) rfl rfl hiE 1 (by decide) rfl lfE_25 rfl dE_passOn_66 ?_
    refine wx_get (ci := 1) (C := qnG) (T := TG) (N := 9) (v := .ref (a 9)) F 1 (x_lt (by decide)) rfl rfl hiG 5 (by decide) rfl lfE_242 rfl dE_passOn_69 ?_
    refine wx_iload_n F 1 dE_passOn_72 rfl rfl ?_
    refine xE_aald F hw e2 b3 dE_passOn_73 ?_
    refine wx_iload F 4 dE_passOn_74 rfl ?_
    obtain ⟨j6, e7, b8, h9⟩ := (h4).2 g5
    refine wx_iald (N := 6) F (10 + j1) (x_ltE (by omega)) (x_cE (by omega) _) 0 rfl e7 b8 (by omega) dE_passOn_76 ?_
    refine wx_iload_n F 3 dE_passOn_77 rfl rfl ?_
    obtain ⟨po10, c11, h12⟩ := h9
    refine wx_callv F 0 c11 (x_lt (by decide)) rfl rfl (cw_V F.1.2.2.2.2 lmE_246 cbE_arrive rfl rfl ⟨by rw [hR]; exact Nat.le_of_ble_eq_true rfl, by rw [hR]; exact Nat.le_of_ble_eq_true rfl⟩) rfl rfl (Nat.le_of_ble_eq_true rfl) dE_passOn_78 (fun M14 p15 => ?_)
    refine wx_iinc (lv' := [(4, .int (x4 + 1)), (0, .ref (a 0)), (1, .int x1), (2, .int x2), (3, .int x3)]) F 4 dE_passOn_81 rfl (ii1 _) (by decide) rfl ?_
    refine wx_goto (tgt := 50) F dE_passOn_84 (by decide) ?_
    exact wx_lv [1, 2, 3, 4, 0] rfl (hK50 _ _ _ _ _ (h12 M14 p15))
theorem oE_passOn {l : Launch} {D : va_G} {cI cZ cL cE : ClassId} {a : Nat → Nat} {w : Nat} {post : MM → Prop} (hJ : IJ (sX D cI cZ cL cE a w)) {M : MM} {x1 x2 x3 : Int32} (h : ∀ G : CX, gl G = l → gR G = rmE_passOn → FX G (sX D cI cZ cL cE a w) cE_passOn 5 qnE none → wx G (sX D cI cZ cL cE a w) 5 (Qxv G (sX D cI cZ cL cE a w) post) M 0 [(0, .ref (a 0)), (1, .int x1), (2, .int x2), (3, .int x3)] []) : Cv l (sX D cI cZ cL cE a w) yE_passOn wE_passOn rmE_passOn [.ref (a 0), .int x1, .int x2, .int x3] M post := Cv.of (cc := cE_passOn) (nL := 5) rfl rfl (Nat.le_of_ble_eq_true rfl) hJ h
set_option maxRecDepth 20000 in
theorem sE_arrive_0 {G : CX} {D : va_G} {cI cZ cL cE : ClassId} {a : Nat → Nat} {w : Nat} {post : MM → Prop} (F : FX G (sX D cI cZ cL cE a w) cE_arrive 3 qnE none) (hw : w ≤ 4) (hR : gR G = rmE_arrive) {M : MM} {x1 x2 : Int32} (h : ∃ j1 : Nat, x1 = nI j1 ∧ j1 < 24 ∧ (∀ M5 : MM, M5 = mp M 39 j1 ((M 39 j1) + 1) → ((¬ (M5 39 j1) = (M5 8 j1) → (post M5)) ∧ ((M5 39 j1) = (M5 8 j1) → (∀ M8 : MM, M8 = mp M5 39 j1 0 → (∃ po10 : MM → Prop, Cv (gl G) (sX D cI cZ cL cE a w) yE_sendToken wE_sendToken rmE_sendToken [.ref (a 0), .int x1, .int x2] M8 po10 ∧ ∀ (M14 : MM), po10 M14 → (post M14))))))) : wx G (sX D cI cZ cL cE a w) 3 (Qxv G (sX D cI cZ cL cE a w) post) M 0 [(0, .ref (a 0)), (1, .int x1), (2, .int x2)] [] := by
  refine wx_aload_n F 0 dE_arrive_0 rfl rfl ?_
  refine wx_get (ci := 0) (C := qnE) (T := TE) (N := 17) (v := .ref (a 39)) F 0 (x_lt (by decide)) rfl rfl hiE 7 (by decide) rfl lfE_60 rfl dE_arrive_1 ?_
  refine wx_iload_n F 1 dE_arrive_4 rfl rfl ?_
  refine wx_dup2 F dE_arrive_5 rfl rfl ?_
  obtain ⟨j1, e2, b3, h4⟩ := h
  refine wx_iald (N := 24) F 39 (x_lt (by decide)) rfl 0 rfl e2 b3 (by omega) dE_arrive_6 ?_
  refine wx_iconst (v := 1) F dE_arrive_7 (by decide) ?_
  refine wx_iadd F dE_arrive_8 ?_
  refine wx_iast (N := 24) F 39 (x_lt (by decide)) (fun _ => rfl) 0 rfl e2 b3 (by omega) dE_arrive_9 (wx_nm (fun M5 e6 => ?_))
  refine wx_aload_n F 0 dE_arrive_10 rfl rfl ?_
  refine wx_get (ci := 0) (C := qnE) (T := TE) (N := 17) (v := .ref (a 39)) F 0 (x_lt (by decide)) rfl rfl hiE 7 (by decide) rfl lfE_60 rfl dE_arrive_11 ?_
  refine wx_iload_n F 1 dE_arrive_14 rfl rfl ?_
  refine wx_iald (N := 24) F 39 (x_lt (by decide)) rfl 0 rfl e2 b3 (by omega) dE_arrive_15 ?_
  refine wx_aload_n F 0 dE_arrive_16 rfl rfl ?_
  refine wx_get (ci := 0) (C := qnE) (T := TE) (N := 17) (v := .ref (a 1)) F 0 (x_lt (by decide)) rfl rfl hiE 1 (by decide) rfl lfE_25 rfl dE_arrive_17 ?_
  refine wx_get (ci := 1) (C := qnG) (T := TG) (N := 9) (v := .ref (a 8)) F 1 (x_lt (by decide)) rfl rfl hiG 8 (by decide) rfl lfE_249 rfl dE_arrive_20 ?_
  refine wx_iload_n F 1 dE_arrive_23 rfl rfl ?_
  refine wx_iald (N := 24) F 8 (x_lt (by decide)) rfl 0 rfl e2 b3 (by omega) dE_arrive_24 ?_
  refine wx_icmp_ne (tgt := 41) F dE_arrive_25 (by decide) (fun g7 => ?_) (fun g7 => ?_)
  · exact wx_vret F dE_arrive_41 ((h4 M5 e6).1 g7)
  · refine wx_aload_n F 0 dE_arrive_28 rfl rfl ?_
    refine wx_get (ci := 0) (C := qnE) (T := TE) (N := 17) (v := .ref (a 39)) F 0 (x_lt (by decide)) rfl rfl hiE 7 (by decide) rfl lfE_60 rfl dE_arrive_29 ?_
    refine wx_iload_n F 1 dE_arrive_32 rfl rfl ?_
    refine wx_iconst (v := 0) F dE_arrive_33 (by decide) ?_
    refine wx_iast (N := 24) F 39 (x_lt (by decide)) (fun _ => rfl) 0 rfl e2 b3 (by omega) dE_arrive_34 (wx_nm (fun M8 e9 => ?_))
    refine wx_aload_n F 0 dE_arrive_35 rfl rfl ?_
    refine wx_iload_n F 1 dE_arrive_36 rfl rfl ?_
    refine wx_iload_n F 2 dE_arrive_37 rfl rfl ?_
    obtain ⟨po10, c11, h12⟩ := ((h4 M5 e6).2 g7) M8 e9
    refine wx_callv F 0 c11 (x_lt (by decide)) rfl rfl (cw_V F.1.2.2.2.2 lmE_201 cbE_sendToken rfl rfl ⟨by rw [hR]; exact Nat.le_of_ble_eq_true rfl, by rw [hR]; exact Nat.le_of_ble_eq_true rfl⟩) rfl rfl (Nat.le_of_ble_eq_true rfl) dE_arrive_38 (fun M14 p15 => ?_)
    exact wx_vret F dE_arrive_41 (h12 M14 p15)
theorem oE_arrive {l : Launch} {D : va_G} {cI cZ cL cE : ClassId} {a : Nat → Nat} {w : Nat} {post : MM → Prop} (hJ : IJ (sX D cI cZ cL cE a w)) (hw : w ≤ 4) {M : MM} {x1 x2 : Int32} (h : ∃ j1 : Nat, x1 = nI j1 ∧ j1 < 24 ∧ (∀ M5 : MM, M5 = mp M 39 j1 ((M 39 j1) + 1) → ((¬ (M5 39 j1) = (M5 8 j1) → (post M5)) ∧ ((M5 39 j1) = (M5 8 j1) → (∀ M8 : MM, M8 = mp M5 39 j1 0 → (∃ po10 : MM → Prop, Cv l (sX D cI cZ cL cE a w) yE_sendToken wE_sendToken rmE_sendToken [.ref (a 0), .int x1, .int x2] M8 po10 ∧ ∀ (M14 : MM), po10 M14 → (post M14))))))) : Cv l (sX D cI cZ cL cE a w) yE_arrive wE_arrive rmE_arrive [.ref (a 0), .int x1, .int x2] M post := Cv.of (cc := cE_arrive) (nL := 3) rfl rfl (Nat.le_of_ble_eq_true rfl) hJ (fun G hl hR F => by subst hl; exact sE_arrive_0 F hw hR h)
set_option maxRecDepth 20000 in
theorem sE_dropReadyAndParked_0 {G : CX} {D : va_G} {cI cZ cL cE : ClassId} {a : Nat → Nat} {w : Nat} {post : Int32 → MM → Prop} (F : FX G (sX D cI cZ cL cE a w) cE_dropReadyAndParked 3 qnE (some .int)) (hw : w ≤ 4) (hR : gR G = rmE_dropReadyAndParked) {K4 : MM → Int32 → Int32 → Prop} (hK4 : ∀ (M : MM) (x1 x2 : Int32), K4 M x1 x2 → wx G (sX D cI cZ cL cE a w) 3 (Qxi G (sX D cI cZ cL cE a w) post) M 4 [(0, .ref (a 0)), (1, .int x1), (2, .int x2)] []) {M : MM} (h : K4 M 0 0) : wx G (sX D cI cZ cL cE a w) 3 (Qxi G (sX D cI cZ cL cE a w) post) M 0 [(0, .ref (a 0))] [] := by
  refine wx_iconst (v := 0) F dE_dropReadyAndParked_0 (by decide) ?_
  refine wx_istore_n (lv' := [(1, .int 0), (0, .ref (a 0))]) F dE_dropReadyAndParked_1 rfl (by decide) rfl ?_
  refine wx_iconst (v := 0) F dE_dropReadyAndParked_2 (by decide) ?_
  refine wx_istore_n (lv' := [(2, .int 0), (1, .int 0), (0, .ref (a 0))]) F dE_dropReadyAndParked_3 rfl (by decide) rfl ?_
  exact wx_lv [2, 1, 0] rfl (hK4 _ _ _ (h))
set_option maxRecDepth 20000 in
theorem sE_dropReadyAndParked_4 {G : CX} {D : va_G} {cI cZ cL cE : ClassId} {a : Nat → Nat} {w : Nat} {post : Int32 → MM → Prop} (F : FX G (sX D cI cZ cL cE a w) cE_dropReadyAndParked 3 qnE (some .int)) (hw : w ≤ 4) (hR : gR G = rmE_dropReadyAndParked) {K4 : MM → Int32 → Int32 → Prop} (hK4 : ∀ (M : MM) (x1 x2 : Int32), K4 M x1 x2 → wx G (sX D cI cZ cL cE a w) 3 (Qxi G (sX D cI cZ cL cE a w) post) M 4 [(0, .ref (a 0)), (1, .int x1), (2, .int x2)] []) {K54 : MM → Int32 → Int32 → Prop} (hK54 : ∀ (M : MM) (x1 x2 : Int32), K54 M x1 x2 → wx G (sX D cI cZ cL cE a w) 3 (Qxi G (sX D cI cZ cL cE a w) post) M 54 [(0, .ref (a 0)), (1, .int x1), (2, .int x2)] []) {M : MM} {x1 x2 : Int32} (h : ((M 1 0) ≤ x2 → (K54 M x1 0)) ∧ (¬ (M 1 0) ≤ x2 → (∃ j2 : Nat, x2 = nI j2 ∧ j2 < 24 ∧ (((M 38 j2) = 1 → (∀ M7 : MM, M7 = mp M 38 j2 0 → (K4 M7 (x1 + 1) (x2 + 1)))) ∧ (¬ (M 38 j2) = 1 → (((M 38 j2) < 10 → (K4 M x1 (x2 + 1))) ∧ (¬ (M 38 j2) < 10 → (∀ M10 : MM, M10 = mp M 38 j2 0 → (K4 M10 (x1 + 1) (x2 + 1)))))))))) : wx G (sX D cI cZ cL cE a w) 3 (Qxi G (sX D cI cZ cL cE a w) post) M 4 [(0, .ref (a 0)), (1, .int x1), (2, .int x2)] [] := by
  refine wx_iload_n F 2 dE_dropReadyAndParked_4 rfl rfl ?_
  refine wx_aload_n F 0 dE_dropReadyAndParked_5 rfl rfl ?_
  refine wx_get (ci := 0) (C := qnE) (T := TE) (N := 17) (v := .ref (a 1)) F 0 (x_lt (by decide)) rfl rfl hiE 1 (by decide) rfl lfE_25 rfl dE_dropReadyAndParked_6 ?_
  refine wx_get (ci := 1) (C := qnG) (T := TG) (N := 9) (v := .int (M 1 0)) F 1 (x_lt (by decide)) rfl rfl hiG 0 (by decide) rfl lfE_100 rfl dE_dropReadyAndParked_9 ?_
  refine wx_icmp_ge (tgt := 52) F dE_dropReadyAndParked_12 (by decide) (fun g1 => ?_) (fun g1 => ?_)
  · refine wx_iconst (v := 0) F dE_dropReadyAndParked_52 (by decide) ?_
    refine wx_istore_n (lv' := [(2, .int 0), (0, .ref (a 0)), (1, .int x1)]) F dE_dropReadyAndParked_53 rfl (by decide) rfl ?_
    exact wx_lv [1, 2, 0] rfl (hK54 _ _ _ ((h).1 g1))
  · refine wx_aload_n F 0 dE_dropReadyAndParked_15 rfl rfl ?_
    refine wx_get (ci := 0) (C := qnE) (T := TE) (N := 17) (v := .ref (a 38)) F 0 (x_lt (by decide)) rfl rfl hiE 6 (by decide) rfl lfE_57 rfl dE_dropReadyAndParked_16 ?_
    refine wx_iload_n F 2 dE_dropReadyAndParked_19 rfl rfl ?_
    obtain ⟨j2, e3, b4, h5⟩ := (h).2 g1
    refine wx_iald (N := 24) F 38 (x_lt (by decide)) rfl 0 rfl e3 b4 (by omega) dE_dropReadyAndParked_20 ?_
    refine wx_iconst (v := 1) F dE_dropReadyAndParked_21 (by decide) ?_
    refine wx_icmp_eq (tgt := 36) F dE_dropReadyAndParked_22 (by decide) (fun g6 => ?_) (fun g6 => ?_)
    · refine wx_aload_n F 0 dE_dropReadyAndParked_36 rfl rfl ?_
      refine wx_get (ci := 0) (C := qnE) (T := TE) (N := 17) (v := .ref (a 38)) F 0 (x_lt (by decide)) rfl rfl hiE 6 (by decide) rfl lfE_57 rfl dE_dropReadyAndParked_37 ?_
      refine wx_iload_n F 2 dE_dropReadyAndParked_40 rfl rfl ?_
      refine wx_iconst (v := 0) F dE_dropReadyAndParked_41 (by decide) ?_
      refine wx_iast (N := 24) F 38 (x_lt (by decide)) (fun _ => rfl) 0 rfl e3 b4 (by omega) dE_dropReadyAndParked_42 (wx_nm (fun M7 e8 => ?_))
      refine wx_iinc (lv' := [(1, .int (x1 + 1)), (0, .ref (a 0)), (2, .int x2)]) F 1 dE_dropReadyAndParked_43 rfl (ii1 _) (by decide) rfl ?_
      refine wx_iinc (lv' := [(2, .int (x2 + 1)), (1, .int (x1 + 1)), (0, .ref (a 0))]) F 2 dE_dropReadyAndParked_46 rfl (ii1 _) (by decide) rfl ?_
      refine wx_goto (tgt := 4) F dE_dropReadyAndParked_49 (by decide) ?_
      exact wx_lv [2, 1, 0] rfl (hK4 _ _ _ (((h5).1 g6) M7 e8))
    · refine wx_aload_n F 0 dE_dropReadyAndParked_25 rfl rfl ?_
      refine wx_get (ci := 0) (C := qnE) (T := TE) (N := 17) (v := .ref (a 38)) F 0 (x_lt (by decide)) rfl rfl hiE 6 (by decide) rfl lfE_57 rfl dE_dropReadyAndParked_26 ?_
      refine wx_iload_n F 2 dE_dropReadyAndParked_29 rfl rfl ?_
      refine wx_iald (N := 24) F 38 (x_lt (by decide)) rfl 0 rfl e3 b4 (by omega) dE_dropReadyAndParked_30 ?_
      refine wx_bipush (v := 10) F dE_dropReadyAndParked_31 (by decide) ?_
      refine wx_icmp_lt (tgt := 46) F dE_dropReadyAndParked_33 (by decide) (fun g9 => ?_) (fun g9 => ?_)
      · refine wx_iinc (lv' := [(2, .int (x2 + 1)), (0, .ref (a 0)), (1, .int x1)]) F 2 dE_dropReadyAndParked_46 rfl (ii1 _) (by decide) rfl ?_
        refine wx_goto (tgt := 4) F dE_dropReadyAndParked_49 (by decide) ?_
        exact wx_lv [1, 2, 0] rfl (hK4 _ _ _ (((h5).2 g6).1 g9))
      · refine wx_aload_n F 0 dE_dropReadyAndParked_36 rfl rfl ?_
        refine wx_get (ci := 0) (C := qnE) (T := TE) (N := 17) (v := .ref (a 38)) F 0 (x_lt (by decide)) rfl rfl hiE 6 (by decide) rfl lfE_57 rfl dE_dropReadyAndParked_37 ?_
        refine wx_iload_n F 2 dE_dropReadyAndParked_40 rfl rfl ?_
        refine wx_iconst (v := 0) F dE_dropReadyAndParked_41 (by decide) ?_
        refine wx_iast (N := 24) F 38 (x_lt (by decide)) (fun _ => rfl) 0 rfl e3 b4 (by omega) dE_dropReadyAndParked_42 (wx_nm (fun M10 e11 => ?_))
        refine wx_iinc (lv' := [(1, .int (x1 + 1)), (0, .ref (a 0)), (2, .int x2)]) F 1 dE_dropReadyAndParked_43 rfl (ii1 _) (by decide) rfl ?_
        refine wx_iinc (lv' := [(2, .int (x2 + 1)), (1, .int (x1 + 1)), (0, .ref (a 0))]) F 2 dE_dropReadyAndParked_46 rfl (ii1 _) (by decide) rfl ?_
        refine wx_goto (tgt := 4) F dE_dropReadyAndParked_49 (by decide) ?_
        exact wx_lv [2, 1, 0] rfl (hK4 _ _ _ ((((h5).2 g6).2 g9) M10 e11))
set_option maxRecDepth 20000 in
theorem sE_dropReadyAndParked_54 {G : CX} {D : va_G} {cI cZ cL cE : ClassId} {a : Nat → Nat} {w : Nat} {post : Int32 → MM → Prop} (F : FX G (sX D cI cZ cL cE a w) cE_dropReadyAndParked 3 qnE (some .int)) (hw : w ≤ 4) (hR : gR G = rmE_dropReadyAndParked) {K54 : MM → Int32 → Int32 → Prop} (hK54 : ∀ (M : MM) (x1 x2 : Int32), K54 M x1 x2 → wx G (sX D cI cZ cL cE a w) 3 (Qxi G (sX D cI cZ cL cE a w) post) M 54 [(0, .ref (a 0)), (1, .int x1), (2, .int x2)] []) {M : MM} {x1 x2 : Int32} (h : ((M 0 0) < x2 → (∀ M2 : MM, M2 = mp M (43 + 2 * 0) 1 0 → (post x1 M2))) ∧ (¬ (M 0 0) < x2 → (∃ j4 : Nat, x2 = nI j4 ∧ j4 < (w + 1) ∧ (∀ M8 : MM, M8 = mp M (43 + 2 * (j4 + 1)) 1 0 → (K54 M8 x1 (x2 + 1)))))) : wx G (sX D cI cZ cL cE a w) 3 (Qxi G (sX D cI cZ cL cE a w) post) M 54 [(0, .ref (a 0)), (1, .int x1), (2, .int x2)] [] := by
  refine wx_iload_n F 2 dE_dropReadyAndParked_54 rfl rfl ?_
  refine wx_aload_n F 0 dE_dropReadyAndParked_55 rfl rfl ?_
  refine wx_get (ci := 0) (C := qnE) (T := TE) (N := 17) (v := .int (M 0 0)) F 0 (x_lt (by decide)) rfl rfl hiE 0 (by decide) rfl lfE_18 rfl dE_dropReadyAndParked_56 ?_
  refine wx_icmp_gt (tgt := 78) F dE_dropReadyAndParked_59 (by decide) (fun g1 => ?_) (fun g1 => ?_)
  · refine wx_aload_n F 0 dE_dropReadyAndParked_78 rfl rfl ?_
    refine wx_get (ci := 0) (C := qnE) (T := TE) (N := 17) (v := .ref (a (43 + 2 * 0))) F 0 (x_lt (by decide)) rfl rfl hiE 4 (by decide) rfl lfE_43 rfl dE_dropReadyAndParked_79 ?_
    refine wx_iconst (v := 0) F dE_dropReadyAndParked_82 (by decide) ?_
    refine wx_put (ci := 2) (C := qnL) (T := TL) (N := 2) (ty := .int) F (43 + 2 * 0) (x_ltL (i := 0) (by omega)) (x_cL 0 _) rfl hiL tyL tyL_ok nmL 1 (by decide) rfl lfE_210 rfl (by decide +kernel) rfl rfl (Nat.le_of_ble_eq_true rfl) (x_cL 0 _) dE_dropReadyAndParked_83 (wx_nm (fun M2 e3 => ?_))
    refine wx_iload_n F 1 dE_dropReadyAndParked_86 rfl rfl ?_
    exact wx_iret F dE_dropReadyAndParked_87 (((h).1 g1) M2 e3)
  · refine wx_aload_n F 0 dE_dropReadyAndParked_62 rfl rfl ?_
    refine wx_get (ci := 0) (C := qnE) (T := TE) (N := 17) (v := .ref (a 42)) F 0 (x_lt (by decide)) rfl rfl hiE 3 (by decide) rfl lfE_38 rfl dE_dropReadyAndParked_63 ?_
    refine wx_iload_n F 2 dE_dropReadyAndParked_66 rfl rfl ?_
    obtain ⟨j4, e5, b6, h7⟩ := (h).2 g1
    refine xL_aald F hw e5 b6 dE_dropReadyAndParked_67 ?_
    refine wx_iconst (v := 0) F dE_dropReadyAndParked_68 (by decide) ?_
    refine wx_put (ci := 2) (C := qnL) (T := TL) (N := 2) (ty := .int) F (43 + 2 * (j4 + 1)) (x_ltL (i := (j4 + 1)) (by omega)) (x_cL (j4 + 1) _) rfl hiL tyL tyL_ok nmL 1 (by decide) rfl lfE_210 rfl (by decide +kernel) rfl rfl (Nat.le_of_ble_eq_true rfl) (x_cL (j4 + 1) _) dE_dropReadyAndParked_69 (wx_nm (fun M8 e9 => ?_))
    refine wx_iinc (lv' := [(2, .int (x2 + 1)), (0, .ref (a 0)), (1, .int x1)]) F 2 dE_dropReadyAndParked_72 rfl (ii1 _) (by decide) rfl ?_
    refine wx_goto (tgt := 54) F dE_dropReadyAndParked_75 (by decide) ?_
    exact wx_lv [1, 2, 0] rfl (hK54 _ _ _ (h7 M8 e9))
theorem oE_dropReadyAndParked {l : Launch} {D : va_G} {cI cZ cL cE : ClassId} {a : Nat → Nat} {w : Nat} {post : Int32 → MM → Prop} (hJ : IJ (sX D cI cZ cL cE a w)) {M : MM} (h : ∀ G : CX, gl G = l → gR G = rmE_dropReadyAndParked → FX G (sX D cI cZ cL cE a w) cE_dropReadyAndParked 3 qnE (some .int) → wx G (sX D cI cZ cL cE a w) 3 (Qxi G (sX D cI cZ cL cE a w) post) M 0 [(0, .ref (a 0))] []) : Ci l (sX D cI cZ cL cE a w) yE_dropReadyAndParked wE_dropReadyAndParked rmE_dropReadyAndParked [.ref (a 0)] M post := Ci.of (cc := cE_dropReadyAndParked) (nL := 3) rfl rfl (Nat.le_of_ble_eq_true rfl) hJ h
set_option maxRecDepth 20000 in
theorem sE_endChildlessWaiting_0 {G : CX} {D : va_G} {cI cZ cL cE : ClassId} {a : Nat → Nat} {w : Nat} {post : MM → Prop} (F : FX G (sX D cI cZ cL cE a w) cE_endChildlessWaiting 2 qnE none) (hw : w ≤ 4) (hR : gR G = rmE_endChildlessWaiting) {K10 : MM → Int32 → Prop} (hK10 : ∀ (M : MM) (x1 : Int32), K10 M x1 → wx G (sX D cI cZ cL cE a w) 2 (Qxv G (sX D cI cZ cL cE a w) post) M 10 [(0, .ref (a 0)), (1, .int x1)] []) {M : MM} (h : K10 M ((M 1 0) - 1)) : wx G (sX D cI cZ cL cE a w) 2 (Qxv G (sX D cI cZ cL cE a w) post) M 0 [(0, .ref (a 0))] [] := by
  refine wx_aload_n F 0 dE_endChildlessWaiting_0 rfl rfl ?_
  refine wx_get (ci := 0) (C := qnE) (T := TE) (N := 17) (v := .ref (a 1)) F 0 (x_lt (by decide)) rfl rfl hiE 1 (by decide) rfl lfE_25 rfl dE_endChildlessWaiting_1 ?_
  refine wx_get (ci := 1) (C := qnG) (T := TG) (N := 9) (v := .int (M 1 0)) F 1 (x_lt (by decide)) rfl rfl hiG 0 (by decide) rfl lfE_100 rfl dE_endChildlessWaiting_4 ?_
  refine wx_iconst (v := 1) F dE_endChildlessWaiting_7 (by decide) ?_
  refine wx_isub F dE_endChildlessWaiting_8 ?_
  refine wx_istore_n (lv' := [(1, .int ((M 1 0) - 1)), (0, .ref (a 0))]) F dE_endChildlessWaiting_9 rfl (by decide) rfl ?_
  exact wx_lv [1, 0] rfl (hK10 _ _ (h))
set_option maxRecDepth 20000 in
theorem sE_endChildlessWaiting_10 {G : CX} {D : va_G} {cI cZ cL cE : ClassId} {a : Nat → Nat} {w : Nat} {post : MM → Prop} (F : FX G (sX D cI cZ cL cE a w) cE_endChildlessWaiting 2 qnE none) (hw : w ≤ 4) (hR : gR G = rmE_endChildlessWaiting) {K10 : MM → Int32 → Prop} (hK10 : ∀ (M : MM) (x1 : Int32), K10 M x1 → wx G (sX D cI cZ cL cE a w) 2 (Qxv G (sX D cI cZ cL cE a w) post) M 10 [(0, .ref (a 0)), (1, .int x1)] []) {M : MM} {x1 : Int32} (h : (x1 < 0 → (post M)) ∧ (¬ x1 < 0 → (∃ j2 : Nat, x1 = nI j2 ∧ j2 < 24 ∧ ((¬ (M 38 j2) = 2 → (K10 M (x1 + (-1)))) ∧ ((M 38 j2) = 2 → (∃ po7 : Int32 → MM → Prop, Ci (gl G) (sX D cI cZ cL cE a w) yE_hasActiveChild wE_hasActiveChild rmE_hasActiveChild [.ref (a 0), .int x1] M po7 ∧ ∀ (r10 : Int32) (M11 : MM), po7 r10 M11 → ((¬ r10 = 0 → (K10 M11 (x1 + (-1)))) ∧ (r10 = 0 → (∀ M14 : MM, M14 = mp M11 38 j2 0 → (K10 M14 (x1 + (-1)))))))))))) : wx G (sX D cI cZ cL cE a w) 2 (Qxv G (sX D cI cZ cL cE a w) post) M 10 [(0, .ref (a 0)), (1, .int x1)] [] := by
  refine wx_iload_n F 1 dE_endChildlessWaiting_10 rfl rfl ?_
  refine wx_if_lt (tgt := 45) F dE_endChildlessWaiting_11 (by decide) (fun g1 => ?_) (fun g1 => ?_)
  · exact wx_vret F dE_endChildlessWaiting_45 ((h).1 g1)
  · refine wx_aload_n F 0 dE_endChildlessWaiting_14 rfl rfl ?_
    refine wx_get (ci := 0) (C := qnE) (T := TE) (N := 17) (v := .ref (a 38)) F 0 (x_lt (by decide)) rfl rfl hiE 6 (by decide) rfl lfE_57 rfl dE_endChildlessWaiting_15 ?_
    refine wx_iload_n F 1 dE_endChildlessWaiting_18 rfl rfl ?_
    obtain ⟨j2, e3, b4, h5⟩ := (h).2 g1
    refine wx_iald (N := 24) F 38 (x_lt (by decide)) rfl 0 rfl e3 b4 (by omega) dE_endChildlessWaiting_19 ?_
    refine wx_iconst (v := 2) F dE_endChildlessWaiting_20 (by decide) ?_
    refine wx_icmp_ne (tgt := 39) F dE_endChildlessWaiting_21 (by decide) (fun g6 => ?_) (fun g6 => ?_)
    · refine wx_iinc (lv' := [(1, .int (x1 + (-1))), (0, .ref (a 0))]) F 1 dE_endChildlessWaiting_39 rfl (iim1 _) (by decide) rfl ?_
      refine wx_goto (tgt := 10) F dE_endChildlessWaiting_42 (by decide) ?_
      exact wx_lv [1, 0] rfl (hK10 _ _ ((h5).1 g6))
    · refine wx_aload_n F 0 dE_endChildlessWaiting_24 rfl rfl ?_
      refine wx_iload_n F 1 dE_endChildlessWaiting_25 rfl rfl ?_
      obtain ⟨po7, c8, h9⟩ := (h5).2 g6
      refine wx_calli F 0 c8 (x_lt (by decide)) rfl rfl (cw_V F.1.2.2.2.2 lmE_164 cbE_hasActiveChild rfl rfl ⟨by rw [hR]; exact Nat.le_of_ble_eq_true rfl, by rw [hR]; exact Nat.le_of_ble_eq_true rfl⟩) rfl rfl (Nat.le_of_ble_eq_true rfl) dE_endChildlessWaiting_26 (fun r10 M11 p12 => ?_)
      refine wx_if_ne (tgt := 39) F dE_endChildlessWaiting_29 (by decide) (fun g13 => ?_) (fun g13 => ?_)
      · refine wx_iinc (lv' := [(1, .int (x1 + (-1))), (0, .ref (a 0))]) F 1 dE_endChildlessWaiting_39 rfl (iim1 _) (by decide) rfl ?_
        refine wx_goto (tgt := 10) F dE_endChildlessWaiting_42 (by decide) ?_
        exact wx_lv [1, 0] rfl (hK10 _ _ ((h9 r10 M11 p12).1 g13))
      · refine wx_aload_n F 0 dE_endChildlessWaiting_32 rfl rfl ?_
        refine wx_get (ci := 0) (C := qnE) (T := TE) (N := 17) (v := .ref (a 38)) F 0 (x_lt (by decide)) rfl rfl hiE 6 (by decide) rfl lfE_57 rfl dE_endChildlessWaiting_33 ?_
        refine wx_iload_n F 1 dE_endChildlessWaiting_36 rfl rfl ?_
        refine wx_iconst (v := 0) F dE_endChildlessWaiting_37 (by decide) ?_
        refine wx_iast (N := 24) F 38 (x_lt (by decide)) (fun _ => rfl) 0 rfl e3 b4 (by omega) dE_endChildlessWaiting_38 (wx_nm (fun M14 e15 => ?_))
        refine wx_iinc (lv' := [(1, .int (x1 + (-1))), (0, .ref (a 0))]) F 1 dE_endChildlessWaiting_39 rfl (iim1 _) (by decide) rfl ?_
        refine wx_goto (tgt := 10) F dE_endChildlessWaiting_42 (by decide) ?_
        exact wx_lv [1, 0] rfl (hK10 _ _ (((h9 r10 M11 p12).2 g13) M14 e15))
theorem oE_endChildlessWaiting {l : Launch} {D : va_G} {cI cZ cL cE : ClassId} {a : Nat → Nat} {w : Nat} {post : MM → Prop} (hJ : IJ (sX D cI cZ cL cE a w)) {M : MM} (h : ∀ G : CX, gl G = l → gR G = rmE_endChildlessWaiting → FX G (sX D cI cZ cL cE a w) cE_endChildlessWaiting 2 qnE none → wx G (sX D cI cZ cL cE a w) 2 (Qxv G (sX D cI cZ cL cE a w) post) M 0 [(0, .ref (a 0))] []) : Cv l (sX D cI cZ cL cE a w) yE_endChildlessWaiting wE_endChildlessWaiting rmE_endChildlessWaiting [.ref (a 0)] M post := Cv.of (cc := cE_endChildlessWaiting) (nL := 2) rfl rfl (Nat.le_of_ble_eq_true rfl) hJ h
