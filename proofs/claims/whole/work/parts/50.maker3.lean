/-! The class's own maker: the loop of lines and the start -/
set_option maxRecDepth 100000 in
set_option maxHeartbeats 4000000 in
theorem e_loop {G : CX} {D : va_G} {cI cZ cL cE : ClassId} {U0 : UU} {w q0 : Nat} (hw : w ≤ 4) (F : FH G cE_init 3 qnE) (hRm : gR G = rmE_init) (hin : (gme G).name = "<init>") (hK : va_K D vwC [(cI, .int), (cZ, .boolean)] (gs G)) (hKL : va_K D vwC [(cI, .int), (cZ, .boolean), (cL, .object qnL)] (gs G)) (hK4 : va_K D vwC [(cI, .int), (cZ, .boolean), (cL, .object qnL), (cE, .array .int)] (gs G)) (hX : EX (gs G)) (hlo : (gme G).locks = false) (hr : (gme G).sig.returnType = none) : ∀ k j : Nat, j + k = w + 1 → ∀ (a : Nat → Nat) (E : Nat → va_E), a 0 = q0 → E 0 = .inr (0, [.int (nI w), .ref (a 1), .ref (a 34), .ref (a 37), .null, .null, .null, .null, .null, .null, .int 0, .int 0, .int 0, .int 0, .int 0, .int 0, .int 0]) → EG cI cE a E → EL cI cL w j a E → wh G (AG U0 (gs G).heap.size) 3 (Qg G D U0 (fun cL cE => [(cI, .int), (cZ, .boolean), (cL, .object qnL), (cE, .array .int)]) (fun u => EP cI cZ u.2.1 u.2.2 w q0 u.1) 54 616) (pwu D (AG U0 (gs G).heap.size) (38 + 2 * j, a, E)) (37 + 2 * j) (356 + w + 26 * j) 54 [(2, .int (nI j)), (0, .ref q0)] []
  | 0, j, hj, a, E, ha, h0, hG, hL => by
    have hj : j = w + 1 := hj
    subst hj
    refine wh_iload_n F 0 dE_init_54 rfl rfl ?_
    refine wh_aload_n F 1 dE_init_55 rfl rfl ?_
    refine wh_get F hK hiE 0 (show 0 < 38 + 2 * (w + 1) by omega) h0 rfl 0 (by decide) lfE_18 rfl rfl dE_init_56 ha.symm ?_
    refine wh_icmp_gt (tgt := 81) F dE_init_59 (by decide) (fun h => ?_) (fun h => absurd ((nlt (by omega) (by omega)).mpr (Nat.lt_succ_self w)) h)
    refine wh_lv [1] (lv' := [(0, .ref q0)]) rfl ?_
    refine wh_wide (cl' := 47) (sl' := 490) (by omega) (by omega) ?_
    rw [show 38 + 2 * (w + 1) = 40 + 2 * w by omega]
    exact e_tail (x := 0) hw F hRm hin hK hK4 hX hlo hr a E ha h0 hG hL
  | k + 1, j, hj, a, E, ha, h0, hG, hL => by
    have hA : ∀ q, (gs G).heap.size ≤ q → AG U0 (gs G).heap.size q := fun q h => Or.inr h
    refine wh_iload_n F 0 dE_init_54 rfl rfl ?_
    refine wh_aload_n F 1 dE_init_55 rfl rfl ?_
    refine wh_get F hK hiE 0 (show 0 < 38 + 2 * j by omega) h0 rfl 0 (by decide) lfE_18 rfl rfl dE_init_56 ha.symm ?_
    refine wh_icmp_gt (tgt := 81) F dE_init_59 (by decide) (fun h => absurd ((nlt (by omega) (by omega)).mp h) (by omega)) (fun h => ?_)
    refine wh_aload_n F 1 dE_init_62 rfl rfl ?_
    refine wh_get F hK hiE 0 (show 0 < 38 + 2 * j by omega) h0 rfl 3 (by decide) lfE_38 rfl rfl dE_init_63 ha.symm ?_
    refine wh_iload_n F 0 dE_init_66 rfl rfl ?_
    refine e_line F hK hX hA (by rw [hRm]; exact ⟨by decide, by decide⟩) dE_init_67 dE_init_70 dE_init_71 (by rw [hRm]; show 37 + 2 * j + 2 ≤ 54; omega) (by rw [hRm]; show 356 + w + 26 * j + 26 ≤ 616; omega) (Nat.le_of_ble_eq_true rfl) (fun a1 E1 ea eE hp1 hp2 => ?_)
    obtain ⟨⟨f, hf, hf2⟩, hl⟩ := hL
    refine wh_astq F hKL 37 2 (38 + 2 * j) 2 (show 37 < 38 + 2 * j + 2 by omega) (show 38 + 2 * j < 38 + 2 * j + 2 by omega) ((eE 37 (by omega)).trans hf) rfl hp1 rfl (show j < w + 1 by omega) (by omega) dE_init_74 (ea 37 (by omega)).symm rfl ?_
    refine wh_iinc (v := nI (j + 1)) (lv' := [(2, .int (nI (j + 1))), (0, .ref q0)]) F 0 dE_init_75 rfl (nI_1 j) (by decide) rfl ?_
    refine wh_goto (tgt := 54) F dE_init_78 (by decide) ?_
    refine wh_wide (cl' := 37 + 2 * (j + 1)) (sl' := 356 + w + 26 * (j + 1)) (by omega) (by omega) ?_
    refine e_loop hw F hRm hin hK hKL hK4 hX hlo hr k (j + 1) (by omega) a1 (fun k => if k = 37 then .inl (cL, w + 1, .inr (.inr (.inr (.inr (va_up f j (some (a1 (38 + 2 * j)))))))) else E1 k) ((ea 0 (by omega)).trans ha) ((if_neg (by omega)).trans (by rw [eE 0 (by omega), h0, ea 1 (by omega), ea 34 (by omega), ea 37 (by omega)])) (EG_eq hG (fun i hi => ea i (by omega)) (fun i h1 h2 => (if_neg (by omega)).trans (eE i (by omega)))) ⟨⟨va_up f j (some (a1 (38 + 2 * j))), if_pos rfl, fun l hl2 => ?_⟩, fun l hl2 => ?_⟩
    · unfold va_up
      by_cases q : l = j
      · rw [if_pos q, q]
      · rw [if_neg q, hf2 l (by omega), ea _ (by omega)]
    · by_cases q : l = j
      · subst q
        exact ⟨(if_neg (by omega)).trans hp1, (if_neg (by omega)).trans hp2⟩
      · obtain ⟨g1, g2⟩ := hl l (by omega)
        refine ⟨(if_neg (by omega)).trans ?_, (if_neg (by omega)).trans ?_⟩
        · rw [eE _ (by omega), g1, ea _ (by omega)]
        · rw [eE _ (by omega), g2]
set_option maxRecDepth 100000 in
set_option maxHeartbeats 4000000 in
theorem kE_init (l : Launch) (D : va_G) (cI cZ : ClassId) (q0 : Nat) (x : Int32) : Cg l D yE_init wE_init rmE_init [.ref q0, .int x] (u1 q0 (.inr (0, dfE))) [(cI, .int), (cZ, .boolean)] EX 54 616 (fun cL cE => [(cI, .int), (cZ, .boolean), (cL, .object qnL), (cE, .array .int)]) (fun u => EP cI cZ u.2.1 u.2.2 (wk x) q0 u.1) := by
  refine Cg.of (cc := cE_init) (nL := 3) rfl rfl rfl (Nat.le_of_ble_eq_true rfl) (fun G hl hRR hin F hK hX hlo hr => ?_)
  have hR : gR G = rmE_init := hRR
  have hw := wk_in x
  have hA : ∀ q, (gs G).heap.size ≤ q → AG (u1 q0 (.inr (0, dfE))) (gs G).heap.size q := fun q h => Or.inr h
  refine wh_aload_n F 0 dE_init_0 rfl rfl ?_
  refine wh_objInit F lmE_3 dE_init_1 (by rw [hR]; exact Nat.le_of_ble_eq_true rfl) (by rw [hR]; exact Nat.le_of_ble_eq_true rfl) ?_
  refine wh_aload_n F 0 dE_init_4 rfl rfl ?_
  refine wh_iconst (v := 1) F dE_init_5 (by decide) ?_
  refine wh_iload_n F 1 dE_init_6 rfl rfl ?_
  refine wh_iconst (v := 4) F dE_init_7 (by decide) ?_
  refine wh_mmin F lmE_9 (by rw [hR]; exact Nat.le_of_ble_eq_true rfl) (by rw [hR]; exact Nat.le_of_ble_eq_true rfl) (by rw [hR]; exact Nat.le_of_ble_eq_true rfl) (by rw [hR]; exact Nat.le_of_ble_eq_true rfl) dE_init_8 ?_
  refine wh_mmax F lmE_15 (by rw [hR]; exact Nat.le_of_ble_eq_true rfl) (by rw [hR]; exact Nat.le_of_ble_eq_true rfl) (by rw [hR]; exact Nat.le_of_ble_eq_true rfl) (by rw [hR]; exact Nat.le_of_ble_eq_true rfl) dE_init_11 ?_
  rw [mm_wk]
  refine wh_putF F hK hin hiE tyE tyE_ok nmE 0 (Nat.le_of_ble_eq_true rfl) rfl rfl 0 (by decide) lfE_18 rfl rfl rfl (ty := .int) (by decide +kernel) rfl rfl (Nat.le_of_ble_eq_true rfl) dE_init_14 rfl ?_
  refine wh_aload_n F 0 dE_init_17 rfl rfl ?_
  refine wh_new F hK hA (C := qnG) (ci := 1) hiG tyG tyG_ok lcE_22 nsG inG rfl (fs := dfG) (by decide +kernel) (by rw [hR]; exact Nat.le_of_ble_eq_true rfl) (by rw [hR]; exact Nat.le_of_ble_eq_true rfl) dE_init_18 (fun q1 => ?_)
  refine wh_dup F dE_init_21 rfl ?_
  refine wh_ctorN F hA hK (X := AOA) hX.2.2.2 AOA_XM (kG_init (gl G) D cI cZ _ _ rfl) ⟨va_cnB 0 F.2.2.2.2 (gd_init coG) rfl rfl rfl hX.1 (F.2.2.2.2 _ inG) (by decide +kernel) (by rw [hR]; exact ⟨Nat.le_of_ble_eq_true rfl, Nat.le_of_ble_eq_true rfl⟩), rfl, F.2.2.2.2 _ imG⟩ rfl rfl (Nat.le_of_ble_eq_true rfl) dE_init_22 (by rw [hR]; exact ⟨Nat.le_of_ble_eq_true rfl, Nat.le_of_ble_eq_true rfl⟩) (fun U1 cE c2 hp hKE => ?_)
  obtain ⟨n1, a, E⟩ := U1
  obtain ⟨h1, hb, hE0, hE1, g2, g3, g4, g5, g6, g7, g31, g32, g33⟩ := hp
  have h1 : n1 = 34 := h1
  subst h1
  dsimp only at hb hE0 hE1 g2 g3 g4 g5 g6 g7 g31 g32 g33
  have ha0 : a 0 = q0 := hb 0 (by omega)
  have ha1 : a 1 = q1 := hb 1 (by omega)
  have hE0 : E 0 = .inr (0, dfE.set 0 (.int (nI (wk x)))) := hE0
  rw [← ha1]
  clear hb
  refine wh_putF F hK hin hiE tyE tyE_ok nmE 0 (Nat.le_of_ble_eq_true rfl) hE0 rfl 1 (by decide) lfE_25 rfl rfl rfl (ty := .object qnG) (by decide +kernel) rfl rfl (Nat.le_of_ble_eq_true rfl) dE_init_25 ha0.symm ?_
  refine wh_aload_n F 0 dE_init_28 rfl rfl ?_
  refine wh_new F hK hA (C := qnP) (ci := 3) hiP tyP tyP_ok lcE_29 nsP inP rfl (fs := [.null, .null]) (by decide +kernel) (by rw [hR]; exact Nat.le_of_ble_eq_true rfl) (by rw [hR]; exact Nat.le_of_ble_eq_true rfl) dE_init_29 (fun q2 => ?_)
  refine wh_dup F dE_init_32 rfl ?_
  refine wh_ctor F hA hK (X := fun _ => True) trivial XM_tt (kP_init (gl G) D cI cZ _ _ rfl) (cwI 0 F.2.2.2.2 (gd_init coP) rfl rfl rfl (F.2.2.2.2 _ inP) (F.2.2.2.2 _ lmE_31) (F.2.2.2.2 _ imP) rfl (by decide +kernel) (by rw [hR]; exact ⟨Nat.le_of_ble_eq_true rfl, Nat.le_of_ble_eq_true rfl⟩)) rfl rfl (Nat.le_of_ble_eq_true rfl) dE_init_33 (by rw [hR]; exact ⟨Nat.le_of_ble_eq_true rfl, Nat.le_of_ble_eq_true rfl⟩) (fun U2 c3 c4 hp _ => ?_)
  obtain ⟨n2, a2, E2⟩ := U2
  obtain ⟨h1, hb, hE, k34, k35, k36⟩ := hp
  have h1 : n2 = 37 := h1
  subst h1
  dsimp only at hb hE k34 k35 k36
  have hb' : ∀ i, i < 34 → a2 i = a i := fun i hi => (hb i (by omega)).trans (if_neg (show ¬ i = 34 by omega))
  have hb34 : a2 34 = q2 := (hb 34 (by omega)).trans (if_pos rfl)
  have hE' : ∀ i, 1 ≤ i → i < 34 → E2 i = E i := fun i h1 h2 => (hE i h2).trans ((if_neg (show ¬ i = 34 by omega)).trans (if_neg (show ¬ i = 0 by omega)))
  have hE20 : E2 0 = .inr (0, [.int (nI (wk x)), .ref (a2 1), .null, .null, .null, .null, .null, .null, .null, .null, .int 0, .int 0, .int 0, .int 0, .int 0, .int 0, .int 0]) := by
    rw [hE 0 (by omega), hb' 1 (by omega)]
    rfl
  have hGG : EG cI cE a2 E2 := by
    refine ⟨?_, (hE' 2 (by omega) (by omega)).trans g2, (hE' 3 (by omega) (by omega)).trans g3, (hE' 4 (by omega) (by omega)).trans g4, (hE' 5 (by omega) (by omega)).trans g5, ?_, fun t ht => (hE' _ (by omega) (by omega)).trans (g7 t ht), (hE' 31 (by omega) (by omega)).trans g31, (hE' 32 (by omega) (by omega)).trans g32, (hE' 33 (by omega) (by omega)).trans g33, k34, k35, k36⟩
    · rw [hE' 1 (by omega) (by omega), hE1, hb' 2 (by omega), hb' 3 (by omega), hb' 4 (by omega), hb' 5 (by omega), hb' 6 (by omega), hb' 31 (by omega), hb' 32 (by omega), hb' 33 (by omega)]
    · obtain ⟨r, h6, h7⟩ := g6
      exact ⟨r, (hE' 6 (by omega) (by omega)).trans h6, fun t ht => (hb' _ (by omega)).trans (h7 t ht)⟩
  have ha20 : a2 0 = q0 := (hb' 0 (by omega)).trans ha0
  rw [← hb34]
  clear hE hE' hb hb' k34 k35 k36 hE1 g2 g3 g4 g5 g6 g7 g31 g32 g33 hE0
  refine wh_putF F hK hin hiE tyE tyE_ok nmE 0 (Nat.le_of_ble_eq_true rfl) hE20 rfl 2 (by decide) lfE_32 rfl rfl rfl (ty := .object qnP) (by decide +kernel) rfl rfl (Nat.le_of_ble_eq_true rfl) dE_init_36 ha20.symm ?_
  refine wh_aload_n F 0 dE_init_39 rfl rfl ?_
  refine wh_aload_n F 0 dE_init_40 rfl rfl ?_
  refine wh_get F hK hiE 0 (Nat.le_of_ble_eq_true rfl) rfl rfl 0 (by decide) lfE_18 rfl rfl dE_init_41 ha20.symm ?_
  refine wh_iconst (v := 1) F dE_init_44 (by decide) ?_
  refine wh_iadd F dE_init_45 ?_
  rw [nI_1]
  refine wh_newq F hK hA (C := qnL) lcE_36 hX.2.2.1 (N := wk x + 1) (nneg (by omega)) (nI_clamp (by omega)) (by omega) (by rw [hR]; exact Nat.le_of_ble_eq_true rfl) (by rw [hR]; show 355 + (wk x + 1) ≤ 616; omega) dE_init_46 (fun q3 cL hKL => ?_)
  refine wh_putF F hK hin hiE tyE tyE_ok nmE 0 (Nat.le_of_ble_eq_true rfl) rfl rfl 3 (by decide) lfE_38 rfl rfl rfl (ty := .array (.object qnL)) (by decide +kernel) rfl rfl (Nat.le_of_ble_eq_true rfl) dE_init_49 ha20.symm ?_
  refine wh_iconst (v := 0) F dE_init_52 (by decide) ?_
  refine wh_istore_n F dE_init_53 rfl (by decide) rfl ?_
  refine wh_lv [0, 1] (lv' := [(2, .int (nI 0)), (0, .ref q0)]) rfl ?_
  refine wh_wide (cl' := 37 + 2 * 0) (sl' := 356 + wk x + 26 * 0) (Nat.le_of_ble_eq_true rfl) (by show 355 + (wk x + 1) ≤ _; omega) ?_
  have hK4 : va_K D vwC [(cI, .int), (cZ, .boolean), (cL, .object qnL), (cE, .array .int)] (gs G) := ⟨hKL.1, fun k q hk => by
    match k, hk with
    | 0, hk => exact hKL.2 0 q hk
    | 1, hk => exact hKL.2 1 q hk
    | 2, hk => exact hKL.2 2 q hk
    | 3, hk => exact hKE.2 2 q hk
    | k + 4, hk => exact absurd hk (by simp)⟩
  exact e_loop hw.2 F hR hin hK hKL hK4 hX hlo hr (wk x + 1) 0 (by omega) (fun k => if k = 37 then q3 else a2 k) _ ha20 rfl (EG_eq hGG (fun i hi => if_neg (by omega)) (fun i h1 h2 => (if_neg (show ¬ i = 0 by omega)).trans ((if_neg (show ¬ i = 37 by omega)).trans (if_neg (show ¬ i = 0 by omega))))) ⟨⟨fun _ => none, rfl, fun l hl => absurd hl (by omega)⟩, fun l hl => absurd hl (by omega)⟩
