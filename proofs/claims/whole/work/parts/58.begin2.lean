/-! From the law's entry to its loop -/
theorem z_K {G : CX} (ht : ∀ w ∈ lw_g, w.before (gA G) (gs G) = true) : ∃ (D : va_G) (cI cZ : ClassId), va_K D vwC [(cI, .int), (cZ, .boolean)] (gs G) := by
  obtain ⟨c0, i0, k0⟩ := u_known (T := TE) (N := 17) ht hiE (ht _ nsE)
  obtain ⟨c1, i1, k1⟩ := u_known (T := TG) (N := 9) ht hiG (ht _ nsG)
  obtain ⟨c2, i2, k2⟩ := u_known (T := TL) (N := 2) ht hiL (ht _ nsL)
  obtain ⟨c3, i3, k3⟩ := u_known (T := TP) (N := 2) ht hiP (ht _ nsP)
  obtain ⟨c4, i4, k4⟩ := u_known (T := TR) (N := 25) ht hiR (ht _ nsR)
  obtain ⟨a, ka, ca, fa1, fa2, fa3⟩ := Cond.arrayClass_spec (ht _ lw_int)
  obtain ⟨z, kz, cz, fz1, fz2, fz3⟩ := Cond.arrayClass_spec (ht _ lw_bool)
  refine ⟨(fun c => match c with | 0 => c0 | 1 => c1 | 2 => c2 | 3 => c3 | _ => c4, fun c => match c with | 0 => i0 | 1 => i1 | 2 => i2 | 3 => i3 | _ => i4), a, z, fun c q hc => ?_, fun k q hk => ?_⟩
  · match c, hc with
    | 0, hc => cases hc; exact k0
    | 1, hc => cases hc; exact k1
    | 2, hc => cases hc; exact k2
    | 3, hc => cases hc; exact k3
    | 4, hc => cases hc; exact k4
    | c + 5, hc => exact absurd hc (by simp)
  · match k, hk with
    | 0, hk => cases hk; exact ⟨fun N z => ⟨(fun k h => by cases h), ka, fa2, ca, fa3⟩, fa1⟩
    | 1, hk => cases hk; exact ⟨fun N z => ⟨(fun k h => by cases h), kz, fz2, cz, fz3⟩, fz1⟩
    | k + 2, hk => exact absurd hk (by simp)
theorem z_EX {G : CX} (hts : ∀ w ∈ lw_tbl, w.before (gA G) (gs G) = true) : EX (gs G) := ⟨va_Nw.of rfl (hts _ lmE_24), va_Nw.of rfl (hts _ lmE_42), hts _ lw_ovL, hts _ lw_ovI⟩
theorem wu_1 (q : Nat) (e : va_E) : wu (u1 q e) = [(q, e)] := rfl
theorem pwu_last {D : va_G} {A : Nat → Prop} {V : UU} {q : Nat} {e : va_E} {H : Heap} (h : pwu D A (ups V q e) H) : pwu D A (u1 q e) H ∧ va_P D vwC (wu V) H ∧ va_D A (wu V) ∧ ∀ k, k < V.1 → V.2.1 k ≠ q := by
  obtain ⟨hP, hD⟩ := h
  rw [wu_ups] at hP hD
  have hl : ((wu V) ++ [(q, e)])[V.1]? = some (q, e) := by rw [List.getElem?_append_right (by rw [wu_len]; omega), wu_len, Nat.sub_self]; rfl
  have hf : ∀ k x, (wu V)[k]? = some x → ((wu V) ++ [(q, e)])[k]? = some x := fun k x hk => by rw [List.getElem?_append_left (List.getElem?_eq_some_iff.mp hk).1]; exact hk
  refine ⟨⟨fun k x hk => ?_, fun i j p r hi hj _ => ?_, fun k x hk => ?_⟩, fun k x hk => hP k x (hf k x hk), ⟨fun i j p r hi hj ee => hD.1 i j p r (hf i p hi) (hf j r hj) ee, fun k x hk => hD.2 k x (hf k x hk)⟩, fun k hk ee => ?_⟩
  · obtain ⟨h1, rfl⟩ := wu_of hk
    exact hP V.1 _ hl
  · have h1 := (wu_of hi).1
    have h2 := (wu_of hj).1
    have h1 : i < 1 := h1
    have h2 : j < 1 := h2
    omega
  · obtain ⟨h1, rfl⟩ := wu_of hk
    exact hD.2 V.1 _ hl
  · have := hD.1 k V.1 _ _ (hf k _ (wu_at hk)) hl ee
    omega
set_option maxRecDepth 100000 in
set_option maxHeartbeats 4000000 in
theorem z_start {G : CX} {Q : State → Prop} {b L : Nat} {xs : Nat → Int32} (Z : ZF G b L xs) (hts : ∀ w ∈ lw_tbl, w.before (gA G) (gs G) = true) (hend : ∀ (P : Heap → Prop) (lv : List (Nat × Value)), wh G (AL G) 4 Q P 70 1646 565 lv []) : wh G (AL G) 4 Q (fun _ => True) 0 0 0 [(0, .ref b)] [] := by
  have F := Z.1
  have hR := Z.2.1
  have hA : ∀ q, (gs G).heap.size ≤ q → AL G q := fun q h => h
  obtain ⟨D, cI, cZ, hK⟩ := z_K (G := G) F.2.2.2.2
  refine wh_P (P' := pwu D (AL G) (0, fun _ => 0, fun _ => .inr (0, []))) (fun H _ => ⟨fun k q hk => absurd hk (by simp [wu]), fun i j p q hi _ _ => absurd hi (by simp [wu]), fun k q hk => absurd hk (by simp [wu])⟩) ?_
  refine wh_new F hK hA (C := qnE) (ci := 0) hiE tyE tyE_ok lcZ_7 nsE inE rfl (fs := dfE) (by decide +kernel) (by rw [hR]; exact Nat.le_of_ble_eq_true rfl) (by rw [hR]; exact Nat.le_of_ble_eq_true rfl) dZ_law_0 (fun q => ?_)
  refine wh_dup F dZ_law_3 rfl ?_
  refine wh_aload_n F 0 dZ_law_4 rfl rfl ?_
  refine wh_iconst (v := 0) F dZ_law_5 (by decide) ?_
  refine wh_cell Z ⟨Nat.le_of_ble_eq_true rfl, Nat.le_of_ble_eq_true rfl⟩ pwu_1 dZ_law_6 (Nat.le_of_ble_eq_true rfl) ?_
  obtain ⟨x, hx⟩ : ∃ x, (if 0 < L then xs 0 else 0) = x := ⟨_, rfl⟩
  rw [hx]
  refine wh_P (P' := pwu D (AL G) (u1 q (.inr (0, dfE)))) (fun H h => (pwu_last h).1) ?_
  refine wh_ctor F hA hK (X := EX) (z_EX hts) EX_XM (kE_init (gl G) D cI cZ q x) (cwI 1 F.2.2.2.2 (gd_init coE) rfl rfl rfl (F.2.2.2.2 _ inE) (F.2.2.2.2 _ lmZ_15) (F.2.2.2.2 _ imE) rfl (by decide +kernel) (by rw [hR]; exact ⟨Nat.le_of_ble_eq_true rfl, Nat.le_of_ble_eq_true rfl⟩)) rfl rfl (Nat.le_of_ble_eq_true rfl) dZ_law_9 (by rw [hR]; exact ⟨Nat.le_of_ble_eq_true rfl, Nat.le_of_ble_eq_true rfl⟩) (fun V cL cE hp hK4 => ?_)
  have hp : EP cI cZ cL cE (wk x) q V := hp
  have hw := wk_in x
  refine wh_astore_n (lv' := [(1, .ref q), (0, .ref b)]) F dZ_law_12 rfl (by decide) rfl ?_
  refine wh_know (φ := IJ (sX D cI cZ cL cE (fun k => V.2.1 (px (wk x) k)) (wk x)) ∧ ∀ k, k < 43 + 2 * (wk x + 2) → AL G (V.2.1 (px (wk x) k))) (fun H h => EP_IJ hp h.2) (fun hJ => ?_)
  refine wh_new F hK hA (C := qnR) (ci := 4) hiR tyR tyR_ok lcZ_18 nsR inR rfl (fs := dfR) (by decide +kernel) (by rw [hR]; exact Nat.le_of_ble_eq_true rfl) (by rw [hR]; exact Nat.le_of_ble_eq_true rfl) dZ_law_13 (fun q2 => ?_)
  refine wh_dup F dZ_law_16 rfl ?_
  refine wh_aload_n F 1 dZ_law_17 rfl rfl ?_
  refine wh_iconst (v := 0) F dZ_law_18 (by decide) ?_
  refine wh_cell Z ⟨Nat.le_of_ble_eq_true rfl, Nat.le_of_ble_eq_true rfl⟩ pwu_1 dZ_law_19 (Nat.le_of_ble_eq_true rfl) ?_
  rw [hx]
  refine wh_know (φ := ∀ k, k < V.1 → V.2.1 k ≠ q2) (fun H h => (pwu_last h).2.2.2) (fun hne => ?_)
  refine wh_P (P' := fun H => pwu D (AL G) (u1 q2 (.inr (4, dfR))) H ∧ va_P D vwC (wl (sX D cI cZ cL cE (fun k => V.2.1 (px (wk x) k)) (wk x)) (M0 (wk x))) H) (fun H h => ⟨(pwu_last h).1, EP_wl hp (pwu_last h).2.1⟩) ?_
  have hV : ∀ k, k < 43 + 2 * (wk x + 2) → px (wk x) k < V.1 := fun k hk => by rw [hp.1]; exact px_lt (by omega)
  refine wh_ctorF F hA hK (X := fun _ => True) trivial XM_tt (Zs := fun z => ∃ k, k < 43 + 2 * (wk x + 2) ∧ V.2.1 (px (wk x) k) = z) (fun H H1 h hq => va_P.kept h (fun k r hk => by
    obtain ⟨h1, rfl⟩ := wl_of hk
    exact hq _ (va_at.lt (h k _ hk)) (fun ⟨i, _, ee⟩ => hne _ (hV k h1) ee.symm))) (fun H h z ⟨k, hk, ee⟩ => by
    rw [← ee]
    exact va_at.lt (h k _ (wl_at hk))) (kR_init (gl G) D cI cZ q2 x) (cwI 1 F.2.2.2.2 (gd_init coR) rfl rfl rfl (F.2.2.2.2 _ inR) (F.2.2.2.2 _ lmZ_20) (F.2.2.2.2 _ imR) rfl (by decide +kernel) (by rw [hR]; exact ⟨Nat.le_of_ble_eq_true rfl, Nat.le_of_ble_eq_true rfl⟩)) rfl rfl (Nat.le_of_ble_eq_true rfl) dZ_law_22 (by rw [hR]; exact ⟨Nat.le_of_ble_eq_true rfl, Nat.le_of_ble_eq_true rfl⟩) (fun U' c1 c2 hp2 _ hap => ?_)
  obtain ⟨am, ham, hU⟩ := hp2
  have hU : wu U' = wl (sM D cI cZ am) (Mr0 (wk x)) := hU
  have hn15 : U'.1 = 15 := by
    have := congrArg List.length hU
    rw [wu_len] at this
    simpa [wl] using this
  have hae : ∀ j, j < 15 → U'.2.1 j = am j := fun j hj => by
    have h1 := wu_at (U := U') (k := j) (by rw [hn15]; exact hj)
    rw [hU, wl_at (show j < 15 from hj)] at h1
    exact (congrArg Prod.fst (Option.some.inj h1)).symm
  refine wh_know (φ := IJ (sM D cI cZ am) ∧ ∀ k, k < 15 → AL G (am k)) (fun H h => ?_) (fun hJm => ?_)
  · have hD := h.1.2
    rw [hU] at hD
    exact ⟨fun i j hi hj ee => hD.1 i j _ _ (wl_at hi) (wl_at hj) ee, fun k hk => hD.2 k _ (wl_at (show k < 15 from hk))⟩
  refine wh_astore_n (lv' := [(2, .ref q2), (1, .ref q), (0, .ref b)]) F dZ_law_25 rfl (by decide) rfl ?_
  refine wh_iconst (v := 1) F dZ_law_26 (by decide) ?_
  refine wh_istore_n (lv' := [(3, .int 1), (2, .ref q2), (1, .ref q), (0, .ref b)]) F dZ_law_27 rfl (by decide) rfl ?_
  refine wh_lv [0, 3, 2, 1] (lv' := zl b (V.2.1 (px (wk x) 0)) (am 0) 1) (by rw [ham, show V.2.1 (px (wk x) 0) = q from hp.2.1]; rfl) ?_
  refine wh_P (P' := PZ D cI cZ cL cE (fun k => V.2.1 (px (wk x) k)) am (wk x) (M0 (wk x)) (Mr0 (wk x))) (fun H h => ⟨h.2, by rw [← hU]; exact h.1.1⟩) ?_
  exact z_loop (ax := fun k => V.2.1 (px (wk x) k)) Z ⟨hK4, hK, hJ.1, hJm.1, hJ.2, hJm.2, fun i hi j hj ee => by
    obtain ⟨k, _, ek⟩ := hap j (by rw [hn15]; exact hj) ⟨i, hi, by rw [hae j hj]; exact ee⟩
    exact hne _ (hV i hi) (ee.trans ((hae j hj).symm.trans ek.symm))⟩ ⟨Nat.le_of_ble_eq_true rfl, Nat.le_of_ble_eq_true rfl⟩ (fun Mx Mr i => hend _ _) L 1 (by omega) (by omega) (by omega) 0 (S0 (wk x)) (M0 (wk x)) (Mr0 (wk x)) 0 ⟨RX_S0 (wk x), RM_S0 hw.2, IA_S0 hw.2⟩ (by omega)
