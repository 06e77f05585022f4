/-! Arrays.fill, of an int array that is a cell of a system -/
theorem kA_fillS {l : Launch} {S : SX} (hJ : IJ S) {cI : ClassId} {N : Nat} (hN : N < 1000) (k : Nat) (hk : k < xn S) (hc : ∀ f, xf S k f = .inl (cI, N, .inl f)) (t0 : Nat) (ht : (xT S)[t0]? = some (cI, .int)) (M : MM) (x : Int32) : Cv l S yA_fill wA_fill rmA_fill [.ref (xa S k), .int x] M (fun M' => M' = va_up M k (fun i => if i < N then x else M k i)) := by
  refine Cv.of (cc := cA_fill) (nL := 4) rfl rfl (Nat.le_of_ble_eq_true rfl) hJ (fun G hl hR F => ?_)
  have lp : ∀ m j M', j + m = N → M' = va_up M k (fun i => if i < j then x else M k i) → wx G S 4 (Qxv G S (fun M' => M' = va_up M k (fun i => if i < N then x else M k i))) M' 5 [(3, .int (nI N)), (2, .int (nI j)), (0, .ref (xa S k)), (1, .int x)] [] := by
    intro m
    induction m with
    | zero =>
      intro j M' hj hM
      have hj : j = N := by omega
      subst hj
      refine wx_iload_n F 1 dA_fill_5 rfl rfl ?_
      refine wx_iload_n F 0 dA_fill_6 rfl rfl ?_
      refine wx_icmp_ge (tgt := 20) F dA_fill_7 (by decide) (fun _ => ?_) (fun g => absurd ((nI_leI (by omega) (by omega)).mpr (Nat.le_refl _)) g)
      exact wx_vret F dA_fill_20 hM
    | succ m ih =>
      intro j M' hj hM
      refine wx_iload_n F 1 dA_fill_5 rfl rfl ?_
      refine wx_iload_n F 0 dA_fill_6 rfl rfl ?_
      refine wx_icmp_ge (tgt := 20) F dA_fill_7 (by decide) (fun g => ?_) (fun _ => ?_)
      · have := (nI_leI (by omega) (by omega)).mp g
        omega
      · refine wx_aload_n F 2 dA_fill_10 rfl rfl ?_
        refine wx_iload_n F 1 dA_fill_11 rfl rfl ?_
        refine wx_iload_n F 3 dA_fill_12 rfl rfl ?_
        refine wx_iast F k hk hc t0 ht rfl (i := j) (by omega) (by omega) dA_fill_13 ?_
        refine wx_iinc (lv' := [(2, .int (nI j + 1)), (3, .int (nI N)), (0, .ref (xa S k)), (1, .int x)]) F 1 dA_fill_14 rfl (ii1 _) (by decide) rfl ?_
        refine wx_goto (tgt := 5) F dA_fill_17 (by decide) ?_
        refine wx_lv [1, 0, 2, 3] rfl ?_
        rw [nI_1]
        refine ih (j + 1) _ (by omega) ?_
        rw [hM]
        funext k' i
        rw [mp_at]
        unfold va_up
        by_cases e : k' = k
        · subst e
          by_cases e2 : i = j
          · rw [if_pos ⟨rfl, e2⟩, if_pos rfl, if_pos (by omega)]
          · rw [if_neg (fun z => e2 z.2), if_pos rfl, if_pos rfl]
            by_cases e3 : i < j
            · rw [if_pos e3, if_pos (by omega)]
            · rw [if_neg e3, if_neg (by omega)]
        · rw [if_neg (fun z => e z.1), if_neg e, if_neg e]
  refine wx_iconst (v := 0) F dA_fill_0 (by decide) ?_
  refine wx_istore_n (lv' := [(2, .int 0), (0, .ref (xa S k)), (1, .int x)]) F dA_fill_1 rfl (by decide) rfl ?_
  refine wx_aload_n F 1 dA_fill_2 rfl rfl ?_
  refine wx_alen (N := N) (v := nI N) F k hk (hc _) t0 ht rfl dA_fill_3 ?_
  refine wx_istore_n (lv' := [(3, .int (nI N)), (2, .int 0), (0, .ref (xa S k)), (1, .int x)]) F dA_fill_4 rfl (by decide) rfl ?_
  refine lp N 0 M (by omega) ?_
  funext k' i
  unfold va_up
  by_cases e : k' = k
  · subst e; rw [if_pos rfl, if_neg (Nat.not_lt_zero _)]
  · rw [if_neg e]
theorem kA_fill {l : Launch} {D : va_G} {cI cZ cL cE : ClassId} {a : Nat → Nat} {w : Nat} (hJ : IJ (sX D cI cZ cL cE a w)) (_hw : w ≤ 4) (M : MM) {k : Nat} (hk : k = 39 ∨ k = 40) (x : Int32) : Cv l (sX D cI cZ cL cE a w) yA_fill wA_fill rmA_fill [.ref (a k), .int x] M (fun M' => M' = va_up M k (fun i => if i < 24 then x else M k i)) := by
  rcases hk with rfl | rfl
  · exact kA_fillS (N := 24) hJ (by omega) 39 (x_lt (by decide)) (fun _ => rfl) 0 rfl M x
  · exact kA_fillS (N := 24) hJ (by omega) 40 (x_lt (by decide)) (fun _ => rfl) 0 rfl M x
