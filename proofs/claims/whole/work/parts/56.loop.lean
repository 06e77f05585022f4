/-! The law's loop, the reading of a script, the making of both -/
theorem dZ_law_42 : decode cZ_law 42 = .ok (.tableswitch 517 0 18 #[90, 133, 166, 199, 212, 235, 258, 291, 314, 327, 340, 353, 366, 379, 392, 415, 438, 461, 494], 90) := by decide +kernel
theorem and31 (x : Int32) : ∃ v, v < 32 ∧ x &&& 31 = nI v := by
  refine ⟨(x.toBitVec &&& 31#32).toNat, ?_, ?_⟩
  · rw [BitVec.toNat_and]
    exact Nat.lt_of_le_of_lt Nat.and_le_right (by decide)
  · apply Int32.toBitVec_inj.mp
    show x.toBitVec &&& 31#32 = BitVec.ofNat 32 (x.toBitVec &&& 31#32).toNat
    simp
theorem len4 {L i : Nat} (hL : L ≤ 2049) (hi : i < 3000) : (nI L - 4 < nI i ↔ L < i + 4) := by
  by_cases h : 4 ≤ L
  · have e : nI L - 4 = nI (L - 4) := pk_sub (b := 4) h
    rw [e, nI_ltI (by omega) (by omega)]
    omega
  · have h0 : nI L - 4 < 0 := by
      have : L = 0 ∨ L = 1 ∨ L = 2 ∨ L = 3 := by omega
      rcases this with rfl | rfl | rfl | rfl <;> decide
    exact ⟨fun _ => by omega, fun _ => Int32.lt_of_lt_of_le h0 (nI_pos' (by omega))⟩
section ZL
variable {G : CX} {Q : State → Prop} {P : Heap → Prop} {cl sl pc b L : Nat} {xs : Nat → Int32} {lv : List (Nat × Value)} {rest : List Value}
theorem wh_tabIn {A : Nat → Prop} {cc : ByteArray} {nL : Nat} {own : String} (F : FH G cc nL own) {dflt lo hi : Int} {offs : Array Int} {len : Nat} {x : Int32} {off : Int} {tgt : Nat} (d : decode cc pc = .ok (.tableswitch dflt lo hi offs, len)) (h1 : ¬ x.toInt < lo) (h2 : ¬ hi < x.toInt) (ho : offs[(x.toInt - lo).toNat]? = some off) (ht : (pc : Int) + off = (tgt : Int)) (k : wh G A nL Q P cl sl tgt lv rest) : wh G A nL Q P cl sl pc lv (.int x :: rest) := fun H locs ls hP hS hl => lv_tableIn F.1 F.2.1 d h1 h2 ho ht (k H locs ls hP hS hl)
theorem wh_tabOut {A : Nat → Prop} {cc : ByteArray} {nL : Nat} {own : String} (F : FH G cc nL own) {dflt lo hi : Int} {offs : Array Int} {len : Nat} {x : Int32} {tgt : Nat} (d : decode cc pc = .ok (.tableswitch dflt lo hi offs, len)) (h : x.toInt < lo ∨ hi < x.toInt) (ht : (pc : Int) + dflt = (tgt : Int)) (k : wh G A nL Q P cl sl tgt lv rest) : wh G A nL Q P cl sl pc lv (.int x :: rest) := fun H locs ls hP hS hl => lv_tableOut F.1 F.2.1 d h ht (k H locs ls hP hS hl)
variable {D : va_G} {cI cZ cL cE : ClassId} {ax am : Nat → Nat} {w : Nat}
theorem z_loop (Z : ZF G b L xs) (C : ZC G D cI cZ cL cE ax am w) (hcs : cl ≤ 600000 ∧ sl ≤ 7302250) (hend : ∀ Mx Mr i, wh G (AL G) 4 Q (PZ D cI cZ cL cE ax am w Mx Mr) cl sl 565 (zl b (ax 0) (am 0) i) []) : ∀ f i, L ≤ i + f → 1 ≤ i → i ≤ L + 4 → ∀ n S Mx Mr c, IZ w n S Mx Mr c → c ≤ 120 * i → wh G (AL G) 4 Q (PZ D cI cZ cL cE ax am w Mx Mr) cl sl 28 (zl b (ax 0) (am 0) i) [] := by
  intro f
  induction f with
  | zero =>
    intro i h1 h2 h3 n S Mx Mr c h hc
    have F := Z.1
    have hL := Z.2.2.2.2
    refine wh_iload_n F 0 dZ_law_28 rfl rfl ?_
    refine wh_aload_n F 1 dZ_law_29 rfl rfl ?_
    refine wh_slen Z dZ_law_30 ?_
    refine wh_iconst (v := 4) F dZ_law_31 (by decide) ?_
    refine wh_isub F dZ_law_32 ?_
    exact wh_icmp_gt (tgt := 565) F dZ_law_33 (by decide) (fun _ => hend Mx Mr i) (fun q => absurd ((len4 hL (by omega)).mpr (by omega)) q)
  | succ f ih =>
    intro i h1 h2 h3 n S Mx Mr c h hc
    have F := Z.1
    have hL := Z.2.2.2.2
    refine wh_iload_n F 0 dZ_law_28 rfl rfl ?_
    refine wh_aload_n F 1 dZ_law_29 rfl rfl ?_
    refine wh_slen Z dZ_law_30 ?_
    refine wh_iconst (v := 4) F dZ_law_31 (by decide) ?_
    refine wh_isub F dZ_law_32 ?_
    refine wh_icmp_gt (tgt := 565) F dZ_law_33 (by decide) (fun _ => hend Mx Mr i) (fun q => ?_)
    have hi : i + 3 < L := by
      have := mt (len4 (i := i) hL (by omega)).mpr q
      omega
    have K : ∀ n' S' Mx' Mr' c', IZ w n' S' Mx' Mr' c' → c' ≤ c + 120 → wh G (AL G) 4 Q (PZ D cI cZ cL cE ax am w Mx' Mr') cl sl 559 (zl b (ax 0) (am 0) i) [] := fun n' S' Mx' Mr' c' h' hc' => by
      refine wh_iinc (v := nI (i + 4)) (lv' := zl b (ax 0) (am 0) (i + 4)) F 0 dZ_law_559 rfl (by rw [ii4]; exact nI_add i 4) (by decide) rfl ?_
      refine wh_goto (tgt := 28) F dZ_law_562 (by decide) ?_
      exact ih (i + 4) (by omega) (by omega) (by omega) n' S' Mx' Mr' c' h' (by omega)
    refine wh_aload_n F 1 dZ_law_36 rfl rfl ?_
    refine wh_iload_n F 0 dZ_law_37 rfl rfl ?_
    refine wh_sld Z (i := i) (by omega) dZ_law_38 ?_
    refine wh_bipush (v := 31) F dZ_law_39 (by decide) ?_
    refine wh_iand F dZ_law_41 ?_
    obtain ⟨v, hv, e⟩ := and31 (xs i)
    rw [e]
    by_cases h18 : 18 < v
    · exact wh_tabOut (tgt := 559) F dZ_law_42 (Or.inr (by rw [nI_toInt (by omega)]; omega)) (by decide) (K n S Mx Mr c h (by omega))
    · have hh : v = 0 ∨ v = 1 ∨ v = 2 ∨ v = 3 ∨ v = 4 ∨ v = 5 ∨ v = 6 ∨ v = 7 ∨ v = 8 ∨ v = 9 ∨ v = 10 ∨ v = 11 ∨ v = 12 ∨ v = 13 ∨ v = 14 ∨ v = 15 ∨ v = 16 ∨ v = 17 ∨ v = 18 := by omega
      rcases hh with rfl | rfl | rfl | rfl | rfl | rfl | rfl | rfl | rfl | rfl | rfl | rfl | rfl | rfl | rfl | rfl | rfl | rfl | rfl
      · exact wh_tabIn (tgt := 132) F dZ_law_42 (by decide) (by decide) (show _ = some 90 by decide +kernel) (by decide) (zc_add Z C hcs hi h (by omega) K)
      · exact wh_tabIn (tgt := 175) F dZ_law_42 (by decide) (by decide) (show _ = some 133 by decide +kernel) (by decide) (zc_edge Z C hcs hi h (by omega) K)
      · exact wh_tabIn (tgt := 208) F dZ_law_42 (by decide) (by decide) (show _ = some 166 by decide +kernel) (by decide) (zc_capacity Z C hcs hi h (by omega) K)
      · exact wh_tabIn (tgt := 241) F dZ_law_42 (by decide) (by decide) (show _ = some 199 by decide +kernel) (by decide) (zc_check Z C hcs hi h (by omega) K)
      · exact wh_tabIn (tgt := 254) F dZ_law_42 (by decide) (by decide) (show _ = some 212 by decide +kernel) (by decide) (zc_start Z C hcs hi h (by omega) K)
      · exact wh_tabIn (tgt := 277) F dZ_law_42 (by decide) (by decide) (show _ = some 235 by decide +kernel) (by decide) (zc_begin Z C hcs hi h (by omega) K)
      · exact wh_tabIn (tgt := 300) F dZ_law_42 (by decide) (by decide) (show _ = some 258 by decide +kernel) (by decide) (zc_finish Z C hcs hi h (by omega) K)
      · exact wh_tabIn (tgt := 333) F dZ_law_42 (by decide) (by decide) (show _ = some 291 by decide +kernel) (by decide) (zc_fail Z C hcs hi h (by omega) K)
      · exact wh_tabIn (tgt := 356) F dZ_law_42 (by decide) (by decide) (show _ = some 314 by decide +kernel) (by decide) (zc_cancel Z C hcs hi h (by omega) K)
      · exact wh_tabIn (tgt := 369) F dZ_law_42 (by decide) (by decide) (show _ = some 327 by decide +kernel) (by decide) (zc_state Z C hcs hi h (by omega) K)
      · exact wh_tabIn (tgt := 382) F dZ_law_42 (by decide) (by decide) (show _ = some 340 by decide +kernel) (by decide) (zc_thrower Z C hcs hi h (by omega) K)
      · exact wh_tabIn (tgt := 395) F dZ_law_42 (by decide) (by decide) (show _ = some 353 by decide +kernel) (by decide) (zc_round Z C hcs hi h (by omega) K)
      · exact wh_tabIn (tgt := 408) F dZ_law_42 (by decide) (by decide) (show _ = some 366 by decide +kernel) (by decide) (zc_lost Z C hcs hi h (by omega) K)
      · exact wh_tabIn (tgt := 421) F dZ_law_42 (by decide) (by decide) (show _ = some 379 by decide +kernel) (by decide) (zc_steals Z C hcs hi h (by omega) K)
      · exact wh_tabIn (tgt := 434) F dZ_law_42 (by decide) (by decide) (show _ = some 392 by decide +kernel) (by decide) (zc_runs Z C hcs hi h (by omega) K)
      · exact wh_tabIn (tgt := 457) F dZ_law_42 (by decide) (by decide) (show _ = some 415 by decide +kernel) (by decide) (zc_arrivals Z C hcs hi h (by omega) K)
      · exact wh_tabIn (tgt := 480) F dZ_law_42 (by decide) (by decide) (show _ = some 438 by decide +kernel) (by decide) (zc_where Z C hcs hi h (by omega) K)
      · exact wh_tabIn (tgt := 503) F dZ_law_42 (by decide) (by decide) (show _ = some 461 by decide +kernel) (by decide) (zc_lineAt Z C hcs hi h (by omega) K)
      · exact wh_tabIn (tgt := 536) F dZ_law_42 (by decide) (by decide) (show _ = some 494 by decide +kernel) (by decide) (zc_held Z C hcs hi h (by omega) K)
end ZL
