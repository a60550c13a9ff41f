set_option maxRecDepth 100000 in
set_option maxHeartbeats 8000000 in
/-- the law's loop: at its head, k ints read -/
theorem lwLoop {p : Program} {l : Launch} {e : Env} {s : State} {m : MethodId} {below : List Frame} {meth : Method} {c : Code} {b L : Nat} {xs : Nat → Int32} {A : Nat → Prop} {D : va_G} {cI cO : ClassId} {tA tS : Nat} {aS aT aB aH aM aC aZ : Nat → Nat} {aR : Nat → Nat → Nat} {aN : Nat → Nat} (F : lwFx p s m c b L xs A D cI cO tA tS) (hr : meth.sig.returnType = ret) (hlocks : meth.locks = false) (hAz : ∀ q : Nat, A q → s.heap.size ≤ q) : ∀ (n k : Nat) (x3 : Int32), k ≤ L → L + 1 ≤ k + n → x3 = nI k → ∀ (zS zT zB zH : CS) (zR : Nat → CS) (zM zC zZ zN : CS) (H : Heap) (locs : List Loc) (ls : Array Slot), INV zS zT zB zH zR zM zZ zN → va_P D vwCl (wL cI cO aS aT aB aH aM aC aZ aR aN zS zT zB zH zR zM zC zZ zN) H → va_D A (wL cI cO aS aT aB aH aM aC aZ aR aN zS zT zB zH zR zM zC zZ zN) → va_S A s.heap H locs → lv_has ls 4 [(0, .ref b), (1, .ref (aS 0)), (2, .ref (aN 0)), (3, .int x3)] → W p l e room_1 s m #[Value.ref b] below meth c H locs 68 33487 (lw_Z below #[Value.ref b] s) (F0 m 18 ls []) := by
  obtain ⟨hx, hb, hml, hown, hts, hX, hbl, hA, hbA, hK, hE, hL⟩ := id F
  intro n
  induction n with
  | zero =>
    intro k x3 h1 h2
    exact absurd h2 (by omega)
  | succ n ih =>
    intro k x3 hk hn ex zS zT zB zH zR zM zC zZ zN H locs ls hI hP hD hS hl
    refine lv_iload_n hx hb dL_law_18 rfl (lv_at hl 3 rfl) ?_
    refine lv_aload_n hx hb dL_law_19 rfl (lv_at hl 0 rfl) ?_
    refine va_slen hx hb hX hbl hbA hS dL_law_20 ?_
    refine lv_bipush (v := 6) hx hb dL_law_21 (by decide) ?_
    refine lv_isub hx hb dL_law_23 ?_
    refine lv_icmp_gt (tgt := 819) hx hb dL_law_24 (by decide) (fun h9 => ?_) (fun h9 => ?_)
    · refine lv_iconst (v := 1) hx hb dL_law_819 (by decide) ?_
      refine va_forget (fun q hq => hAz _ (hS.2.2 q hq)) ?_
      refine W.widen (k := 600000) (n := 7302250) (Nat.le_of_ble_eq_true rfl) (Nat.le_of_ble_eq_true rfl) ?_
      exact lw_ret hx hb hr hlocks dL_law_820
    · have hk6 : k + 6 ≤ L := Nat.not_lt.mp fun q => h9 (by rw [ex]; exact (lwGt hk hL).mpr q)
      have i0 : vp_in x3 L := by rw [ex]; exact vp_in_nI (by omega) (by omega)
      have hN : lwNx p l e s m below meth c b A D cI cO aS aT aB aH aM aC aZ aR aN x3 := by
        intro zS zT zB zH zR zM zC zZ zN H locs ls hI hP hD hS hl
        refine lv_iinc (v := x3 + 6) (lv' := [(3, .int (x3 + 6)), (0, .ref b), (1, .ref (aS 0)), (2, .ref (aN 0))]) hx hb dL_law_813 hl (k := 3) rfl rfl (by decide) rfl (fun ls hl => ?_)
        refine lv_goto (tgt := 18) hx hb dL_law_816 (by decide) ?_
        exact ih (k + 6) (x3 + 6) hk6 (by omega) (by rw [ex]; exact nI_add k 6) zS zT zB zH zR zM zC zZ zN H locs ls hI hP hD hS (lv_sub hl [1, 2, 3, 0] rfl)
      refine lv_aload_n hx hb dL_law_27 rfl (lv_at hl 0 rfl) ?_
      refine lv_iload_n hx hb dL_law_28 rfl (lv_at hl 3 rfl) ?_
      refine va_sld hx hb hX hbl hbA hS i0 dL_law_29 ?_
      refine lv_bipush (v := 31) hx hb dL_law_30 (by decide) ?_
      refine lv_iand hx hb dL_law_32 ?_
      obtain ⟨j, hj, ej⟩ := vp_in_of (pk_andIn (xs x3.toNatClampNeg) (m := 31) 5 (by decide) (by decide)) (by decide)
      rw [ej]
      have hj : j < 32 := hj
      rcases (show j = 0 ∨ j = 1 ∨ j = 2 ∨ j = 3 ∨ j = 4 ∨ j = 5 ∨ j = 6 ∨ j = 7 ∨ j = 8 ∨ j = 9 ∨ j = 10 ∨ j = 11 ∨ j = 12 ∨ j = 13 ∨ j = 14 ∨ j = 15 ∨ j = 16 ∨ j = 17 ∨ j = 18 ∨ j = 19 ∨ j = 20 ∨ j = 21 ∨ j = 22 ∨ j = 23 ∨ j = 24 ∨ j = 25 ∨ j = 26 ∨ (27 ≤ j) by omega) with rfl | rfl | rfl | rfl | rfl | rfl | rfl | rfl | rfl | rfl | rfl | rfl | rfl | rfl | rfl | rfl | rfl | rfl | rfl | rfl | rfl | rfl | rfl | rfl | rfl | rfl | rfl | hj2
      · exact lv_tableIn (tgt := 156) hx hb dL_law_33 (by decide) (by decide) (off := 123) (by decide) (by decide) (lwC_reset F ex hk6 hN zS zT zB zH zR zM zC zZ zN H locs ls hI hP hD hS hl)
      · exact lv_tableIn (tgt := 179) hx hb dL_law_33 (by decide) (by decide) (off := 146) (by decide) (by decide) (lwC_setFinal F ex hk6 hN zS zT zB zH zR zM zC zZ zN H locs ls hI hP hD hS hl)
      · exact lv_tableIn (tgt := 228) hx hb dL_law_33 (by decide) (by decide) (off := 195) (by decide) (by decide) (lwC_addRule F ex hk6 hN zS zT zB zH zR zM zC zZ zN H locs ls hI hP hD hS hl)
      · exact lv_tableIn (tgt := 291) hx hb dL_law_33 (by decide) (by decide) (off := 258) (by decide) (by decide) (lwC_removeRule F ex hk6 hN zS zT zB zH zR zM zC zZ zN H locs ls hI hP hD hS hl)
      · exact lv_tableIn (tgt := 314) hx hb dL_law_33 (by decide) (by decide) (off := 281) (by decide) (by decide) (lwC_swapStates F ex hk6 hN zS zT zB zH zR zM zC zZ zN H locs ls hI hP hD hS hl)
      · exact lv_tableIn (tgt := 347) hx hb dL_law_33 (by decide) (by decide) (off := 314) (by decide) (by decide) (lwC_ruleCount F ex hk6 hN zS zT zB zH zR zM zC zZ zN H locs ls hI hP hD hS hl)
      · exact lv_tableIn (tgt := 360) hx hb dL_law_33 (by decide) (by decide) (off := 327) (by decide) (by decide) (lwC_finalStates F ex hk6 hN zS zT zB zH zR zM zC zZ zN H locs ls hI hP hD hS hl)
      · exact lv_tableIn (tgt := 373) hx hb dL_law_33 (by decide) (by decide) (off := 340) (by decide) (by decide) (lwC_treeCount F ex hk6 hN zS zT zB zH zR zM zC zZ zN H locs ls hI hP hD hS hl)
      · exact lv_tableIn (tgt := 396) hx hb dL_law_33 (by decide) (by decide) (off := 363) (by decide) (by decide) (lwC_treeOf F ex hk6 hN zS zT zB zH zR zM zC zZ zN H locs ls hI hP hD hS hl)
      · exact lv_tableIn (tgt := 439) hx hb dL_law_33 (by decide) (by decide) (off := 406) (by decide) (by decide) (lwC_symbolOf F ex hk6 hN zS zT zB zH zR zM zC zZ zN H locs ls hI hP hD hS hl)
      · exact lv_tableIn (tgt := 462) hx hb dL_law_33 (by decide) (by decide) (off := 429) (by decide) (by decide) (lwC_childOf F ex hk6 hN zS zT zB zH zR zM zC zZ zN H locs ls hI hP hD hS hl)
      · exact lv_tableIn (tgt := 495) hx hb dL_law_33 (by decide) (by decide) (off := 462) (by decide) (by decide) (lwC_sizeOf F ex hk6 hN zS zT zB zH zR zM zC zZ zN H locs ls hI hP hD hS hl)
      · exact lv_tableIn (tgt := 518) hx hb dL_law_33 (by decide) (by decide) (off := 485) (by decide) (by decide) (lwC_heightOf F ex hk6 hN zS zT zB zH zR zM zC zZ zN H locs ls hI hP hD hS hl)
      · exact lv_tableIn (tgt := 541) hx hb dL_law_33 (by decide) (by decide) (off := 508) (by decide) (by decide) (lwC_subsetOf F ex hk6 hN zS zT zB zH zR zM zC zZ zN H locs ls hI hP hD hS hl)
      · exact lv_tableIn (tgt := 564) hx hb dL_law_33 (by decide) (by decide) (off := 531) (by decide) (by decide) (lwC_accepts F ex hk6 hN zS zT zB zH zR zM zC zZ zN H locs ls hI hP hD hS hl)
      · exact lv_tableIn (tgt := 587) hx hb dL_law_33 (by decide) (by decide) (off := 554) (by decide) (by decide) (lwC_runCount F ex hk6 hN zS zT zB zH zR zM zC zZ zN H locs ls hI hP hD hS hl)
      · exact lv_tableIn (tgt := 620) hx hb dL_law_33 (by decide) (by decide) (off := 587) (by decide) (by decide) (lwC_acceptedCount F ex hk6 hN zS zT zB zH zR zM zC zZ zN H locs ls hI hP hD hS hl)
      · exact lv_tableIn (tgt := 643) hx hb dL_law_33 (by decide) (by decide) (off := 610) (by decide) (by decide) (lwC_acceptedTree F ex hk6 hN zS zT zB zH zR zM zC zZ zN H locs ls hI hP hD hS hl)
      · exact lv_tableIn (tgt := 676) hx hb dL_law_33 (by decide) (by decide) (off := 643) (by decide) (by decide) (lwC_treesOfSet F ex hk6 hN zS zT zB zH zR zM zC zZ zN H locs ls hI hP hD hS hl)
      · exact lv_tableIn (tgt := 699) hx hb dL_law_33 (by decide) (by decide) (off := 666) (by decide) (by decide) (lwC_reachedSets F ex hk6 hN zS zT zB zH zR zM zC zZ zN H locs ls hI hP hD hS hl)
      · exact lv_tableIn (tgt := 712) hx hb dL_law_33 (by decide) (by decide) (off := 679) (by decide) (by decide) (lwC_isReachable F ex hk6 hN zS zT zB zH zR zM zC zZ zN H locs ls hI hP hD hS hl)
      · exact lv_tableIn (tgt := 735) hx hb dL_law_33 (by decide) (by decide) (off := 702) (by decide) (by decide) (lwC_isEmpty F ex hk6 hN zS zT zB zH zR zM zC zZ zN H locs ls hI hP hD hS hl)
      · exact lv_tableIn (tgt := 748) hx hb dL_law_33 (by decide) (by decide) (off := 715) (by decide) (by decide) (lwC_isUniversal F ex hk6 hN zS zT zB zH zR zM zC zZ zN H locs ls hI hP hD hS hl)
      · exact lv_tableIn (tgt := 761) hx hb dL_law_33 (by decide) (by decide) (off := 728) (by decide) (by decide) (lwC_isComplete F ex hk6 hN zS zT zB zH zR zM zC zZ zN H locs ls hI hP hD hS hl)
      · exact lv_tableIn (tgt := 774) hx hb dL_law_33 (by decide) (by decide) (off := 741) (by decide) (by decide) (lwC_isDeterministic F ex hk6 hN zS zT zB zH zR zM zC zZ zN H locs ls hI hP hD hS hl)
      · exact lv_tableIn (tgt := 787) hx hb dL_law_33 (by decide) (by decide) (off := 754) (by decide) (by decide) (lwC_leastHeight F ex hk6 hN zS zT zB zH zR zM zC zZ zN H locs ls hI hP hD hS hl)
      · exact lv_tableIn (tgt := 800) hx hb dL_law_33 (by decide) (by decide) (off := 767) (by decide) (by decide) (lwC_undo F ex hk6 hN zS zT zB zH zR zM zC zZ zN H locs ls hI hP hD hS hl)
      · exact lv_tableOut (tgt := 813) hx hb dL_law_33 (Or.inr (by rw [nI_toInt (by omega)]; omega)) (by decide) (hN zS zT zB zH zR zM zC zZ zN H locs ls hI hP hD hS hl)
