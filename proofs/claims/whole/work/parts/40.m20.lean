/-! ===== the edits ===== -/
theorem SSt.zero {c c' k : Nat} {r r' : Nat → Nat → Nat} {z : CS} (h : SSt c r k z) : SSt c' r' 0 (st (st z 1 0 0) 1 1 0) := ⟨rfl, by omega, fun t ht => absurd ht (by omega), h.2.2.2⟩
theorem MI.edit {N c c' : Nat} {r r' : Nat → Nat → Nat} {F F' e : Nat} {hb : Nat → BKT} {z z' z'' : CS} (h : MI N c r F e hb z) (h8 : E8 z' z) (e' : Nat) (hb' : Nat → BKT) (hM : HM e' hb' z') (h7 : E7 z'' z') (hB : NW (z'' 7) (c', r', F')) : MI N c' r' F' e' hb' z'' := by
  obtain ⟨h1, h2, h3, h4⟩ := h
  refine ⟨by rw [h7 11 (by decide), h8.2.2]; exact h1, hB, ⟨by rw [h7 11 (by decide)]; exact hM.1, fun j hj => by rw [h7 8 (by decide)]; exact hM.2 j hj⟩, ⟨fun t ht => ?_, fun n hn => by rw [h7 5 (by decide), h8.1 5 (by decide) (by decide)]; exact h4.2 n hn⟩⟩
  rw [h7 0 (by decide), h7 1 (by decide), h7 2 (by decide), h7 3 (by decide), h7 4 (by decide), h8.1 0 (by decide) (by decide), h8.1 1 (by decide) (by decide), h8.1 2 (by decide) (by decide), h8.1 3 (by decide) (by decide), h8.1 4 (by decide) (by decide)]
  exact h4.1 t ht
section EDITS
variable {zS zT zB zH zM zC zZ zN : CS} {zR : Nat → CS}
theorem o_setFinal (hI : INV zS zT zB zH zR zM zZ zN) (x y : Int32) : qX6_setFinal (fun r u => qX7_setFinal (fun r' u' => r = r' ∧ INV zS zT u.1 u.2.1 u.2.2 zM zZ u') x y zN) x y zS zB zH zR := by
  obtain ⟨N, c, r, F, e, hb, ⟨c1, c2, c3, c4, c5, c6, c7, c8, c9, c10, c11, c12⟩, m1, m2, m3, m4⟩ := id hI
  have hM0 : MI N c r F e hb zN := ⟨m1, m2, m3, m4⟩
  have hF64 : F < 64 := by have := n64 c2; omega
  rcases rg_cases x (n := N) (by omega) (by omega) with ⟨q, hq, rfl, h6, h7⟩ | ⟨h6, h7, -⟩
  · obtain ⟨b, hbx⟩ : ∃ b, b = decide (¬ y = 0) := ⟨_, rfl⟩
    have hby : b = true ↔ ¬ y = 0 := by rw [hbx, decide_eq_true_eq]
    have hF' := setb_lt' c2 c4 hq b
    have A : ∀ post : Int32 → CS × CS × (Nat → CS) → Prop, (∀ zB' zH' zR', BKc zB' (c, r, setb F q b) → HC (pushE e) (pushB e hb (c, r, F)) zH' zR' → post (nI (bc6 (setb F q b))) (zB', zH', zR')) → qX6_setFinal post (nI q) y zS zB zH zR := by
      intro post h
      unfold qX6_setFinal
      rw [e6_isState, c6, h6]
      refine br_f (by decide) (s1_keep c5.1 c8 c7 c3.1 (fun zH' zR' hH' => ?_))
      refine s2_mark c7 hF64 (by omega) y b hby (fun zB' hB' => ?_)
      rw [eJ_bit, hB'.2, bcE_nI _ (by show setb F q b < 64; have := n64 c2; omega)]
      exact h zB' zH' zR' hB' hH'
    have B : ∀ post : Int32 → CS → Prop, (∀ z', MI N c r (setb F q b) (pushE e) (pushB e hb (c, r, F)) z' → post (nI (bc6 (setb F q b))) z') → qX7_setFinal post (nI q) y zN := by
      intro post h
      unfold qX7_setFinal
      rw [e7_isState, m1, h7]
      refine br_f (by decide) (s7_edit c5 m3 m2 c3.1 (fun z' hE hM => ?_))
      have e81 : z' 7 81 = nI F := by rw [hE.1 7 (by decide) (by decide)]; exact m2.2
      have L51 : ∀ (z : CS), z 11 1 = nI N → z 7 81 = nI (setb F q b) → (post (nI (bc6 (setb F q b))) z) → ∀ d k, k + d = N → qX7_setFinal_51 post (nI q) y (d + 1) (nI (sm k (fun k => if (setb F q b).testBit k then 1 else 0))) (nI k) z := by
        intro z g1 g2 hp d
        induction d with
        | zero =>
          intro k hk
          show qX7_setFinal_51b post (nI q) y (qX7_setFinal_51 post (nI q) y 0) _ _ z
          refine pk_le N k (fun _ => ?_) (fun h => absurd h (by omega)) g1 rfl
          rw [show k = N by omega, ← bc6_N c2 hF']
          exact hp
        | succ d ih =>
          intro k hk
          have hn := ih (k + 1) (by omega)
          show qX7_setFinal_51b post (nI q) y (qX7_setFinal_51 post (nI q) y (d + 1)) _ _ z
          refine pk_le N k (fun h => absurd h (by omega)) (fun _ => ⟨pk_in 81 82 (by omega), ?_⟩) g1 rfl
          rw [lt81, g2, e7_has _ (by omega)]
          cases hbit : (setb F q b).testBit k with
          | false =>
            refine br_t (by simp) ?_
            show qX7_setFinal_51 post (nI q) y (d + 1) (_ + nI 0) (_ + _) z
            rw [nI_1, nI_add]
            have e : sm (k + 1) (fun k => if (setb F q b).testBit k then 1 else 0) = sm k (fun k => if (setb F q b).testBit k then 1 else 0) + 0 := by
              show sm k _ + (if (setb F q b).testBit k then 1 else 0) = _
              rw [hbit]; rfl
            rw [← e]; exact hn
          | true =>
            refine br_f (by simp) ?_
            show qX7_setFinal_51 post (nI q) y (d + 1) (_ + nI 1) (_ + _) z
            rw [nI_1, nI_add]
            have e : sm (k + 1) (fun k => if (setb F q b).testBit k then 1 else 0) = sm k (fun k => if (setb F q b).testBit k then 1 else 0) + 1 := by
              show sm k _ + (if (setb F q b).testBit k then 1 else 0) = _
              rw [hbit]; rfl
            rw [← e]; exact hn
      have fin : ∀ w2 w3, w2 ||| w3 = nI (setb F q b) → qX7_setFinal_44 post (nI q) y 81 w2 w3 z' := by
        intro w2 w3 hw
        refine ⟨pk_in 81 82 (by omega), N + 1, ?_⟩
        rw [hw, lt81]
        have h7' : E7 (st z' 7 81 (nI (setb F q b))) z' := fun k hk => st_n _ _ _ hk
        have hBn : NW ((st z' 7 81 (nI (setb F q b))) 7) (c, r, setb F q b) := by
          rw [st_s, hE.1 7 (by decide) (by decide)]
          exact ⟨⟨by rw [pk_un (by decide)]; exact m2.1.1, fun i hi k hk => by have := c3.1; have hi' : i < c := hi; rw [pk_un (by omega)]; exact m2.1.2 i hi k hk⟩, pk_us⟩
        have hM' := MI.edit hM0 hE _ _ hM h7' hBn
        exact L51 _ hM'.1 hM'.2.1.2 (h _ hM') N 0 (by omega)
      refine ⟨pk_in 81 82 (by omega), ?_⟩
      rw [lt81, e81]
      refine ⟨fun y0 => fin _ _ ?_, fun y0 => fin _ _ ?_⟩
      · rw [or_0, show b = false by cases hb' : b; rfl; exact absurd y0 (hby.mp hb')]
        exact mf0 F hF64 q (by omega)
      · rw [hby.mpr y0]
        exact ms1 F hF64 q (by omega)
    refine A _ (fun zB' zH' zR' hB' hH' => B _ (fun z' hM' => ⟨rfl, N, c, r, setb F q b, pushE e, pushB e hb (c, r, F), ⟨c1, c2, c3, hF', c5.push ⟨c3, c4⟩, c6, hB', hH', c9, c10, c11, c12⟩, hM'⟩))
  · have A : ∀ post : Int32 → CS × CS × (Nat → CS) → Prop, post (-1) (zB, zH, zR) → qX6_setFinal post x y zS zB zH zR := by
      intro post h
      unfold qX6_setFinal
      rw [e6_isState, c6, h6]
      exact br_t rfl h
    have B : ∀ post : Int32 → CS → Prop, post (-1) zN → qX7_setFinal post x y zN := by
      intro post h
      unfold qX7_setFinal
      rw [e7_isState, m1, h7]
      exact br_t rfl h
    exact A _ (B _ ⟨rfl, hI⟩)
theorem o_removeRule (hI : INV zS zT zB zH zR zM zZ zN) (x : Int32) : qX6_removeRule (fun r u => qX7_removeRule (fun r' u' => r = r' ∧ INV u.1 zT u.2.1 u.2.2.1 u.2.2.2.1 u.2.2.2.2 zZ u') x zN) x zS zB zH zR zM := by
  obtain ⟨N, c, r, F, e, hb, ⟨c1, c2, c3, c4, c5, c6, c7, c8, c9, c10, c11, c12⟩, m1, m2, m3, m4⟩ := id hI
  have hM0 : MI N c r F e hb zN := ⟨m1, m2, m3, m4⟩
  have hc := c3.1
  have bad : (if x < 0 then (0 : Int32) else if nI c - 1 < x then 0 else 1) = 0 → ∀ post : Int32 → CS → Prop, post (-1) zN → qX7_removeRule post x zN := by
    intro hx post h
    unfold qX7_removeRule
    rw [e7_in, lt8, show zN 7 80 = nI c from m2.1.1, hx]
    exact ⟨pk_in 80 82 (by omega), br_t rfl h⟩
  rcases pk_ix x (n := c) (by omega) with q | q | ⟨i, hi, rfl⟩
  · exact br_t q (show qX7_removeRule (fun r' u' => (-1 : Int32) = r' ∧ INV zS zT zB zH zR zM zZ u') x zN from bad (by rw [if_pos q]) _ ⟨rfl, hI⟩)
  · have q2 : ¬ x < 0 := fun w => absurd (Int32.lt_of_le_of_lt q w) (nI_pos (by omega))
    refine br_f q2 (br_f (by rw [show zB 5 0 = nI c from c7.1.1]; exact Int32.not_lt.mpr q) (show qX7_removeRule (fun r' u' => (-1 : Int32) = r' ∧ INV zS zT zB zH zR zM zZ u') x zN from bad ?_ _ ⟨rfl, hI⟩))
    rw [if_neg q2]
    rcases Nat.eq_zero_or_pos c with z0 | z0
    · rw [z0, show nI 0 - 1 = (-1 : Int32) from rfl, if_pos]
      rw [z0] at q
      exact Int32.lt_of_lt_of_le (show (-1 : Int32) < nI 0 by decide) q
    · rw [show nI c - 1 = nI (c - 1) from pk_sub (b := 1) z0, if_pos]
      exact Int32.lt_of_lt_of_le (nI_lt (show c - 1 < c by omega) (by omega)) q
  · have hV' : VB N (c - 1) (delR i r) := by
      refine ⟨by omega, fun j hj => ?_⟩
      unfold delR
      by_cases hji : j < i
      · simp only [hji, if_true]; exact c3.2 j (by omega)
      · simp only [hji, if_false]; exact c3.2 (j + 1) (by omega)
    have A : ∀ post : Int32 → CS × CS × CS × (Nat → CS) × CS → Prop, (∀ zB' zH' zR' zM', BKc zB' (c - 1, delR i r, F) → HC (pushE e) (pushB e hb (c, r, F)) zH' zR' → RM (c - 1) (delR i r) zM' → post (nI (c - 1)) (st (st zS 1 0 0) 1 1 0, zB', zH', zR', zM')) → qX6_removeRule post (nI i) zS zB zH zR zM := by
      intro post h
      unfold qX6_removeRule
      rw [show zB 5 0 = nI c from c7.1.1]
      refine br_f (nI_pos (by omega)) (br_t (nI_lt hi (by omega)) (s1_keep c5.1 c8 c7 c3.1 (fun zH' zR' hH' => ?_)))
      refine s2_delete c7 hc hi (fun zB' hB' => ?_)
      refine s3_build c2 hV' hB'.1 (fun zM' hM' => ?_)
      have := h zB' zH' zR' zM' hB' hH' hM'
      rw [← (show zB' 5 0 = nI (c - 1) from hB'.1.1)] at this
      exact this
    have B : ∀ post : Int32 → CS → Prop, (∀ z', MI N (c - 1) (delR i r) F (pushE e) (pushB e hb (c, r, F)) z' → post (nI (c - 1)) z') → qX7_removeRule post (nI i) zN := by
      intro post h
      unfold qX7_removeRule
      rw [e7_in, lt8, show zN 7 80 = nI c from m2.1.1, if_neg (nI_pos (by omega)), show nI c - 1 = nI (c - 1) from pk_sub (b := 1) (by omega), if_neg (nI_nlt (by omega) (by omega))]
      refine ⟨pk_in 80 82 (by omega), br_f (by decide) (s7_edit c5 m3 m2 c3.1 (fun z' hE hM => ⟨pk_in 80 82 (by omega), pk_in 80 82 (by omega), ?_⟩))⟩
      have hB7 : NW (z' 7) (c, r, F) := by rw [hE.1 7 (by decide) (by decide)]; exact m2
      rw [show z' 7 80 = nI c from hB7.1.1, show nI c - (1 : Int32) = nI (c - 1) from pk_sub (b := 1) (by omega), show (5 : Int32) * nI i = nI (5 * i) from pk_mul 5 i]
      exact s7_delL hc hB7 hi (fun z'' h7 hBn => h z'' (MI.edit hM0 hE _ _ hM h7 hBn)) (nI i)
    obtain ⟨k, hk⟩ := c11
    exact A _ (fun zB' zH' zR' zM' hB' hH' hM' => B _ (fun z' hMI => ⟨rfl, N, c - 1, delR i r, F, pushE e, pushB e hb (c, r, F), ⟨c1, c2, hV', c4, c5.push ⟨c3, c4⟩, c6, hB', hH', c9, hM', ⟨0, hk.zero⟩, Or.inl rfl⟩, hMI⟩))
theorem o_swapStates (hI : INV zS zT zB zH zR zM zZ zN) (x y : Int32) : qX6_swapStates (fun r u => qX7_swapStates (fun r' u' => r = r' ∧ INV u.1 zT u.2.1 u.2.2.1 u.2.2.2.1 u.2.2.2.2 zZ u') x y zN) x y zS zB zH zR zM := by
  obtain ⟨N, c, r, F, e, hb, ⟨c1, c2, c3, c4, c5, c6, c7, c8, c9, c10, c11, c12⟩, m1, m2, m3, m4⟩ := id hI
  have hM0 : MI N c r F e hb zN := ⟨m1, m2, m3, m4⟩
  rcases rg_cases x (n := N) (by omega) (by omega) with ⟨a, ha, rfl, a6, a7⟩ | ⟨a6, a7, -⟩
  · rcases rg_cases y (n := N) (by omega) (by omega) with ⟨b, hb', rfl, b6, b7⟩ | ⟨b6, b7, -⟩
    · have hV' := swR_VB c3 ha hb'
      have hF' := swF_lt c2 c4 ha hb'
      have A : ∀ post : Int32 → CS × CS × CS × (Nat → CS) × CS → Prop, (∀ zB' zH' zR' zM', BKc zB' (c, swR r a b, swF F a b) → HC (pushE e) (pushB e hb (c, r, F)) zH' zR' → RM c (swR r a b) zM' → post (nI (sm c (fun i => if tch r a b i then 1 else 0))) (st (st zS 1 0 0) 1 1 0, zB', zH', zR', zM')) → qX6_swapStates post (nI a) (nI b) zS zB zH zR zM := by
        intro post h
        unfold qX6_swapStates
        rw [e6_isState, e6_isState, c6, a6, b6]
        refine br_f (by decide) (br_f (by decide) (s1_keep c5.1 c8 c7 c3.1 (fun zH' zR' hH' => ?_)))
        refine s2_with c2 c3 c7.1 ha hb' ?_
        refine s2_exchange c2 c3 c7 c4 ha hb' (fun zB' hB' => ?_)
        exact s3_build c2 hV' hB'.1 (fun zM' hM' => h zB' zH' zR' zM' hB' hH' hM')
      have B : ∀ post : Int32 → CS → Prop, (∀ z', MI N c (swR r a b) (swF F a b) (pushE e) (pushB e hb (c, r, F)) z' → post (nI (sm c (fun i => if tch r a b i then 1 else 0))) z') → qX7_swapStates post (nI a) (nI b) zN := by
        intro post h
        unfold qX7_swapStates
        rw [e7_isState, e7_isState, m1, a7, b7]
        refine br_f (by decide) (br_f (by decide) (s7_edit c5 m3 m2 c3.1 (fun z' hE hM => ?_)))
        have hB7 : NW (z' 7) (c, r, F) := by rw [hE.1 7 (by decide) (by decide)]; exact m2
        exact s7_swapL c2 c3 c4 ha hb' hB7 (by rw [hE.2.2]; exact m1) (fun z'' h7 hBn => h z'' (MI.edit hM0 hE _ _ hM h7 hBn))
      obtain ⟨k, hk⟩ := c11
      exact A _ (fun zB' zH' zR' zM' hB' hH' hM' => B _ (fun z' hMI => ⟨rfl, N, c, swR r a b, swF F a b, pushE e, pushB e hb (c, r, F), ⟨c1, c2, hV', hF', c5.push ⟨c3, c4⟩, c6, hB', hH', c9, hM', ⟨0, hk.zero⟩, Or.inl rfl⟩, hMI⟩))
    · have A : ∀ post : Int32 → CS × CS × CS × (Nat → CS) × CS → Prop, post (-1) (zS, zB, zH, zR, zM) → qX6_swapStates post (nI a) y zS zB zH zR zM := by
        intro post h
        unfold qX6_swapStates
        rw [e6_isState, e6_isState, c6, a6, b6]
        exact br_f (by decide) (br_t rfl h)
      have B : ∀ post : Int32 → CS → Prop, post (-1) zN → qX7_swapStates post (nI a) y zN := by
        intro post h
        unfold qX7_swapStates
        rw [e7_isState, e7_isState, m1, a7, b7]
        exact br_f (by decide) (br_t rfl h)
      exact A _ (B _ ⟨rfl, hI⟩)
  · have A : ∀ post : Int32 → CS × CS × CS × (Nat → CS) × CS → Prop, post (-1) (zS, zB, zH, zR, zM) → qX6_swapStates post x y zS zB zH zR zM := by
      intro post h
      unfold qX6_swapStates
      rw [e6_isState, c6, a6]
      exact br_t rfl h
    have B : ∀ post : Int32 → CS → Prop, post (-1) zN → qX7_swapStates post x y zN := by
      intro post h
      unfold qX7_swapStates
      rw [e7_isState, m1, a7]
      exact br_t rfl h
    exact A _ (B _ ⟨rfl, hI⟩)
theorem o_undo (hI : INV zS zT zB zH zR zM zZ zN) : qX6_undo (fun r u => qX7_undo (fun r' u' => r = r' ∧ INV u.1 zT u.2.1 u.2.2.1 zR u.2.2.2 zZ u') zN) zS zB zH zR zM := by
  obtain ⟨N, c, r, F, e, hb, ⟨c1, c2, c3, c4, c5, c6, c7, c8, c9, c10, c11, c12⟩, m1, m2, m3, m4⟩ := id hI
  obtain ⟨nx, n5, n0, n1, nb⟩ := id c8
  have he5 := c5.1
  unfold qX6_undo
  refine pk_eq e 0 (fun e0 => ?_) (fun e0 => ?_) n1 rfl
  · show qX7_undo (fun r' u' => (-3 : Int32) = r' ∧ INV zS zT zB zH zR zM zZ u') zN
    unfold qX7_undo
    exact pk_eq e 0 (fun _ => ⟨rfl, hI⟩) (fun h => absurd e0 h) m3.1 rfl
  · have hv := c5.2 (e - 1) (by omega)
    have hV' : HV N (e - 1) hb := ⟨by omega, fun k hk => c5.2 k (by omega)⟩
    refine s1_give c5 (by omega) c8 (fun zB' zH' hB' hH' eH => ?_)
    refine s3_build c2 hv.1 hB'.1 (fun zM' hM' => ?_)
    show qX7_undo (fun r' u' => zH' 0 1 = r' ∧ INV (st (st zS 1 0 0) 1 1 0) zT zB' zH' zR zM' zZ u') zN
    unfold qX7_undo
    refine pk_eq e 0 (fun h => absurd h e0) (fun _ => ?_) m3.1 rfl
    rw [show zN 11 2 = nI e from m3.1, show nI e - (1 : Int32) = nI (e - 1) from pk_sub (b := 1) (by omega)]
    refine s7_undoL (e := e - 1) (z := st zN 11 2 (nI (e - 1))) (by omega) rfl (m3.2 (e - 1) (by omega)) hv.1.1 (fun z' h7 hBn => ⟨eH, ?_⟩)
    obtain ⟨k, hk⟩ := c11
    refine ⟨N, (hb (e - 1)).1, (hb (e - 1)).2.1, (hb (e - 1)).2.2, e - 1, hb, ⟨c1, c2, hv.1, hv.2, hV', c6, hB', hH', c9, hM', ⟨0, hk.zero⟩, Or.inl rfl⟩, ?_⟩
    refine ⟨by rw [h7 11 (by decide)]; exact m1, hBn, ⟨by rw [h7 11 (by decide)]; rfl, fun j hj => by rw [h7 8 (by decide)]; exact m3.2 j (by omega)⟩, ⟨fun t ht => ?_, fun n hn => by rw [h7 5 (by decide)]; exact m4.2 n hn⟩⟩
    rw [h7 0 (by decide), h7 1 (by decide), h7 2 (by decide), h7 3 (by decide), h7 4 (by decide)]
    exact m4.1 t ht
end EDITS
