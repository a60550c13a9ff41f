/-! ===== what holds between the class and the reference, and the calls that keep it ===== -/
def CI (N c : Nat) (r : Nat → Nat → Nat) (F e : Nat) (hb : Nat → BKT) (zS zT zB zH : CS) (zR : Nat → CS) (zM zZ : CS) : Prop :=
  1 ≤ N ∧ N ≤ 6 ∧ VB N c r ∧ F < 2 ^ N ∧ HV N e hb ∧ zS 1 2 = nI N ∧ BKc zB (c, r, F) ∧ HC e hb zH zR ∧ RT zT ∧ RM c r zM ∧ (∃ k, SSt c r k zS) ∧ (zS 1 1 = nI 0 ∨ (zS 1 1 = nI 1 ∧ CENS N c r zZ))
def MI (N c : Nat) (r : Nat → Nat → Nat) (F e : Nat) (hb : Nat → BKT) (z : CS) : Prop := z 11 1 = nI N ∧ NW (z 7) (c, r, F) ∧ HM e hb z ∧ RTN z
def INV (zS zT zB zH : CS) (zR : Nat → CS) (zM zZ zN : CS) : Prop := ∃ N c r F e hb, CI N c r F e hb zS zT zB zH zR zM zZ ∧ MI N c r F e hb zN
theorem MI.keep {N c : Nat} {r : Nat → Nat → Nat} {F e : Nat} {hb : Nat → BKT} {z z' : CS} (h : MI N c r F e hb z) (k : ∀ j, j ≠ 6 → j ≠ 9 → j ≠ 10 → z' j = z j) : MI N c r F e hb z' := by
  obtain ⟨h1, h2, h3, h4⟩ := h
  refine ⟨by rw [k 11 (by decide) (by decide) (by decide)]; exact h1, by rw [k 7 (by decide) (by decide) (by decide)]; exact h2, ⟨by rw [k 11 (by decide) (by decide) (by decide)]; exact h3.1, fun j hj => by rw [k 8 (by decide) (by decide) (by decide)]; exact h3.2 j hj⟩, ⟨fun t ht => ?_, fun n hn => by rw [k 5 (by decide) (by decide) (by decide)]; exact h4.2 n hn⟩⟩
  rw [k 0 (by decide) (by decide) (by decide), k 1 (by decide) (by decide) (by decide), k 2 (by decide) (by decide) (by decide), k 3 (by decide) (by decide) (by decide), k 4 (by decide) (by decide) (by decide)]
  exact h4.1 t ht
/-- an argument within its range, or not: both see it alike -/
theorem rg_cases (x : Int32) {n : Nat} (h0 : 0 < n) (hn : n < 2 ^ 30) : (∃ q, q < n ∧ x = nI q ∧ (if x < 0 then (0 : Int32) else if nI n ≤ x then 0 else 1) = 1 ∧ (if x < 0 then (0 : Int32) else if nI n - 1 < x then 0 else 1) = 1) ∨ ((if x < 0 then (0 : Int32) else if nI n ≤ x then 0 else 1) = 0 ∧ (if x < 0 then (0 : Int32) else if nI n - 1 < x then 0 else 1) = 0 ∧ (x < 0 ∨ (¬ x < 0 ∧ nI n ≤ x))) := by
  have e1 : nI n - 1 = nI (n - 1) := pk_sub (b := 1) h0
  rcases pk_ix x (n := n) (by omega) with q | q | ⟨j, hj, rfl⟩
  · exact Or.inr ⟨by rw [if_pos q], by rw [if_pos q], Or.inl q⟩
  · have q2 : ¬ x < 0 := fun e => absurd (Int32.lt_of_le_of_lt q e) (nI_pos (by omega))
    refine Or.inr ⟨by rw [if_neg q2, if_pos q], ?_, Or.inr ⟨q2, q⟩⟩
    rw [if_neg q2, if_pos]
    rw [e1]
    exact Int32.lt_of_lt_of_le (nI_lt (show n - 1 < n by omega) (by omega)) q
  · refine Or.inl ⟨j, hj, rfl, ?_, ?_⟩
    · rw [if_neg (nI_pos (by omega)), if_neg (nI_ge hj (by omega))]
    · rw [if_neg (nI_pos (by omega)), e1, if_neg (nI_nlt (by omega) (by omega))]
theorem sz_cases (x : Int32) : (∃ n, 1 ≤ n ∧ n ≤ 7 ∧ x = nI n ∧ (if x < 1 then (0 : Int32) else if 7 < x then 0 else 1) = 1) ∨ (if x < 1 then (0 : Int32) else if 7 < x then 0 else 1) = 0 := by
  by_cases h1 : x < 1
  · exact Or.inr (by rw [if_pos h1])
  · by_cases h7 : 7 < x
    · exact Or.inr (by rw [if_neg h1, if_pos h7])
    · left
      have h0 : ¬ x < 0 := fun e => h1 (Int32.lt_trans e (by decide))
      obtain ⟨j, hj, rfl⟩ := nI_of2 (M := 7) (n := 7) (by decide) h0 (Int32.not_lt.mp h7)
      refine ⟨j, ?_, hj, rfl, by rw [if_neg h1, if_neg h7]⟩
      rcases Nat.eq_zero_or_pos j with e | e
      · subst e; exact absurd (by decide) h1
      · exact e
section OPS
variable {zS zT zB zH zM zC zZ zN : CS} {zR : Nat → CS}
theorem o_reset (hI : INV zS zT zB zH zR zM zZ zN) (x : Int32) : qX6_reset (fun r u => qX7_reset (fun r' u' => r = r' ∧ INV u.1 zT u.2.1 u.2.2.1 zR u.2.2.2 zZ u') x zN) x zS zB zH zM := by
  obtain ⟨N, c, r, F, e, hb, ⟨c1, c2, c3, c4, c5, c6, c7, c8, c9, c10, c11, c12⟩, m1, m2, m3, m4⟩ := id hI
  have bad : (if x < 1 then (0 : Int32) else if 6 < x then 0 else 1) = 0 → qX7_reset (fun r' u' => (-1 : Int32) = r' ∧ INV zS zT zB zH zR zM zZ u') x zN := by
    intro hx
    unfold qX7_reset
    rw [e7_in, hx]
    exact br_t rfl ⟨rfl, hI⟩
  by_cases h1 : x < 1
  · exact br_t h1 (bad (by rw [if_pos h1]))
  · refine br_f h1 ?_
    by_cases h6 : x ≤ 6
    · refine br_t h6 ?_
      have h0 : ¬ x < 0 := fun q => h1 (Int32.lt_trans q (by decide))
      obtain ⟨n, hn, rfl⟩ := nI_of2 (M := 6) (n := 6) (by decide) h0 h6
      have hn1 : 1 ≤ n := by
        rcases Nat.eq_zero_or_pos n with q | q
        · subst q; exact absurd (by decide) h1
        · exact q
      have hV0 : VB n 0 r := ⟨by omega, fun i hi => absurd hi (by omega)⟩
      refine s2_clear (r := r) (fun zB' hB' => ?_)
      refine s1_forget (hb := hb) (zR := zR) (fun zH' hH' => ?_)
      refine s3_build hn hV0 hB'.1 (fun zM' hM' => ?_)
      show qX7_reset (fun r' u' => zS 1 2 = r' ∧ INV (st (st (st zS 1 2 (nI n)) 1 0 0) 1 1 0) zT zB' zH' zR zM' zZ u') (nI n) zN
      unfold qX7_reset
      rw [e7_in, if_neg h1, if_neg (Int32.not_lt.mpr h6)]
      refine br_f (by decide) ⟨pk_in 80 82 (by omega), pk_in 81 82 (by omega), ?_, ?_⟩
      · rw [c6, m1]
      · obtain ⟨k, s1, s2, s3, s4⟩ := c11
        refine ⟨n, 0, r, 0, 0, hb, ⟨hn1, hn, hV0, Nat.two_pow_pos n, ⟨by omega, fun k hk => absurd hk (by omega)⟩, rfl, hB', hH', c9, hM', ⟨0, rfl, by omega, fun t ht => absurd ht (by omega), s4⟩, Or.inl rfl⟩, rfl, ⟨⟨rfl, fun i hi => absurd hi (by omega)⟩, rfl⟩, ⟨rfl, fun k hk => absurd hk (by omega)⟩, m4⟩
    · exact br_f h6 (bad (by rw [if_neg h1, if_pos (Int32.not_le.mp h6)]))
theorem o_ruleCount (hI : INV zS zT zB zH zR zM zZ zN) : qX6_ruleCount (fun r _ => qX7_ruleCount (fun r' _ => r = r' ∧ INV zS zT zB zH zR zM zZ zN) zN) zS zB := by
  obtain ⟨N, c, r, F, e, hb, ⟨c1, c2, c3, c4, c5, c6, c7, c8, c9, c10, c11, c12⟩, m1, m2, m3, m4⟩ := id hI
  exact ⟨pk_in 80 82 (by omega), by rw [c7.1.1]; exact m2.1.1.symm, hI⟩
theorem o_finalStates (hI : INV zS zT zB zH zR zM zZ zN) : qX6_finalStates (fun r _ => qX7_finalStates (fun r' _ => r = r' ∧ INV zS zT zB zH zR zM zZ zN) zN) zS zB := by
  obtain ⟨N, c, r, F, e, hb, ⟨c1, c2, c3, c4, c5, c6, c7, c8, c9, c10, c11, c12⟩, m1, m2, m3, m4⟩ := id hI
  exact ⟨pk_in 81 82 (by omega), by rw [c7.2]; exact m2.2.symm, hI⟩
theorem o_treeCount (hI : INV zS zT zB zH zR zM zZ zN) (x : Int32) : qX6_treeCount (fun r _ => qX7_treeCount (fun r' _ => r = r' ∧ INV zS zT zB zH zR zM zZ zN) x zN) x zS := by
  obtain ⟨N, c, r, F, e, hb, -, m1, m2, m3, m4⟩ := id hI
  rcases sz_cases x with ⟨n, h1, h7, rfl, hx⟩ | hx
  · have A : ∀ post : Int32 → Unit → Prop, post (nI (SA (n + 1)) - nI (SA n)) () → qX6_treeCount post (nI n) zS := by
      intro post h
      unfold qX6_treeCount
      rw [e6_isSize, hx, nI_1, xst_nI _ (by omega), xst_nI _ (by omega)]
      exact br_f (by decide) ⟨vp_in_nI (by omega) (by decide), vp_in_nI (by omega) (by decide), h⟩
    have B : ∀ post : Int32 → Unit → Prop, post (nI (SA (n + 1)) - nI (SA n)) () → qX7_treeCount post (nI n) zN := by
      intro post h
      unfold qX7_treeCount
      rw [e7_isSize, hx, nI_1, nI_clamp (show n + 1 < 2 ^ 31 by omega), nI_clamp (show n < 2 ^ 31 by omega), m4.2 _ (by omega), m4.2 _ (by omega)]
      exact br_f (by decide) ⟨vp_in_nI (by omega) (by decide), vp_in_nI (by omega) (by decide), h⟩
    exact A _ (B _ ⟨rfl, hI⟩)
  · have A : ∀ post : Int32 → Unit → Prop, post (-1) () → qX6_treeCount post x zS := by
      intro post h
      unfold qX6_treeCount
      rw [e6_isSize, hx]
      exact br_t rfl h
    have B : ∀ post : Int32 → Unit → Prop, post (-1) () → qX7_treeCount post x zN := by
      intro post h
      unfold qX7_treeCount
      rw [e7_isSize, hx]
      exact br_t rfl h
    exact A _ (B _ ⟨rfl, hI⟩)
theorem o_treeOf (hI : INV zS zT zB zH zR zM zZ zN) (x1 x2 x3 : Int32) : qX6_treeOf (fun r _ => qX7_treeOf (fun r' _ => r = r' ∧ INV zS zT zB zH zR zM zZ zN) x1 x2 x3 zN) x1 x2 x3 zS zT := by
  obtain ⟨N, c, r, F, e, hb, ⟨c1, c2, c3, c4, c5, c6, c7, c8, c9, c10, c11, c12⟩, m1, m2, m3, m4⟩ := id hI
  obtain ⟨v, h6, h7⟩ := treeOf_both (zS := zS) c9 m4 x1 x2 x3
  exact h6 _ (h7 _ ⟨rfl, hI⟩)
theorem tr_cases (x : Int32) : (∃ q, q < 2278 ∧ x = nI q ∧ (if x < 0 then (0 : Int32) else if 2278 ≤ x then 0 else 1) = 1 ∧ (if x < 0 then (0 : Int32) else if 2277 < x then 0 else 1) = 1) ∨ ((if x < 0 then (0 : Int32) else if 2278 ≤ x then 0 else 1) = 0 ∧ (if x < 0 then (0 : Int32) else if 2277 < x then 0 else 1) = 0) := by
  rcases rg_cases x (n := 2278) (by omega) (by decide) with ⟨q, h1, h2, h3, h4⟩ | ⟨h3, h4, -⟩
  · exact Or.inl ⟨q, h1, h2, h3, h4⟩
  · exact Or.inr ⟨h3, h4⟩
theorem o_symbolOf (hI : INV zS zT zB zH zR zM zZ zN) (x : Int32) : qX6_symbolOf (fun r _ => qX7_symbolOf (fun r' _ => r = r' ∧ INV zS zT zB zH zR zM zZ zN) x zN) x zS zT := by
  obtain ⟨N, c, r, F, e, hb, ⟨c1, c2, c3, c4, c5, c6, c7, c8, c9, c10, c11, c12⟩, m1, m2, m3, m4⟩ := id hI
  rcases tr_cases x with ⟨t, ht, rfl, h6, h7⟩ | ⟨h6, h7⟩
  · have it : vp_in (nI t) 2278 := vp_in_nI ht (by decide)
    have A : ∀ post : Int32 → Unit → Prop, post (nI (TS t)) () → qX6_symbolOf post (nI t) zS zT := by
      intro post h
      unfold qX6_symbolOf
      rw [e6_isTree, h6, e5_symbolAt c9 ht]
      exact br_f (by decide) h
    have B : ∀ post : Int32 → Unit → Prop, post (nI (TS t)) () → qX7_symbolOf post (nI t) zN := by
      intro post h
      unfold qX7_symbolOf
      rw [e7_isTree, h7, nI_clamp (by omega), (m4.1 t ht).1]
      exact br_f (by decide) ⟨it, h⟩
    exact A _ (B _ ⟨rfl, hI⟩)
  · have A : ∀ post : Int32 → Unit → Prop, post (-1) () → qX6_symbolOf post x zS zT := by
      intro post h
      unfold qX6_symbolOf
      rw [e6_isTree, h6]
      exact br_t rfl h
    have B : ∀ post : Int32 → Unit → Prop, post (-1) () → qX7_symbolOf post x zN := by
      intro post h
      unfold qX7_symbolOf
      rw [e7_isTree, h7]
      exact br_t rfl h
    exact A _ (B _ ⟨rfl, hI⟩)
theorem o_sizeOf (hI : INV zS zT zB zH zR zM zZ zN) (x : Int32) : qX6_sizeOf (fun r _ => qX7_sizeOf (fun r' _ => r = r' ∧ INV zS zT zB zH zR zM zZ zN) x zN) x zS := by
  obtain ⟨N, c, r, F, e, hb, ⟨c1, c2, c3, c4, c5, c6, c7, c8, c9, c10, c11, c12⟩, m1, m2, m3, m4⟩ := id hI
  rcases tr_cases x with ⟨t, ht, rfl, h6, h7⟩ | ⟨h6, h7⟩
  · have it : vp_in (nI t) 2278 := vp_in_nI ht (by decide)
    have A : ∀ post : Int32 → Unit → Prop, post (nI (TZ t)) () → qX6_sizeOf post (nI t) zS := by
      intro post h
      unfold qX6_sizeOf
      rw [e6_isTree, h6]
      exact br_f (by decide) (s6_sizeAt ht h)
    have B : ∀ post : Int32 → Unit → Prop, post (nI (TZ t)) () → qX7_sizeOf post (nI t) zN := by
      intro post h
      unfold qX7_sizeOf
      rw [e7_isTree, h7, nI_clamp (by omega), (m4.1 t ht).2.2.2.1]
      exact br_f (by decide) ⟨it, h⟩
    exact A _ (B _ ⟨rfl, hI⟩)
  · have A : ∀ post : Int32 → Unit → Prop, post (-1) () → qX6_sizeOf post x zS := by
      intro post h
      unfold qX6_sizeOf
      rw [e6_isTree, h6]
      exact br_t rfl h
    have B : ∀ post : Int32 → Unit → Prop, post (-1) () → qX7_sizeOf post x zN := by
      intro post h
      unfold qX7_sizeOf
      rw [e7_isTree, h7]
      exact br_t rfl h
    exact A _ (B _ ⟨rfl, hI⟩)
theorem o_heightOf (hI : INV zS zT zB zH zR zM zZ zN) (x : Int32) : qX6_heightOf (fun r _ => qX7_heightOf (fun r' _ => r = r' ∧ INV zS zT zB zH zR zM zZ zN) x zN) x zS zT := by
  obtain ⟨N, c, r, F, e, hb, ⟨c1, c2, c3, c4, c5, c6, c7, c8, c9, c10, c11, c12⟩, m1, m2, m3, m4⟩ := id hI
  rcases tr_cases x with ⟨t, ht, rfl, h6, h7⟩ | ⟨h6, h7⟩
  · have it : vp_in (nI t) 2278 := vp_in_nI ht (by decide)
    have A : ∀ post : Int32 → Unit → Prop, post (nI (TH t)) () → qX6_heightOf post (nI t) zS zT := by
      intro post h
      unfold qX6_heightOf
      rw [e6_isTree, h6, nI_clamp (by omega), (c9 t ht).2]
      exact br_f (by decide) ⟨it, h⟩
    have B : ∀ post : Int32 → Unit → Prop, post (nI (TH t)) () → qX7_heightOf post (nI t) zN := by
      intro post h
      unfold qX7_heightOf
      rw [e7_isTree, h7, nI_clamp (by omega), (m4.1 t ht).2.2.2.2]
      exact br_f (by decide) ⟨it, h⟩
    exact A _ (B _ ⟨rfl, hI⟩)
  · have A : ∀ post : Int32 → Unit → Prop, post (-1) () → qX6_heightOf post x zS zT := by
      intro post h
      unfold qX6_heightOf
      rw [e6_isTree, h6]
      exact br_t rfl h
    have B : ∀ post : Int32 → Unit → Prop, post (-1) () → qX7_heightOf post x zN := by
      intro post h
      unfold qX7_heightOf
      rw [e7_isTree, h7]
      exact br_t rfl h
    exact A _ (B _ ⟨rfl, hI⟩)
theorem o_childOf (hI : INV zS zT zB zH zR zM zZ zN) (x y : Int32) : qX6_childOf (fun r _ => qX7_childOf (fun r' _ => r = r' ∧ INV zS zT zB zH zR zM zZ zN) x y zN) x y zS zT := by
  obtain ⟨N, c, r, F, e, hb, ⟨c1, c2, c3, c4, c5, c6, c7, c8, c9, c10, c11, c12⟩, m1, m2, m3, m4⟩ := id hI
  rcases tr_cases x with ⟨t, ht, rfl, h6, h7⟩ | ⟨h6, h7⟩
  · have it : vp_in (nI t) 2278 := vp_in_nI ht (by decide)
    obtain ⟨v, hv⟩ : ∃ v, v = (if y < 0 then (-1 : Int32) else if y ≤ 1 then (if y < nI (arN (TS t)) then (if y = 0 then nI (TA t) else nI (TB t)) else -3) else -1) := ⟨_, rfl⟩
    have A : ∀ post : Int32 → Unit → Prop, post v () → qX6_childOf post (nI t) y zS zT := by
      intro post h
      unfold qX6_childOf
      rw [e6_isTree, h6, e5_arityAt c9 ht, e5_firstAt c9 ht, e5_secondAt c9 ht]
      refine br_f (by decide) ?_
      by_cases y0 : y < 0
      · rw [hv, if_pos y0] at h
        exact br_t y0 h
      · rw [if_neg y0] at hv
        refine br_f y0 ?_
        by_cases y1 : y ≤ 1
        · rw [if_pos y1] at hv
          refine br_t y1 ?_
          by_cases ya : y < nI (arN (TS t))
          · rw [if_pos ya] at hv
            refine br_t ya ?_
            by_cases yz : y = 0
            · rw [hv, if_pos yz] at h; exact br_t yz h
            · rw [hv, if_neg yz] at h; exact br_f yz h
          · rw [hv, if_neg ya] at h; exact br_f ya h
        · rw [hv, if_neg y1] at h; exact br_f y1 h
    have B : ∀ post : Int32 → Unit → Prop, post v () → qX7_childOf post (nI t) y zN := by
      intro post h
      unfold qX7_childOf
      rw [e7_isTree, h7, nI_clamp (by omega), (m4.1 t ht).1, (m4.1 t ht).2.1, (m4.1 t ht).2.2.1, e7_in, e7_arity _ _ (by have := (tabF ht).1; omega)]
      refine br_f (by decide) ?_
      by_cases y0 : y < 0
      · rw [hv, if_pos y0] at h
        rw [if_pos y0]
        exact br_t rfl h
      · rw [if_neg y0] at hv ⊢
        by_cases y1 : y ≤ 1
        · rw [if_pos y1] at hv
          rw [if_neg (Int32.not_lt.mpr y1)]
          refine br_f (by decide) ⟨it, ?_⟩
          by_cases ya : y < nI (arN (TS t))
          · rw [if_pos ya] at hv
            refine br_t ya ?_
            by_cases yz : y = 0
            · rw [hv, if_pos yz] at h; exact br_t yz ⟨it, h⟩
            · rw [hv, if_neg yz] at h; exact br_f yz ⟨it, h⟩
          · rw [hv, if_neg ya] at h; exact br_f ya h
        · rw [hv, if_neg y1] at h
          rw [if_pos (Int32.not_le.mp y1)]
          exact br_t rfl h
    exact A _ (B _ ⟨rfl, hI⟩)
  · have A : ∀ post : Int32 → Unit → Prop, post (-1) () → qX6_childOf post x y zS zT := by
      intro post h
      unfold qX6_childOf
      rw [e6_isTree, h6]
      exact br_t rfl h
    have B : ∀ post : Int32 → Unit → Prop, post (-1) () → qX7_childOf post x y zN := by
      intro post h
      unfold qX7_childOf
      rw [e7_isTree, h7]
      exact br_t rfl h
    exact A _ (B _ ⟨rfl, hI⟩)
end OPS
