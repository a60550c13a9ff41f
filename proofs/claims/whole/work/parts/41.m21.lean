/-! ===== a rule is added ===== -/
theorem ch_cases (x : Int32) (has : Bool) {N : Nat} (h1 : 1 ≤ N) (hN : N ≤ 6) :
    (∃ q, q < N ∧ x = nI q ∧ (has = false → q = 0) ∧ (if bI has = 0 then (if x = 0 then (1 : Int32) else 0) else if x < 0 then 0 else if nI N ≤ x then 0 else 1) = 1 ∧ (if x < 0 then (0 : Int32) else if nI N - 1 < x then 0 else 1) = 1)
    ∨ ((if bI has = 0 then (if x = 0 then (1 : Int32) else 0) else if x < 0 then 0 else if nI N ≤ x then 0 else 1) = 0 ∧ (has = false → ¬ x = 0) ∧ (has = true → (if x < 0 then (0 : Int32) else if nI N - 1 < x then 0 else 1) = 0)) := by
  cases has with
  | false =>
    by_cases e : x = 0
    · refine Or.inl ⟨0, by omega, e, fun _ => rfl, by rw [if_pos (show bI false = 0 from rfl), if_pos e], ?_⟩
      rw [e, if_neg (by decide), show nI N - 1 = nI (N - 1) from pk_sub (b := 1) h1, if_neg (show ¬ nI (N - 1) < (0 : Int32) from nI_pos (by omega))]
    · exact Or.inr ⟨by rw [if_pos (show bI false = 0 from rfl), if_neg e], fun _ => e, fun q => by cases q⟩
  | true =>
    rcases rg_cases x (n := N) (by omega) (by omega) with ⟨q, hq, rfl, h6, h7⟩ | ⟨h6, h7, -⟩
    · exact Or.inl ⟨q, hq, rfl, fun w => (by cases w), by rw [if_neg (by decide)]; exact h6, h7⟩
    · exact Or.inr ⟨by rw [if_neg (by decide)]; exact h6, fun w => (by cases w), fun _ => h7⟩
theorem co_cases (x : Int32) (has : Bool) :
    (∃ k, k < 3 ∧ x = nI k ∧ (has = false → k = 0) ∧ (if bI has = 0 then (if x = 0 then (1 : Int32) else 0) else if x < 0 then 0 else if 2 < x then 0 else 1) = 1 ∧ (if x < 0 then (0 : Int32) else if 2 < x then 0 else 1) = 1)
    ∨ ((if bI has = 0 then (if x = 0 then (1 : Int32) else 0) else if x < 0 then 0 else if 2 < x then 0 else 1) = 0 ∧ ((if x < 0 then (0 : Int32) else if 2 < x then 0 else 1) = 0 ∨ ((if x < 0 then (0 : Int32) else if 2 < x then 0 else 1) = 1 ∧ has = false ∧ ¬ x = 0))) := by
  have inr : (∃ k, k < 3 ∧ x = nI k ∧ (if x < 0 then (0 : Int32) else if 2 < x then 0 else 1) = 1) ∨ (if x < 0 then (0 : Int32) else if 2 < x then 0 else 1) = 0 := by
    by_cases h0 : x < 0
    · exact Or.inr (by rw [if_pos h0])
    · by_cases h2 : 2 < x
      · exact Or.inr (by rw [if_neg h0, if_pos h2])
      · obtain ⟨j, hj, rfl⟩ := nI_of2 (M := 2) (n := 2) (by decide) h0 (Int32.not_lt.mp h2)
        exact Or.inl ⟨j, by omega, rfl, by rw [if_neg h0, if_neg h2]⟩
  cases has with
  | false =>
    by_cases e : x = 0
    · subst e
      exact Or.inl ⟨0, by omega, rfl, fun _ => rfl, by decide, by decide⟩
    · refine Or.inr ⟨by rw [if_pos (show bI false = 0 from rfl), if_neg e], ?_⟩
      rcases inr with ⟨k, -, -, h⟩ | h
      · exact Or.inr ⟨h, rfl, e⟩
      · exact Or.inl h
  | true =>
    rcases inr with ⟨k, hk, rfl, h⟩ | h
    · exact Or.inl ⟨k, hk, rfl, fun w => (by cases w), by rw [if_neg (by decide)]; exact h, h⟩
    · exact Or.inr ⟨by rw [if_neg (by decide)]; exact h, Or.inl h⟩
theorem s7_addT {z : CS} {c F : Nat} {r : Nat → Nat → Nat} {v : Nat → Nat} (hc : c < 16) (hB : NW (z 7) (c, r, F)) : NW ((st (st (st (st (st (st z 7 (5 * c) (nI (v 0))) 7 (5 * c + 1) (nI (v 1))) 7 (5 * c + 2) (nI (v 2))) 7 (5 * c + 3) (nI (v 3))) 7 (5 * c + 4) (nI (v 4))) 7 80 (nI (c + 1))) 7) (c + 1, addR c r v, F) := by
  simp only [st_s]
  refine ⟨⟨pk_us, fun i hi k hk => ?_⟩, ?_⟩
  · have hi' : i < c + 1 := hi
    show _ = nI (addR c r v i k)
    unfold addR
    rw [pk_un (by omega)]
    by_cases hic : i = c
    · subst hic
      rw [if_pos rfl]
      rcases (show k = 0 ∨ k = 1 ∨ k = 2 ∨ k = 3 ∨ k = 4 by omega) with rfl | rfl | rfl | rfl | rfl
      · rw [pk_un (by omega), pk_un (by omega), pk_un (by omega), pk_un (by omega)]; exact pk_us
      · rw [pk_un (by omega), pk_un (by omega), pk_un (by omega)]; exact pk_us
      · rw [pk_un (by omega), pk_un (by omega)]; exact pk_us
      · rw [pk_un (by omega)]; exact pk_us
      · exact pk_us
    · rw [if_neg hic, pk_un (by omega), pk_un (by omega), pk_un (by omega), pk_un (by omega), pk_un (by omega)]
      exact hB.1.2 i (by show i < c; omega) k hk
  · rw [pk_un (by decide), pk_un (by omega), pk_un (by omega), pk_un (by omega), pk_un (by omega), pk_un (by omega)]
    exact hB.2
section ADD
variable {zS zT zB zH zM zC zZ zN : CS} {zR : Nat → CS}
theorem o_addRule (hI : INV zS zT zB zH zR zM zZ zN) (x1 x2 x3 x4 x5 : Int32) : qX6_addRule (fun r u => qX7_addRule (fun r' u' => r = r' ∧ INV u.1 zT u.2.1 u.2.2.1 u.2.2.2.1 u.2.2.2.2 zZ u') x1 x2 x3 x4 x5 zN) x1 x2 x3 x4 x5 zS zB zH zR zM := by
  obtain ⟨N, c, r, F, e, hb, ⟨c1, c2, c3, c4, c5, c6, c7, c8, c9, c10, c11, c12⟩, m1, m2, m3, m4⟩ := id hI
  have hM0 : MI N c r F e hb zN := ⟨m1, m2, m3, m4⟩
  have hc := c3.1
  -- if both refuse
  have ref : (∀ post : Int32 → CS × CS × CS × (Nat → CS) × CS → Prop, post (-1) (zS, zB, zH, zR, zM) → qX6_addRule post x1 x2 x3 x4 x5 zS zB zH zR zM) → (∀ post : Int32 → CS → Prop, post (-1) zN → qX7_addRule post x1 x2 x3 x4 x5 zN) → qX6_addRule (fun r u => qX7_addRule (fun r' u' => r = r' ∧ INV u.1 zT u.2.1 u.2.2.1 u.2.2.2.1 u.2.2.2.2 zZ u') x1 x2 x3 x4 x5 zN) x1 x2 x3 x4 x5 zS zB zH zR zM :=
    fun A B => A _ (B _ ⟨rfl, hI⟩)
  have m94 : ∀ (post : Int32 → CS → Prop) (y6 : Int32), post (-1) zN → qX7_addRule_94 post x1 x2 x3 x4 x5 y6 zN := fun post y6 h => br_t rfl h
  have m32 : ∀ (post : Int32 → CS → Prop), post (-1) zN → qX7_addRule_32 post x1 x2 x3 x4 x5 zN := fun post h => br_t rfl (m94 post _ h)
  -- the symbol
  have bad1 : (x1 < 0 ∨ nI 5 ≤ x1) → qX6_addRule (fun r u => qX7_addRule (fun r' u' => r = r' ∧ INV u.1 zT u.2.1 u.2.2.1 u.2.2.2.1 u.2.2.2.2 zZ u') x1 x2 x3 x4 x5 zN) x1 x2 x3 x4 x5 zS zB zH zR zM := by
    intro hx
    refine ref (fun post h => ?_) (fun post h => ?_)
    · unfold qX6_addRule
      rw [e6_isSymbol]
      refine br_t ?_ h
      rcases hx with q | q
      · rw [if_pos q]
      · by_cases q2 : x1 < 0
        · rw [if_pos q2]
        · rw [if_neg q2, if_pos (show (5 : Int32) ≤ x1 from q)]
    · unfold qX7_addRule
      rw [e7_in]
      refine br_t ?_ (m32 post h)
      rcases hx with q | q
      · rw [if_pos q]
      · by_cases q2 : x1 < 0
        · rw [if_pos q2]
        · rw [if_neg q2, if_pos]
          exact Int32.lt_of_lt_of_le (show (4 : Int32) < nI 5 by decide) q
  rcases pk_ix x1 (n := 5) (by decide) with q | q | ⟨f, hf, rfl⟩
  · exact bad1 (Or.inl q)
  · exact bad1 (Or.inr q)
  · have hle := arN_le f
    have xf : xar (nI f).toNatClampNeg = nI (arN f) := xar_nI f hf
    have i5 : vp_in (nI f) 5 := vp_in_nI hf (by decide)
    have sy : (if nI f < 0 then (0 : Int32) else if 5 ≤ nI f then 0 else 1) = 1 := by
      rw [if_neg (nI_pos (by omega)), if_neg (show ¬ (5 : Int32) ≤ nI f from nI_ge hf (by decide))]
    have sy7 : (if nI f < 0 then (0 : Int32) else if 4 < nI f then 0 else 1) = 1 := by
      rw [if_neg (nI_pos (by omega)), if_neg (show ¬ (4 : Int32) < nI f from nI_nlt (a := 4) (by omega) (by decide))]
    -- the target
    rcases rg_cases x5 (n := N) (by omega) (by omega) with ⟨ta, hta, rfl, t6, t7⟩ | ⟨t6, t7, -⟩
    · -- the class's stages
      have C1 : ∀ post : Int32 → CS × CS × CS × (Nat → CS) × CS → Prop, qX6_addRule_31 post (nI f) x2 x3 x4 (nI ta) x2 (bI (decide (0 < arN f))) zS zB zH zR zM → qX6_addRule post (nI f) x2 x3 x4 (nI ta) zS zB zH zR zM := by
        intro post h
        unfold qX6_addRule
        rw [e6_isSymbol, sy, e6_isState, c6, t6, xf]
        refine br_f (by decide) (br_f (by decide) ⟨i5, pk_le (arN f) 0 (fun q => ?_) (fun q => ?_) rfl rfl⟩)
        · rw [decide_eq_false (by omega)] at h; exact h
        · rw [decide_eq_true q] at h; exact h
      have M0 : ∀ post : Int32 → CS → Prop, (if x4 < 0 then (0 : Int32) else if 2 < x4 then 0 else 1) = 0 → post (-1) zN → qX7_addRule post (nI f) x2 x3 x4 (nI ta) zN := by
        intro post hx h
        unfold qX7_addRule
        rw [e7_in, sy7, e7_isState, m1, t7, e7_in, hx]
        exact br_f (by decide) (br_f (by decide) (br_t rfl (m32 post h)))
      have M1 : ∀ post : Int32 → CS → Prop, (if x4 < 0 then (0 : Int32) else if 2 < x4 then 0 else 1) = 1 → ((0 < arN f → qX7_isState (fun r49 _ => (r49 = (0 : Int32) → qX7_addRule_94 post (nI f) x2 x3 x4 (nI ta) 1 zN) ∧ (¬ r49 = (0 : Int32) → qX7_addRule_62 post (nI f) x2 x3 x4 (nI ta) 1 zN)) x2 zN) ∧ (¬ 0 < arN f → (x2 = (0 : Int32) → qX7_addRule_62 post (nI f) x2 x3 x4 (nI ta) 1 zN) ∧ (¬ x2 = (0 : Int32) → qX7_addRule_94 post (nI f) x2 x3 x4 (nI ta) 1 zN))) → qX7_addRule post (nI f) x2 x3 x4 (nI ta) zN := by
        intro post hx h
        unfold qX7_addRule
        rw [e7_in, sy7, e7_isState, m1, t7, e7_in, hx]
        refine br_f (by decide) (br_f (by decide) (br_f (by decide) ?_))
        unfold qX7_addRule_33
        rw [e7_arity _ f (by omega)]
        exact br_f (by decide) (pk_le (arN f) 0 (fun q => h.2 (by omega)) (fun q => h.1 q) rfl rfl)
      have in01 : (if x4 < 0 then (0 : Int32) else if 2 < x4 then 0 else 1) = 0 ∨ (if x4 < 0 then (0 : Int32) else if 2 < x4 then 0 else 1) = 1 := by
        by_cases h0 : x4 < 0
        · exact Or.inl (by rw [if_pos h0])
        · by_cases h2 : 2 < x4
          · exact Or.inl (by rw [if_neg h0, if_pos h2])
          · exact Or.inr (by rw [if_neg h0, if_neg h2])
      rcases ch_cases x2 (decide (0 < arN f)) c1 c2 with ⟨a, ha, rfl, ha0, a6, a7⟩ | ⟨a6, a7, a8⟩
      · have C2 : ∀ post : Int32 → CS × CS × CS × (Nat → CS) × CS → Prop, qX6_addRule_53 post (nI f) (nI a) x3 x4 (nI ta) x3 (bI (decide (1 < arN f))) zS zB zH zR zM → qX6_addRule post (nI f) (nI a) x3 x4 (nI ta) zS zB zH zR zM := by
          intro post h
          refine C1 post ?_
          unfold qX6_addRule_31
          rw [e6_isChildState, c6, a6, xf]
          refine br_f (by decide) ⟨i5, pk_le (arN f) 1 (fun q => ?_) (fun q => ?_) rfl rfl⟩
          · rw [decide_eq_false (by omega)] at h; exact h
          · rw [decide_eq_true q] at h; exact h
        have M2 : ∀ post : Int32 → CS → Prop, (if x4 < 0 then (0 : Int32) else if 2 < x4 then 0 else 1) = 1 → qX7_addRule_62 post (nI f) (nI a) x3 x4 (nI ta) 1 zN → qX7_addRule post (nI f) (nI a) x3 x4 (nI ta) zN := by
          intro post hx h
          refine M1 post hx ⟨fun q => ?_, fun q => ?_⟩
          · rw [e7_isState, m1, a7]
            exact br_f (by decide) h
          · refine br_t ?_ h
            rw [ha0 (decide_eq_false q)]; rfl
        rcases ch_cases x3 (decide (1 < arN f)) c1 c2 with ⟨b, hb', rfl, hb0, b6, b7⟩ | ⟨b6, b7, b8⟩
        · have C3 : ∀ post : Int32 → CS × CS × CS × (Nat → CS) × CS → Prop, qX6_addRule_75 post (nI f) (nI a) (nI b) x4 (nI ta) x4 (bI (decide (1 < arN f))) zS zB zH zR zM → qX6_addRule post (nI f) (nI a) (nI b) x4 (nI ta) zS zB zH zR zM := by
            intro post h
            refine C2 post ?_
            unfold qX6_addRule_53
            rw [e6_isChildState, c6, b6, xf]
            refine br_f (by decide) ⟨i5, pk_le (arN f) 1 (fun q => ?_) (fun q => ?_) rfl rfl⟩
            · rw [decide_eq_false (by omega)] at h; exact h
            · rw [decide_eq_true q] at h; exact h
          rcases co_cases x4 (decide (1 < arN f)) with ⟨k, hk, rfl, hk0, k6, k7⟩ | ⟨k6, k7⟩
          · have M3 : ∀ post : Int32 → CS → Prop, qX7_addRule_90 post (nI f) (nI a) (nI b) (nI k) (nI ta) 1 zN → qX7_addRule post (nI f) (nI a) (nI b) (nI k) (nI ta) zN := by
              intro post h
              refine M2 post k7 ?_
              unfold qX7_addRule_62
              rw [e7_arity _ f (by omega)]
              refine pk_le (arN f) 1 (fun q => ?_) (fun q => ?_) rfl rfl
              · refine br_t (by rw [hb0 (decide_eq_false (by omega))]; rfl) (br_t (by rw [hk0 (decide_eq_false (by omega))]; rfl) h)
              · rw [e7_isState, m1, b7]
                exact br_f (by decide) h
            obtain ⟨v, hv⟩ : ∃ v : Nat → Nat, v = fun j => match j with | 0 => f | 1 => a | 2 => b | 3 => k | _ => ta := ⟨_, rfl⟩
            have v0 : v 0 = f := congrFun hv 0
            have v1 : v 1 = a := congrFun hv 1
            have v2 : v 2 = b := congrFun hv 2
            have v3 : v 3 = k := congrFun hv 3
            have v4 : v 4 = ta := congrFun hv 4
            by_cases h16 : c < 16
            · have hV' : VB N (c + 1) (addR c r v) := by
                refine ⟨by omega, fun i hi => ?_⟩
                unfold addR
                by_cases hic : i = c
                · simp only [hic, if_true, v0, v1, v2, v3, v4]
                  exact ⟨hf, ha, hb', hk, hta, fun q => hk0 (decide_eq_false (by omega))⟩
                · simp only [hic, if_false]
                  exact c3.2 i (by omega)
              have A : ∀ post : Int32 → CS × CS × CS × (Nat → CS) × CS → Prop, (∀ zB' zH' zR' zM', BKc zB' (c + 1, addR c r v, F) → HC (pushE e) (pushB e hb (c, r, F)) zH' zR' → RM (c + 1) (addR c r v) zM' → post (nI c) (st (st zS 1 0 0) 1 1 0, zB', zH', zR', zM')) → qX6_addRule post (nI f) (nI a) (nI b) (nI k) (nI ta) zS zB zH zR zM := by
                intro post h
                refine C3 post ?_
                unfold qX6_addRule_75
                rw [e6_isConstraint, k6, show zB 5 0 = nI c from c7.1.1]
                refine br_f (by decide) (br_t (show nI c < 16 from nI_lt (b := 16) h16 (by decide)) (s1_keep c5.1 c8 c7 c3.1 (fun zH' zR' hH' => ?_)))
                have ap := fun (P : CS → Prop) hP => s2_append (v := v) (post := P) c7 h16 hP
                rw [v0, v1, v2, v3, v4] at ap
                refine ap _ (fun zB' hB' => ?_)
                refine s3_build c2 hV' hB'.1 (fun zM' hM' => ?_)
                have := h zB' zH' zR' zM' hB' hH' hM'
                rw [← (show zB' 5 0 - 1 = nI c by rw [show zB' 5 0 = nI (c + 1) from hB'.1.1]; exact nI_pred c)] at this
                exact this
              have B : ∀ post : Int32 → CS → Prop, (∀ z', MI N (c + 1) (addR c r v) F (pushE e) (pushB e hb (c, r, F)) z' → post (nI c) z') → qX7_addRule post (nI f) (nI a) (nI b) (nI k) (nI ta) zN := by
                intro post h
                refine M3 post (br_f (by decide) ⟨pk_in 80 82 (by omega), ?_⟩)
                refine pk_eq c 16 (fun q => absurd q (by omega)) (fun _ => ?_) m2.1.1 rfl
                refine s7_edit c5 m3 m2 c3.1 (fun z' hE hM => ?_)
                have hB7 : NW (z' 7) (c, r, F) := by rw [hE.1 7 (by decide) (by decide)]; exact m2
                have g80 : z' 7 (80 : Int32).toNatClampNeg = nI c := hB7.1.1
                have i80 : vp_in (80 : Int32) 82 := pk_in 80 82 (by omega)
                rw [g80]
                have p0 : ((5 : Int32) * nI c).toNatClampNeg = 5 * c := by rw [show (5 : Int32) * nI c = nI (5 * c) from pk_mul 5 c, nI_clamp (by omega)]
                have p1 : ((5 : Int32) * nI c + 1).toNatClampNeg = 5 * c + 1 := by rw [show (5 : Int32) * nI c + 1 = nI (5 * c + 1) from i5k c 1, nI_clamp (by omega)]
                have p2 : ((5 : Int32) * nI c + 2).toNatClampNeg = 5 * c + 2 := by rw [show (5 : Int32) * nI c + 2 = nI (5 * c + 2) from i5k c 2, nI_clamp (by omega)]
                have p3 : ((5 : Int32) * nI c + 3).toNatClampNeg = 5 * c + 3 := by rw [show (5 : Int32) * nI c + 3 = nI (5 * c + 3) from i5k c 3, nI_clamp (by omega)]
                have p4 : ((5 : Int32) * nI c + 4).toNatClampNeg = 5 * c + 4 := by rw [show (5 : Int32) * nI c + 4 = nI (5 * c + 4) from i5k c 4, nI_clamp (by omega)]
                rw [p0, p1, p2, p3, p4]
                refine ⟨i80, by rw [show (5 : Int32) * nI c = nI (5 * c) from pk_mul 5 c]; exact vp_in_nI (by omega) (by decide), by rw [show (5 : Int32) * nI c + 1 = nI (5 * c + 1) from i5k c 1]; exact vp_in_nI (by omega) (by decide), by rw [show (5 : Int32) * nI c + 2 = nI (5 * c + 2) from i5k c 2]; exact vp_in_nI (by omega) (by decide), by rw [show (5 : Int32) * nI c + 3 = nI (5 * c + 3) from i5k c 3]; exact vp_in_nI (by omega) (by decide), by rw [show (5 : Int32) * nI c + 4 = nI (5 * c + 4) from i5k c 4]; exact vp_in_nI (by omega) (by decide), i80, i80, i80, ?_⟩
                have hT := s7_addT (v := v) h16 hB7
                rw [v0, v1, v2, v3, v4] at hT
                have r80 : (st (st (st (st (st z' 7 (5 * c) (nI f)) 7 (5 * c + 1) (nI a)) 7 (5 * c + 2) (nI b)) 7 (5 * c + 3) (nI k)) 7 (5 * c + 4) (nI ta)) 7 80 = nI c := by
                  simp only [st_s]
                  rw [pk_un (by omega), pk_un (by omega), pk_un (by omega), pk_un (by omega), pk_un (by omega)]
                  exact hB7.1.1
                rw [lt8, r80, nI_1]
                have hM7 := MI.edit hM0 hE _ _ hM (fun j hj => by rw [st_n _ _ _ hj, st_n _ _ _ hj, st_n _ _ _ hj, st_n _ _ _ hj, st_n _ _ _ hj, st_n _ _ _ hj]) hT
                have := h _ hM7
                rw [show (st (st (st (st (st (st z' 7 (5 * c) (nI f)) 7 (5 * c + 1) (nI a)) 7 (5 * c + 2) (nI b)) 7 (5 * c + 3) (nI k)) 7 (5 * c + 4) (nI ta)) 7 80 (nI (c + 1))) 7 80 = nI (c + 1) from hT.1.1, nI_pred]
                exact this
              obtain ⟨kk, hkk⟩ := c11
              exact A _ (fun zB' zH' zR' zM' hB' hH' hM' => B _ (fun z' hMI => ⟨rfl, N, c + 1, addR c r v, F, pushE e, pushB e hb (c, r, F), ⟨c1, c2, hV', c4, c5.push ⟨c3, c4⟩, c6, hB', hH', c9, hM', ⟨0, hkk.zero⟩, Or.inl rfl⟩, hMI⟩))
            · have ec : c = 16 := by omega
              have A : ∀ post : Int32 → CS × CS × CS × (Nat → CS) × CS → Prop, post (-2) (zS, zB, zH, zR, zM) → qX6_addRule post (nI f) (nI a) (nI b) (nI k) (nI ta) zS zB zH zR zM := by
                intro post h
                refine C3 post ?_
                unfold qX6_addRule_75
                rw [e6_isConstraint, k6, show zB 5 0 = nI c from c7.1.1, ec]
                exact br_f (by decide) (br_f (by decide) h)
              have B : ∀ post : Int32 → CS → Prop, post (-2) zN → qX7_addRule post (nI f) (nI a) (nI b) (nI k) (nI ta) zN := by
                intro post h
                refine M3 post (br_f (by decide) ⟨pk_in 80 82 (by omega), ?_⟩)
                exact pk_eq c 16 (fun _ => h) (fun q => absurd ec q) m2.1.1 rfl
              exact A _ (B _ ⟨rfl, hI⟩)
          · refine ref (fun post h => C3 post ?_) (fun post h => ?_)
            · unfold qX6_addRule_75
              rw [e6_isConstraint, k6]
              exact br_t rfl h
            · rcases k7 with k7 | ⟨k7, kh, k0⟩
              · exact M0 post k7 h
              · refine M2 post k7 ?_
                unfold qX7_addRule_62
                rw [e7_arity _ f (by omega)]
                have kh' := of_decide_eq_false kh
                refine pk_le (arN f) 1 (fun q => ?_) (fun q => absurd q kh') rfl rfl
                exact br_t (by rw [hb0 kh]; rfl) (br_f k0 (m94 post _ h))
        · refine ref (fun post h => C2 post ?_) (fun post h => ?_)
          · unfold qX6_addRule_53
            rw [e6_isChildState, c6, b6]
            exact br_t rfl h
          · rcases in01 with k7 | k7
            · exact M0 post k7 h
            · refine M2 post k7 ?_
              unfold qX7_addRule_62
              rw [e7_arity _ f (by omega)]
              refine pk_le (arN f) 1 (fun q => ?_) (fun q => ?_) rfl rfl
              · exact br_f (b7 (decide_eq_false (by omega))) (m94 post _ h)
              · rw [e7_isState, m1, b8 (decide_eq_true q)]
                exact br_t rfl (m94 post _ h)
      · refine ref (fun post h => C1 post ?_) (fun post h => ?_)
        · unfold qX6_addRule_31
          rw [e6_isChildState, c6, a6]
          exact br_t rfl h
        · rcases in01 with k7 | k7
          · exact M0 post k7 h
          · refine M1 post k7 ⟨fun q => ?_, fun q => ?_⟩
            · rw [e7_isState, m1, a8 (decide_eq_true q)]
              exact br_t rfl (m94 post _ h)
            · exact br_f (a7 (decide_eq_false q)) (m94 post _ h)
    · refine ref (fun post h => ?_) (fun post h => ?_)
      · unfold qX6_addRule
        rw [e6_isSymbol, sy, e6_isState, c6, t6]
        exact br_f (by decide) (br_t rfl h)
      · unfold qX7_addRule
        rw [e7_in, sy7, e7_isState, m1, t7]
        exact br_f (by decide) (br_t rfl (m32 post h))
end ADD
