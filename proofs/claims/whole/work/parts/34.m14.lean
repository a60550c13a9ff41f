def SZ (f a b : Nat) : Nat := 1 + (if 0 < arN f then TZ a else 0) + (if 1 < arN f then TZ b else 0)
theorem exT {f a b : Nat} (hf : f < 5) (ha : a < 2278) (hb : b < 2278) (ha0 : ¬ 0 < arN f → a = 0) (hb0 : ¬ 1 < arN f → b = 0) (hn : SZ f a b ≤ 7) : ∃ t, t < 2278 ∧ TS t = f ∧ TA t = a ∧ TB t = b := by
  obtain ⟨-, -, -, za, -, sa1, sa2, -⟩ := tabF ha
  obtain ⟨-, -, -, zb, -, sb1, sb2, -⟩ := tabF hb
  rcases (show f = 0 ∨ f = 1 ∨ f = 2 ∨ f = 3 ∨ f = 4 by omega) with rfl | rfl | rfl | rfl | rfl
  · have h1 := ha0 (by decide)
    have h2 := hb0 (by decide)
    subst h1 h2
    exact ⟨0, by omega, by decide +kernel, by decide +kernel, by decide +kernel⟩
  · have h1 := ha0 (by decide)
    have h2 := hb0 (by decide)
    subst h1 h2
    exact ⟨1, by omega, by decide +kernel, by decide +kernel, by decide +kernel⟩
  · have h2 := hb0 (by decide)
    subst h2
    have hz : 1 + TZ a + 0 ≤ 7 := hn
    have hlt : a < 556 := by
      have := SA_mono (TZ a + 1) (by omega) 7 (by omega) (by omega)
      have e : SA 7 = 556 := rfl
      omega
    have h1 := List.all_eq_true.mp okU_all a (List.mem_range.mpr hlt)
    unfold okU at h1
    simp only [Bool.and_eq_true, decide_eq_true_eq] at h1
    exact ⟨_, h1.2.2.2, h1.1, h1.2.1, h1.2.2.1⟩
  · have hz : 1 + TZ a + TZ b ≤ 7 := hn
    have hlt : a < 556 := by
      have := SA_mono (TZ a + 1) (by omega) 7 (by omega) (by omega)
      have e : SA 7 = 556 := rfl
      omega
    have hlb : b < SA (7 - TZ a) := by
      have := SA_mono (TZ b + 1) (by omega) (7 - TZ a) (by omega) (by omega)
      omega
    have h1 := List.all_eq_true.mp okB_all a (List.mem_range.mpr hlt)
    have h2 := List.all_eq_true.mp h1 b (List.mem_range.mpr hlb)
    simp only [Bool.and_eq_true, decide_eq_true_eq] at h2
    exact ⟨ixB 3 a b, h2.2.2.1, h2.1.1, h2.1.2.1, h2.1.2.2⟩
  · have hz : 1 + TZ a + TZ b ≤ 7 := hn
    have hlt : a < 556 := by
      have := SA_mono (TZ a + 1) (by omega) 7 (by omega) (by omega)
      have e : SA 7 = 556 := rfl
      omega
    have hlb : b < SA (7 - TZ a) := by
      have := SA_mono (TZ b + 1) (by omega) (7 - TZ a) (by omega) (by omega)
      omega
    have h1 := List.all_eq_true.mp okB_all a (List.mem_range.mpr hlt)
    have h2 := List.all_eq_true.mp h1 b (List.mem_range.mpr hlb)
    simp only [Bool.and_eq_true, decide_eq_true_eq] at h2
    exact ⟨ixB 4 a b, h2.2.2.2, h2.2.1.1, h2.2.1.2.1, h2.2.1.2.2⟩
theorem SZ_of {t : Nat} (ht : t < 2278) : TZ t = SZ (TS t) (TA t) (TB t) := by
  unfold SZ
  obtain ⟨-, -, -, -, -, -, -, -, h | h | h⟩ := tabF ht
  · rw [h.1]; simp; omega
  · rw [h.1]; simp; omega
  · rw [h.1]; simp; omega
/-- the first tree of its size with this content -/
theorem exL {f a b : Nat} (hf : f < 5) (ha : a < 2278) (hb : b < 2278) (ha0 : ¬ 0 < arN f → a = 0) (hb0 : ¬ 1 < arN f → b = 0) (hn : SZ f a b ≤ 7) :
    ∃ t, SA (SZ f a b) ≤ t ∧ t < SA (SZ f a b + 1) ∧ t < 2278 ∧ (TS t = f ∧ TA t = a ∧ TB t = b) ∧ ∀ u, SA (SZ f a b) ≤ u → u < t → ¬ (TS u = f ∧ TA u = a ∧ TB u = b) := by
  obtain ⟨t0, q1, q2, q3, q4⟩ := exT hf ha hb ha0 hb0 hn
  have at' : ∀ t, t < 2278 → TS t = f ∧ TA t = a ∧ TB t = b → SA (SZ f a b) ≤ t ∧ t < SA (SZ f a b + 1) := by
    intro t ht h
    have e := SZ_of ht
    rw [h.1, h.2.1, h.2.2] at e
    obtain ⟨-, -, -, -, -, s1, s2, -⟩ := tabF ht
    rw [← e]
    exact ⟨s1, s2⟩
  obtain ⟨t, ⟨p1, p2⟩, pm⟩ := pk_least (fun t => SA (SZ f a b) ≤ t ∧ TS t = f ∧ TA t = a ∧ TB t = b) ⟨t0, (at' t0 q1 ⟨q2, q3, q4⟩).1, q2, q3, q4⟩
  have hlt : t < 2278 := by
    rcases Nat.lt_or_ge t 2278 with h | h
    · exact h
    · exact absurd ⟨(at' t0 q1 ⟨q2, q3, q4⟩).1, q2, q3, q4⟩ (pm t0 (by omega))
  exact ⟨t, p1, (at' t hlt p2).2, hlt, p2, fun u hu1 hu2 h => pm u hu2 ⟨hu1, h⟩⟩
theorem or10 {x a : Nat} (ha : a < 1024) : x * 1024 ||| a = x * 1024 + a := by
  have := Nat.two_pow_add_eq_or_of_lt (i := 10) (b := a) ha x
  rw [Nat.mul_comm x 1024]
  exact this.symm
theorem s5_content {f a b : Nat} (hf : f < 5) (ha : a < 1024) (hb : b < 1024) (post : Int32 → Unit → Prop) : qX5_content post (nI f) (nI a) (nI b) = post (nI ((f * 1024 + a) * 1024 + b)) () := by
  unfold qX5_content
  rw [pk_shlN _ 10 (by decide) (by omega), nx_or, or10 ha, pk_shlN _ 10 (by decide) (by omega), nx_or, or10 hb]
theorem cn_inj {A B C f a b : Nat} (hB : B < 1024) (hC : C < 1024) (ha : a < 1024) (hb : b < 1024) (h : (A * 1024 + B) * 1024 + C = (f * 1024 + a) * 1024 + b) : A = f ∧ B = a ∧ C = b := by
  have two : ∀ X Y x y : Nat, x < 1024 → y < 1024 → X * 1024 + x = Y * 1024 + y → X = Y ∧ x = y := fun X Y x y h1 h2 h3 => ⟨by omega, by omega⟩
  obtain ⟨h1, h2⟩ := two _ _ _ _ hC hb h
  obtain ⟨h3, h4⟩ := two _ _ _ _ hB ha h1
  exact ⟨h3, h4, h2⟩
theorem CN_eq {t f a b : Nat} (ht : t < 2278) (ha : a < 1024) (hb : b < 1024) : CN t = (f * 1024 + a) * 1024 + b ↔ TS t = f ∧ TA t = a ∧ TB t = b := by
  obtain ⟨-, m1, m2, -⟩ := tabF ht
  unfold CN
  constructor
  · intro h
    exact cn_inj (by omega) (by omega) ha hb h
  · rintro ⟨h1, h2, h3⟩
    rw [h1, h2, h3]
/-- both answer alike what tree has a content -/
theorem find_both {zT zN : CS} (hT : RT zT) (hTN : RTN zN) {f a b : Nat} (hf : f < 5) (ha : a < 2278) (hb : b < 2278) (ha0 : ¬ 0 < arN f → a = 0) (hb0 : ¬ 1 < arN f → b = 0) :
    ∃ v, (∀ post : Int32 → Unit → Prop, post v () → qX5_find post (nI f) (nI a) (nI b) zT) ∧ (∀ post : Int32 → Unit → Prop, post v () → qX7_treeOf_52 post (nI f) (nI a) (nI b) zN) := by
  obtain ⟨-, -, -, za, za7, sa1, sa2, -⟩ := tabF ha
  obtain ⟨-, -, -, zb, zb7, sb1, sb2, -⟩ := tabF hb
  have hle := arN_le f
  have xf : xar (nI f).toNatClampNeg = nI (arN f) := xar_nI f hf
  have i5 : vp_in (nI f) 5 := vp_in_nI hf (by decide)
  have szv : SZ f a b < 20 := by unfold SZ; split <;> split <;> omega
  -- the class, down to the size
  have C : ∀ post : Int32 → Unit → Prop, qX5_find_38 post (nI f) (nI a) (nI b) zT (nI (SZ f a b)) → qX5_find post (nI f) (nI a) (nI b) zT := by
    intro post h
    have c20 : ∀ x, x = 1 + (if 0 < arN f then TZ a else 0) → qX5_find_20 post (nI f) (nI a) (nI b) zT (nI x) := by
      intro x hx
      unfold qX5_find_20
      rw [xf]
      refine ⟨i5, pk_le (arN f) 1 (fun h1 => ?_) (fun h1 => ?_) rfl rfl⟩
      · have e : SZ f a b = x := by unfold SZ; rw [if_neg (show ¬ 1 < arN f by omega), Nat.add_zero, hx]
        rw [e] at h; exact h
      · refine s6_sizeAt hb ?_
        rw [nI_add]
        have e : SZ f a b = x + TZ b := by unfold SZ; rw [if_pos (show 1 < arN f by omega), hx]
        rw [e] at h; exact h
    unfold qX5_find
    rw [xf]
    refine ⟨i5, pk_le (arN f) 0 (fun h1 => ?_) (fun h1 => ?_) rfl rfl⟩
    · exact c20 1 (by rw [if_neg (by omega)])
    · refine s6_sizeAt ha ?_
      rw [show (1 : Int32) + nI (TZ a) = nI (1 + TZ a) from nI_add 1 _]
      exact c20 _ (by rw [if_pos h1])
  -- the reference, down to the size
  have M : ∀ post : Int32 → Unit → Prop, (∀ y4 w0 w1, w0 + w1 = nI (SZ f a b) → qX7_treeOf_103 post (nI f) (nI a) (nI b) zN y4 w0 w1) → qX7_treeOf_52 post (nI f) (nI a) (nI b) zN := by
    intro post h
    have eA : zN 3 a = nI (TZ a) := (hTN.1 a ha).2.2.2.1
    have eB : zN 3 b = nI (TZ b) := (hTN.1 b hb).2.2.2.1
    have c84 : ∀ y4 x y, x + y = 1 + (if 0 < arN f then TZ a else 0) → qX7_treeOf_84 post (nI f) (nI a) (nI b) zN y4 (nI x) (nI y) := by
      intro y4 x y hx
      unfold qX7_treeOf_84
      rw [e7_arity _ f (by omega), nI_clamp (show b < 2 ^ 31 by omega), eB, nI_add]
      refine pk_le (arN f) 1 (fun h1 => h _ _ _ ?_) (fun h1 => ⟨vp_in_nI hb (by decide), h _ _ _ ?_⟩) rfl rfl
      · unfold SZ; rw [if_neg (show ¬ 1 < arN f by omega), hx]; exact nI_add _ 0
      · unfold SZ; rw [if_pos (show 1 < arN f by omega), hx]; exact nI_add _ _
    show qX7_treeOf_57 post (nI f) (nI a) (nI b) zN 1
    unfold qX7_treeOf_57
    rw [e7_arity _ f (by omega), nI_clamp (show a < 2 ^ 31 by omega), eA]
    refine br_f (by decide) (pk_le (arN f) 0 (fun h1 => ?_) (fun h1 => ⟨vp_in_nI ha (by decide), ?_⟩) rfl rfl)
    · exact c84 _ 1 0 (by rw [if_neg (by omega)])
    · exact c84 _ 1 (TZ a) (by rw [if_pos h1])
  by_cases hn : SZ f a b ≤ 7
  · obtain ⟨t, t1, t2, t3, t4, t5⟩ := exL hf ha hb ha0 hb0 hn
    have ha1 : a < 1024 := by rw [← t4.2.1]; have := (tabF t3).2.1; omega
    have hb1 : b < 1024 := by rw [← t4.2.2]; have := (tabF t3).2.2.1; omega
    have sl := SA_lt (SZ f a b) (by omega)
    have sl1 := SA_lt (SZ f a b + 1) (by omega)
    refine ⟨nI t, fun post h => C post ?_, fun post h => M post ?_⟩
    · unfold qX5_find_38
      rw [s5_content hf ha1 hb1, xst_nI _ (by omega)]
      refine pk_le (SZ f a b) 7 (fun _ => ⟨vp_in_nI (by omega) (by decide), t - SA (SZ f a b) + 1, ?_⟩) (fun h => absurd h (by omega)) rfl rfl
      have key : ∀ d u, u + d = t → SA (SZ f a b) ≤ u → qX5_find_64 post (nI f) (nI a) (nI b) zT (d + 1) (nI (SZ f a b)) (nI ((f * 1024 + a) * 1024 + b)) (nI u) := by
        intro d
        induction d with
        | zero =>
          intro u hu hs
          have eu : u = t := by omega
          subst eu
          show qX5_find_64b post (nI f) (nI a) (nI b) zT (qX5_find_64 post (nI f) (nI a) (nI b) zT 0) (nI (SZ f a b)) (nI ((f * 1024 + a) * 1024 + b)) (nI u)
          unfold qX5_find_64b
          rw [nI_1, xst_nI _ (by omega), nI_clamp (show u < 2 ^ 31 by omega), (hT u t3).1]
          refine ⟨vp_in_nI (by omega) (by decide), pk_le (SA (SZ f a b + 1)) u (fun h => absurd h (by omega)) (fun _ => ⟨vp_in_nI t3 (by decide), br_t ?_ h⟩) rfl rfl⟩
          rw [(CN_eq t3 ha1 hb1).mpr t4]
        | succ d ih =>
          intro u hu hs
          have hu2 : u < 2278 := by omega
          show qX5_find_64b post (nI f) (nI a) (nI b) zT (qX5_find_64 post (nI f) (nI a) (nI b) zT (d + 1)) (nI (SZ f a b)) (nI ((f * 1024 + a) * 1024 + b)) (nI u)
          unfold qX5_find_64b
          rw [nI_1, nI_1, xst_nI _ (by omega), nI_clamp (show u < 2 ^ 31 by omega), (hT u hu2).1]
          refine ⟨vp_in_nI (by omega) (by decide), pk_le (SA (SZ f a b + 1)) u (fun h => absurd h (by omega)) (fun _ => ⟨vp_in_nI hu2 (by decide), br_f (fun e => ?_) (ih (u + 1) (by omega) (by omega))⟩) rfl rfl⟩
          have e2 := (nI_eq (CN_lt hu2) (by omega)).mp e
          exact t5 u hs (by omega) ((CN_eq hu2 ha1 hb1).mp e2)
      exact key (t - SA (SZ f a b)) (SA (SZ f a b)) (by omega) (Nat.le_refl _)
    · intro y4 w0 w1 hw
      unfold qX7_treeOf_103
      rw [hw, nI_clamp (by omega), hTN.2 (SZ f a b) (by omega)]
      refine pk_le (SZ f a b) 7 (fun _ => ⟨vp_in_nI (by omega) (by decide), t - SA (SZ f a b) + 1, ?_⟩) (fun h => absurd h (by omega)) rfl rfl
      have key : ∀ d u, u + d = t → SA (SZ f a b) ≤ u → qX7_treeOf_125 post (nI f) (nI a) (nI b) zN (d + 1) y4 (nI (SZ f a b)) (nI u) := by
        intro d
        induction d with
        | zero =>
          intro u hu hs
          have eu : u = t := by omega
          subst eu
          have iu : vp_in (nI u) 2278 := vp_in_nI t3 (by decide)
          show qX7_treeOf_125b post (nI f) (nI a) (nI b) zN (qX7_treeOf_125 post (nI f) (nI a) (nI b) zN 0) y4 (nI (SZ f a b)) (nI u)
          unfold qX7_treeOf_125b
          rw [nI_clamp (show u < 2 ^ 31 by omega), (hTN.1 u t3).1, (hTN.1 u t3).2.1, (hTN.1 u t3).2.2.1, t4.1, t4.2.1, t4.2.2]
          exact ⟨iu, br_t rfl ⟨iu, br_t rfl ⟨iu, br_t rfl h⟩⟩⟩
        | succ d ih =>
          intro u hu hs
          have hu2 : u < 2278 := by omega
          have iu : vp_in (nI u) 2278 := vp_in_nI hu2 (by decide)
          obtain ⟨m0, m1, m2, -⟩ := tabF hu2
          have nx : qX7_treeOf_158 post (nI f) (nI a) (nI b) zN (qX7_treeOf_125 post (nI f) (nI a) (nI b) zN (d + 1)) y4 (nI (SZ f a b)) (nI u) := by
            show qX7_treeOf_125 post (nI f) (nI a) (nI b) zN (d + 1) _ _ (_ + _)
            rw [nI_1]
            exact ih (u + 1) (by omega) (by omega)
          have t5' := t5 u hs (by omega)
          show qX7_treeOf_125b post (nI f) (nI a) (nI b) zN (qX7_treeOf_125 post (nI f) (nI a) (nI b) zN (d + 1)) y4 (nI (SZ f a b)) (nI u)
          unfold qX7_treeOf_125b
          rw [nI_clamp (show u < 2 ^ 31 by omega), (hTN.1 u hu2).1, (hTN.1 u hu2).2.1, (hTN.1 u hu2).2.2.1]
          exact ⟨iu, pk_eq (TS u) f (fun e1 => ⟨iu, pk_eq (TA u) a (fun e2 => ⟨iu, pk_eq (TB u) b (fun e3 => absurd ⟨e1, e2, e3⟩ t5') (fun _ => nx)⟩) (fun _ => nx)⟩) (fun _ => nx)⟩
      exact key (t - SA (SZ f a b)) (SA (SZ f a b)) (by omega) (Nat.le_refl _)
  · refine ⟨-2, fun post h => C post ?_, fun post h => M post ?_⟩
    · exact pk_le (SZ f a b) 7 (fun h => absurd h hn) (fun _ => h) rfl rfl
    · intro y4 w0 w1 hw
      unfold qX7_treeOf_103
      rw [hw]
      exact pk_le (SZ f a b) 7 (fun h => absurd h hn) (fun _ => h) rfl rfl
theorem treeOf_both {zS zT zN : CS} (hT : RT zT) (hTN : RTN zN) (x1 x2 x3 : Int32) :
    ∃ v, (∀ post : Int32 → Unit → Prop, post v () → qX6_treeOf post x1 x2 x3 zS zT) ∧ (∀ post : Int32 → Unit → Prop, post v () → qX7_treeOf post x1 x2 x3 zN) := by
  have bad1 : (x1 < 0 ∨ nI 5 ≤ x1) → ∃ v, (∀ post : Int32 → Unit → Prop, post v () → qX6_treeOf post x1 x2 x3 zS zT) ∧ (∀ post : Int32 → Unit → Prop, post v () → qX7_treeOf post x1 x2 x3 zN) := by
    intro hx
    refine ⟨-1, fun post h => ?_, fun post h => ?_⟩
    · unfold qX6_treeOf
      rw [e6_isSymbol]
      refine br_t ?_ h
      rcases hx with q | q
      · rw [if_pos q]
      · by_cases q2 : x1 < 0
        · rw [if_pos q2]
        · rw [if_neg q2, if_pos (show (5 : Int32) ≤ x1 from q)]
    · unfold qX7_treeOf
      rw [e7_in]
      refine br_t ?_ (br_t rfl h)
      rcases hx with q | q
      · rw [if_pos q]
      · by_cases q2 : x1 < 0
        · rw [if_pos q2]
        · rw [if_neg q2, if_pos]
          exact Int32.lt_of_lt_of_le (show (4 : Int32) < nI 5 by decide) q
  rcases pk_ix x1 (n := 5) (by decide) with q | q | ⟨f, hf, rfl⟩
  · exact bad1 (Or.inl q)
  · exact bad1 (Or.inr q)
  · have hle := arN_le f
    have xf : xar (nI f).toNatClampNeg = nI (arN f) := xar_nI f hf
    have i5 : vp_in (nI f) 5 := vp_in_nI hf (by decide)
    have sy : (if nI f < 0 then (0 : Int32) else if 5 ≤ nI f then 0 else 1) = 1 := by
      rw [if_neg (nI_pos (by omega)), if_neg (show ¬ (5 : Int32) ≤ nI f from nI_ge hf (by decide))]
    have sy7 : (if nI f < 0 then (0 : Int32) else if 4 < nI f then 0 else 1) = 1 := by
      rw [if_neg (nI_pos (by omega)), if_neg (show ¬ (4 : Int32) < nI f from nI_nlt (a := 4) (by omega) (by decide))]
    -- a child that is in order, or not
    have child : ∀ (w : Int32) (has : Bool), (∃ a, w = nI a ∧ a < 2278 ∧ (has = false → a = 0)) ∨ ((if bI has = 0 then (if w = 0 then (1 : Int32) else 0) else if w < 0 then 0 else if 2278 ≤ w then 0 else 1) = 0 ∧ (has = false → ¬ w = 0) ∧ (has = true → (if w < 0 then (0 : Int32) else if 2277 < w then 0 else 1) = 0)) := by
      intro w has
      cases has with
      | false =>
        by_cases e : w = 0
        · exact Or.inl ⟨0, e, by omega, fun _ => rfl⟩
        · exact Or.inr ⟨by rw [if_pos (show bI false = 0 from rfl), if_neg e], fun _ => e, fun q => by cases q⟩
      | true =>
        rcases pk_ix w (n := 2278) (by decide) with q | q | ⟨a, ha, rfl⟩
        · exact Or.inr ⟨by rw [if_neg (by decide), if_pos q], fun q => (by cases q), fun _ => by rw [if_pos q]⟩
        · have q2 : ¬ w < 0 := fun e => absurd (Int32.lt_of_le_of_lt q e) (by decide)
          exact Or.inr ⟨by rw [if_neg (by decide), if_neg q2, if_pos (show (2278 : Int32) ≤ w from q)], fun q => (by cases q), fun _ => by rw [if_neg q2, if_pos (Int32.lt_of_lt_of_le (show (2277 : Int32) < nI 2278 by decide) q)]⟩
        · exact Or.inl ⟨a, rfl, ha, fun q => by cases q⟩
    have good6 : ∀ (a : Nat) (has : Bool), a < 2278 → (has = false → a = 0) → (if bI has = 0 then (if nI a = 0 then (1 : Int32) else 0) else if nI a < 0 then 0 else if 2278 ≤ nI a then 0 else 1) = 1 := by
      intro a has ha h0
      cases has with
      | false => rw [h0 rfl, if_pos (show bI false = 0 from rfl), if_pos (show nI 0 = 0 from rfl)]
      | true => rw [if_neg (by decide), if_neg (nI_pos (by omega)), if_neg (show ¬ (2278 : Int32) ≤ nI a from nI_ge ha (by decide))]
    have good7 : ∀ (a : Nat), a < 2278 → (if nI a < 0 then (0 : Int32) else if 2277 < nI a then 0 else 1) = 1 := by
      intro a ha
      rw [if_neg (nI_pos (by omega)), if_neg (show ¬ (2277 : Int32) < nI a from nI_nlt (a := 2277) (by omega) (by decide))]
    have ar0 : ∀ post : Int32 → Unit → Prop, qX6_treeOf_21 post (nI f) x2 x3 zS zT x2 (bI (decide (0 < arN f))) → qX6_treeOf post (nI f) x2 x3 zS zT := by
      intro post h
      unfold qX6_treeOf
      rw [e6_isSymbol, sy, xf]
      refine br_f (by decide) ⟨i5, pk_le (arN f) 0 (fun q => ?_) (fun q => ?_) rfl rfl⟩
      · rw [decide_eq_false (by omega)] at h; exact h
      · rw [decide_eq_true q] at h; exact h
    have top7 : ∀ post : Int32 → Unit → Prop, ((0 < arN f → qX7_isTree (fun r17 _ => (r17 = (0 : Int32) → qX7_treeOf_56 post (nI f) x2 x3 zN) ∧ (¬ r17 = (0 : Int32) → qX7_treeOf_30 post (nI f) x2 x3 zN)) x2) ∧ (¬ 0 < arN f → (x2 = (0 : Int32) → qX7_treeOf_30 post (nI f) x2 x3 zN) ∧ (¬ x2 = (0 : Int32) → qX7_treeOf_56 post (nI f) x2 x3 zN))) → qX7_treeOf post (nI f) x2 x3 zN := by
      intro post h
      unfold qX7_treeOf
      rw [e7_in, sy7]
      refine br_f (by decide) ?_
      rw [e7_arity _ f (by omega)]
      exact pk_le (arN f) 0 (fun q => h.2 (by omega)) (fun q => h.1 q) rfl rfl
    rcases child x2 (decide (0 < arN f)) with ⟨a, rfl, ha, ha0⟩ | ⟨b1, b2, b3⟩
    · have mid6 : ∀ post : Int32 → Unit → Prop, qX6_treeOf_42 post (nI f) (nI a) x3 zS zT x3 (bI (decide (1 < arN f))) → qX6_treeOf post (nI f) (nI a) x3 zS zT := by
        intro post h
        refine ar0 post ?_
        unfold qX6_treeOf_21
        rw [e6_isChildTree, good6 a _ ha ha0, xf]
        refine br_f (by decide) ⟨i5, pk_le (arN f) 1 (fun q => ?_) (fun q => ?_) rfl rfl⟩
        · rw [decide_eq_false (by omega)] at h; exact h
        · rw [decide_eq_true q] at h; exact h
      have mid7 : ∀ post : Int32 → Unit → Prop, qX7_treeOf_30 post (nI f) (nI a) x3 zN → qX7_treeOf post (nI f) (nI a) x3 zN := by
        intro post h
        refine top7 post ⟨fun q => ?_, fun q => ?_⟩
        · rw [e7_isTree, good7 a ha]
          exact br_f (by decide) h
        · rw [ha0 (decide_eq_false q)] at h ⊢
          exact br_t rfl h
      rcases child x3 (decide (1 < arN f)) with ⟨b, rfl, hb, hb0⟩ | ⟨b1, b2, b3⟩
      · obtain ⟨v, h6, h7⟩ := find_both hT hTN hf ha hb (fun q => ha0 (decide_eq_false q)) (fun q => hb0 (decide_eq_false q))
        refine ⟨v, fun post h => mid6 post ?_, fun post h => mid7 post ?_⟩
        · unfold qX6_treeOf_42
          rw [e6_isChildTree, good6 b _ hb hb0]
          exact br_f (by decide) (h6 _ h)
        · unfold qX7_treeOf_30
          rw [e7_arity _ f (by omega)]
          refine pk_le (arN f) 1 (fun q => ?_) (fun q => ?_) rfl rfl
          · have e := hb0 (decide_eq_false (by omega))
            have h7' := h7 post h
            rw [e] at h7' ⊢
            exact br_t rfl h7'
          · rw [e7_isTree, good7 b hb]
            exact br_f (by decide) (h7 post h)
      · refine ⟨-1, fun post h => mid6 post ?_, fun post h => mid7 post ?_⟩
        · unfold qX6_treeOf_42
          rw [e6_isChildTree, b1]
          exact br_t rfl h
        · unfold qX7_treeOf_30
          rw [e7_arity _ f (by omega)]
          refine pk_le (arN f) 1 (fun q => ?_) (fun q => ?_) rfl rfl
          · exact br_f (b2 (decide_eq_false (by omega))) (br_t rfl h)
          · rw [e7_isTree, b3 (decide_eq_true q)]
            exact br_t rfl (br_t rfl h)
    · refine ⟨-1, fun post h => ar0 post ?_, fun post h => top7 post ⟨fun q => ?_, fun q => ?_⟩⟩
      · unfold qX6_treeOf_21
        rw [e6_isChildTree, b1]
        exact br_t rfl h
      · rw [e7_isTree, b3 (decide_eq_true q)]
        exact br_t rfl (br_t rfl h)
      · exact br_f (b2 (decide_eq_false q)) (br_t rfl h)
