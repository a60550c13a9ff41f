/-! ===== trees: sets, acceptance, runs ===== -/
theorem CI.sub {N c : Nat} {r : Nat → Nat → Nat} {F e : Nat} {hb : Nat → BKT} {zS zS' zT zB zH : CS} {zR : Nat → CS} {zM zZ : CS} (h : CI N c r F e hb zS zT zB zH zR zM zZ) {k : Nat} (hS : SSt c r k zS') (h1 : zS' 1 1 = zS 1 1) (h2 : zS' 1 2 = zS 1 2) : CI N c r F e hb zS' zT zB zH zR zM zZ := by
  obtain ⟨c1, c2, c3, c4, c5, c6, c7, c8, c9, c10, c11, c12⟩ := h
  exact ⟨c1, c2, c3, c4, c5, h2.trans c6, c7, c8, c9, c10, ⟨k, hS⟩, by rw [h1]; exact c12⟩
def acp (c : Nat) (r : Nat → Nat → Nat) (F t : Nat) : Bool := decide (SUB c r t &&& F ≠ 0)
theorem s6_isAccepted {N c : Nat} {r : Nat → Nat → Nat} {F : Nat} {zS zT zB zM : CS} (hN : N ≤ 6) (hV : VB N c r) (hT : RT zT) (hM : RM c r zM) (hF : F < 2 ^ N) (hB : zB 5 1 = nI F) {k : Nat} (hS : SSt c r k zS) {t : Nat} (ht : t < 2278) {post : Int32 → CS → Prop}
    (h : ∀ z k', SSt c r k' z → z 1 1 = zS 1 1 → z 1 2 = zS 1 2 → post (bI (acp c r F t)) z) : qX6_isAccepted post (nI t) zS zT zB zM := by
  refine s6_subsetAt hN hV hT hM hS ht (fun z k' h1 h2 h3 => ?_)
  have := h z k' h1 h2 h3
  have hF64 := n64 hN
  have hl := SUB_lt hV t
  have hle : SUB c r t &&& F ≤ F := Nat.and_le_right
  rw [hB, nx_and]
  unfold acp at this
  refine pk_eq (SUB c r t &&& F) 0 (fun q => ?_) (fun q => ?_) rfl rfl
  · rw [decide_eq_false (by omega)] at this; exact this
  · rw [decide_eq_true q] at this; exact this
theorem s7_isAccepted {N c : Nat} {r : Nat → Nat → Nat} {F : Nat} {z : CS} (hN : N ≤ 6) (hV : VB N c r) (hNs : z 11 1 = nI N) (hF : F < 2 ^ N) (hB : z 7 81 = nI F) {t : Nat} (ht : t < 2278) (hr : ∀ q, q < 6 → z 6 (6 * t + q) = nI (RUN c r t q)) {post : Int32 → Unit → Prop}
    (h : post (bI (acp c r F t)) ()) : qX7_isAccepted post (nI t) z := by
  refine s7_subset hN hV hNs ht hr ⟨pk_in 81 82 (by omega), ?_⟩
  have hF64 := n64 hN
  have hle : SUB c r t &&& F ≤ F := Nat.and_le_right
  rw [lt81, hB, nx_and]
  unfold acp at h
  refine pk_eq (SUB c r t &&& F) 0 (fun q => ?_) (fun q => ?_) rfl rfl
  · rw [decide_eq_false (by omega)] at h; exact h
  · rw [decide_eq_true q] at h; exact h
def cfin (P : Nat → Bool) (d t : Nat) (y : Int32) : Int32 := match d with
  | 0 => y
  | d + 1 => cfin P d (t + 1) (if P t then y + 1 else y)
def afin (P : Nat → Bool) (d t : Nat) (y : Int32) : Int32 := match d with
  | 0 => -3
  | d + 1 => if P t then (if y = 0 then nI t else afin P d (t + 1) (y + (-1))) else afin P d (t + 1) y
section OPT
variable {zS zT zB zH zM zC zZ zN : CS} {zR : Nat → CS}
theorem o_subsetOf (hI : INV zS zT zB zH zR zM zZ zN) (x : Int32) : qX6_subsetOf (fun r u => qX7_subsetOf (fun r' u' => r = r' ∧ INV u zT zB zH zR zM zZ u') x zN) x zS zT zM := by
  obtain ⟨N, c, r, F, e, hb, hC, hM⟩ := id hI
  obtain ⟨c1, c2, c3, c4, c5, c6, c7, c8, c9, c10, ⟨k, c11⟩, c12⟩ := id hC
  obtain ⟨m1, m2, m3, m4⟩ := id hM
  rcases tr_cases x with ⟨t, ht, rfl, h6, h7⟩ | ⟨h6, h7⟩
  · have A : ∀ post : Int32 → CS → Prop, (∀ z k', SSt c r k' z → z 1 1 = zS 1 1 → z 1 2 = zS 1 2 → post (nI (SUB c r t)) z) → qX6_subsetOf post (nI t) zS zT zM := by
      intro post h
      unfold qX6_subsetOf
      rw [e6_isTree, h6]
      exact br_f (by decide) (s6_subsetAt c2 c3 c9 c10 c11 ht h)
    have B : ∀ post : Int32 → CS → Prop, (∀ z, EQ6 z zN → post (nI (SUB c r t)) z) → qX7_subsetOf post (nI t) zN := by
      intro post h
      unfold qX7_subsetOf
      rw [e7_isTree, h7]
      refine br_f (by decide) (s7_runsTo c2 c3 m2.1 m4 ht (fun z hE hz => s7_subset c2 c3 (by rw [hE 11 (by decide)]; exact m1) ht (hz t (by omega)) (h z hE)))
    exact A _ (fun z k' s1 s2 s3 => B _ (fun z' hE => ⟨rfl, N, c, r, F, e, hb, hC.sub s1 s2 s3, hM.keep (fun j j6 _ _ => hE j j6)⟩))
  · have A : ∀ post : Int32 → CS → Prop, post (-1) zS → qX6_subsetOf post x zS zT zM := by
      intro post h
      unfold qX6_subsetOf
      rw [e6_isTree, h6]
      exact br_t rfl h
    have B : ∀ post : Int32 → CS → Prop, post (-1) zN → qX7_subsetOf post x zN := by
      intro post h
      unfold qX7_subsetOf
      rw [e7_isTree, h7]
      exact br_t rfl h
    exact A _ (B _ ⟨rfl, hI⟩)
theorem o_accepts (hI : INV zS zT zB zH zR zM zZ zN) (x : Int32) : qX6_accepts (fun r u => qX7_accepts (fun r' u' => r = r' ∧ INV u zT zB zH zR zM zZ u') x zN) x zS zT zB zM := by
  obtain ⟨N, c, r, F, e, hb, hC, hM⟩ := id hI
  obtain ⟨c1, c2, c3, c4, c5, c6, c7, c8, c9, c10, ⟨k, c11⟩, c12⟩ := id hC
  obtain ⟨m1, m2, m3, m4⟩ := id hM
  have bb : ∀ (b : Bool) (P : Int32 → Prop), P (bI b) → (bI b = (0 : Int32) → P 0) ∧ (¬ bI b = (0 : Int32) → P 1) := by
    intro b P h
    cases b with
    | false => exact br_t rfl h
    | true => exact br_f (by decide) h
  rcases tr_cases x with ⟨t, ht, rfl, h6, h7⟩ | ⟨h6, h7⟩
  · have A : ∀ post : Int32 → CS → Prop, (∀ z k', SSt c r k' z → z 1 1 = zS 1 1 → z 1 2 = zS 1 2 → post (bI (acp c r F t)) z) → qX6_accepts post (nI t) zS zT zB zM := by
      intro post h
      unfold qX6_accepts
      rw [e6_isTree, h6]
      exact br_f (by decide) (s6_isAccepted c2 c3 c9 c10 c4 c7.2 c11 ht (fun z k' s1 s2 s3 => bb _ (fun v => post v z) (h z k' s1 s2 s3)))
    have B : ∀ post : Int32 → CS → Prop, (∀ z, EQ6 z zN → post (bI (acp c r F t)) z) → qX7_accepts post (nI t) zN := by
      intro post h
      unfold qX7_accepts
      rw [e7_isTree, h7]
      refine br_f (by decide) (s7_runsTo c2 c3 m2.1 m4 ht (fun z hE hz => s7_isAccepted c2 c3 (by rw [hE 11 (by decide)]; exact m1) c4 (by rw [hE 7 (by decide)]; exact m2.2) ht (hz t (by omega)) (bb _ (fun v => post v z) (h z hE))))
    exact A _ (fun z k' s1 s2 s3 => B _ (fun z' hE => ⟨rfl, N, c, r, F, e, hb, hC.sub s1 s2 s3, hM.keep (fun j j6 _ _ => hE j j6)⟩))
  · have A : ∀ post : Int32 → CS → Prop, post (-1) zS → qX6_accepts post x zS zT zB zM := by
      intro post h
      unfold qX6_accepts
      rw [e6_isTree, h6]
      exact br_t rfl h
    have B : ∀ post : Int32 → CS → Prop, post (-1) zN → qX7_accepts post x zN := by
      intro post h
      unfold qX7_accepts
      rw [e7_isTree, h7]
      exact br_t rfl h
    exact A _ (B _ ⟨rfl, hI⟩)
theorem o_runCount (hI : INV zS zT zB zH zR zM zZ zN) (x y : Int32) : qX6_runCount (fun r _ => qX7_runCount (fun r' u' => r = r' ∧ INV zS zT zB zH zR zM zZ u') x y zN) x y zS zT zB zC := by
  obtain ⟨N, c, r, F, e, hb, hC, hM⟩ := id hI
  obtain ⟨c1, c2, c3, c4, c5, c6, c7, c8, c9, c10, ⟨k, c11⟩, c12⟩ := id hC
  obtain ⟨m1, m2, m3, m4⟩ := id hM
  rcases tr_cases x with ⟨t, ht, rfl, h6, h7⟩ | ⟨h6, h7⟩
  · rcases rg_cases y (n := N) (by omega) (by omega) with ⟨q, hq, rfl, g6, g7⟩ | ⟨g6, g7, -⟩
    · have A : ∀ post : Int32 → CS → Prop, (∀ z, post (nI (RUN c r t q)) z) → qX6_runCount post (nI t) (nI q) zS zT zB zC := by
        intro post h
        unfold qX6_runCount
        rw [e6_isTree, h6, e6_isState, c6, g6]
        exact br_f (by decide) (br_f (by decide) (s4_count c2 c3 c7.1 c9 ht (by omega) h))
      have B : ∀ post : Int32 → CS → Prop, (∀ z, EQ6 z zN → post (nI (RUN c r t q)) z) → qX7_runCount post (nI t) (nI q) zN := by
        intro post h
        unfold qX7_runCount
        rw [e7_isTree, h7, e7_isState, m1, g7]
        refine br_f (by decide) (br_f (by decide) (s7_runsTo c2 c3 m2.1 m4 ht (fun z hE hz => ?_)))
        have e6 : (6 : Int32) * nI t + nI q = nI (6 * t + q) := by rw [show (6 : Int32) * nI t = nI (6 * t) from pk_mul 6 t, nI_add]
        rw [e6, nI_clamp (by omega), hz t (by omega) q (by omega)]
        exact ⟨vp_in_nI (by omega) (by decide), h z hE⟩
      exact A _ (fun z => B _ (fun z' hE => ⟨rfl, N, c, r, F, e, hb, hC, hM.keep (fun j j6 _ _ => hE j j6)⟩))
    · have A : ∀ post : Int32 → CS → Prop, post (-1) zC → qX6_runCount post (nI t) y zS zT zB zC := by
        intro post h
        unfold qX6_runCount
        rw [e6_isTree, h6, e6_isState, c6, g6]
        exact br_f (by decide) (br_t rfl h)
      have B : ∀ post : Int32 → CS → Prop, post (-1) zN → qX7_runCount post (nI t) y zN := by
        intro post h
        unfold qX7_runCount
        rw [e7_isTree, h7, e7_isState, m1, g7]
        exact br_f (by decide) (br_t rfl h)
      exact A _ (B _ ⟨rfl, hI⟩)
  · have A : ∀ post : Int32 → CS → Prop, post (-1) zC → qX6_runCount post x y zS zT zB zC := by
      intro post h
      unfold qX6_runCount
      rw [e6_isTree, h6]
      exact br_t rfl h
    have B : ∀ post : Int32 → CS → Prop, post (-1) zN → qX7_runCount post x y zN := by
      intro post h
      unfold qX7_runCount
      rw [e7_isTree, h7]
      exact br_t rfl h
    exact A _ (B _ ⟨rfl, hI⟩)
theorem o_acceptedCount (hI : INV zS zT zB zH zR zM zZ zN) (x : Int32) : qX6_acceptedCount (fun r u => qX7_acceptedCount (fun r' u' => r = r' ∧ INV u zT zB zH zR zM zZ u') x zN) x zS zT zB zM := by
  obtain ⟨N, c, r, F, e, hb, hC, hM⟩ := id hI
  obtain ⟨c1, c2, c3, c4, c5, c6, c7, c8, c9, c10, ⟨k, c11⟩, c12⟩ := id hC
  obtain ⟨m1, m2, m3, m4⟩ := id hM
  rcases sz_cases x with ⟨n, h1, h7, rfl, hx⟩ | hx
  · have sl := SA_mono n (by omega) (n + 1) (by omega) (by omega)
    have s2 := SA_lt (n + 1) (by omega)
    have s1 : 1 ≤ SA (n + 1) := by
      rcases (show n = 1 ∨ n = 2 ∨ n = 3 ∨ n = 4 ∨ n = 5 ∨ n = 6 ∨ n = 7 by omega) with rfl | rfl | rfl | rfl | rfl | rfl | rfl <;> decide
    have A : ∀ post : Int32 → CS → Prop, (∀ z k', SSt c r k' z → z 1 1 = zS 1 1 → z 1 2 = zS 1 2 → post (cfin (acp c r F) (SA (n + 1) - SA n) (SA n) 0) z) → qX6_acceptedCount post (nI n) zS zT zB zM := by
      intro post h
      have key : ∀ d t y (z : CS) k, t + d = SA (n + 1) → cfin (acp c r F) d t y = cfin (acp c r F) (SA (n + 1) - SA n) (SA n) 0 → SSt c r k z → z 1 1 = zS 1 1 → z 1 2 = zS 1 2 → qX6_acceptedCount_17 post (nI n) zT zB zM (d + 1) y (nI t) z := by
        intro d
        induction d with
        | zero =>
          intro t y z k hd hy hS e1 e2
          show qX6_acceptedCount_17b post (nI n) zT zB zM (qX6_acceptedCount_17 post (nI n) zT zB zM 0) y (nI t) z
          unfold qX6_acceptedCount_17b
          rw [nI_1, xst_nI _ (by omega)]
          refine ⟨vp_in_nI (by omega) (by decide), pk_le (SA (n + 1)) t (fun _ => ?_) (fun q => absurd q (by omega)) rfl rfl⟩
          rw [show y = cfin (acp c r F) (SA (n + 1) - SA n) (SA n) 0 from hy]
          exact h z k hS e1 e2
        | succ d ih =>
          intro t y z k hd hy hS e1 e2
          show qX6_acceptedCount_17b post (nI n) zT zB zM (qX6_acceptedCount_17 post (nI n) zT zB zM (d + 1)) y (nI t) z
          unfold qX6_acceptedCount_17b
          rw [nI_1, xst_nI _ (by omega)]
          refine ⟨vp_in_nI (by omega) (by decide), pk_le (SA (n + 1)) t (fun q => absurd q (by omega)) (fun _ => ?_) rfl rfl⟩
          refine s6_isAccepted c2 c3 c9 c10 c4 c7.2 hS (by omega) (fun z' k' hS' e1' e2' => ?_)
          unfold qX6_acceptedCount_39
          rw [nI_1]
          have hy' : cfin (acp c r F) d (t + 1) (if acp c r F t then y + 1 else y) = cfin (acp c r F) (SA (n + 1) - SA n) (SA n) 0 := hy
          cases hb : acp c r F t with
          | false =>
            rw [hb] at hy'
            exact br_t rfl (ih (t + 1) y z' k' (by omega) hy' hS' (e1'.trans e1) (e2'.trans e2))
          | true =>
            rw [hb] at hy'
            exact br_f (by decide) (ih (t + 1) (y + 1) z' k' (by omega) hy' hS' (e1'.trans e1) (e2'.trans e2))
      unfold qX6_acceptedCount
      rw [e6_isSize, hx, xst_nI _ (by omega)]
      exact br_f (by decide) ⟨vp_in_nI (by omega) (by decide), _, key (SA (n + 1) - SA n) (SA n) 0 zS k (by omega) rfl c11 rfl rfl⟩
    have B : ∀ post : Int32 → CS → Prop, (∀ z, EQ6 z zN → post (cfin (acp c r F) (SA (n + 1) - SA n) (SA n) 0) z) → qX7_acceptedCount post (nI n) zN := by
      intro post h
      have key : ∀ (z : CS), EQ6 z zN → (∀ u, u < SA (n + 1) → ∀ q, q < 6 → z 6 (6 * u + q) = nI (RUN c r u q)) → ∀ d t y, t + d = SA (n + 1) → cfin (acp c r F) d t y = cfin (acp c r F) (SA (n + 1) - SA n) (SA n) 0 → qX7_acceptedCount_32 post (nI n) (d + 1) y (nI t) z := by
        intro z hE hz d
        have g5 : z 5 (n + 1) = nI (SA (n + 1)) := by rw [hE 5 (by decide)]; exact m4.2 _ (by omega)
        induction d with
        | zero =>
          intro t y hd hy
          show qX7_acceptedCount_32b post (nI n) (qX7_acceptedCount_32 post (nI n) 0) y (nI t) z
          unfold qX7_acceptedCount_32b
          rw [nI_1, nI_clamp (show n + 1 < 2 ^ 31 by omega), g5]
          refine ⟨vp_in_nI (by omega) (by decide), pk_le (SA (n + 1)) t (fun _ => ?_) (fun q => absurd q (by omega)) rfl rfl⟩
          rw [show y = cfin (acp c r F) (SA (n + 1) - SA n) (SA n) 0 from hy]
          exact h z hE
        | succ d ih =>
          intro t y hd hy
          show qX7_acceptedCount_32b post (nI n) (qX7_acceptedCount_32 post (nI n) (d + 1)) y (nI t) z
          unfold qX7_acceptedCount_32b
          rw [nI_1, nI_clamp (show n + 1 < 2 ^ 31 by omega), g5]
          refine ⟨vp_in_nI (by omega) (by decide), pk_le (SA (n + 1)) t (fun q => absurd q (by omega)) (fun _ => ?_) rfl rfl⟩
          refine s7_isAccepted c2 c3 (by rw [hE 11 (by decide)]; exact m1) c4 (by rw [hE 7 (by decide)]; exact m2.2) (by omega) (hz t (by omega)) ?_
          unfold qX7_acceptedCount_58
          rw [nI_1]
          have hy' : cfin (acp c r F) d (t + 1) (if acp c r F t then y + 1 else y) = cfin (acp c r F) (SA (n + 1) - SA n) (SA n) 0 := hy
          cases hb : acp c r F t with
          | false =>
            rw [hb] at hy'
            refine br_t rfl (ih (t + 1) (y + 0) (by omega) ?_)
            rw [Int32.add_zero]; exact hy'
          | true =>
            rw [hb] at hy'
            exact br_f (by decide) (ih (t + 1) (y + 1) (by omega) hy')
      unfold qX7_acceptedCount
      rw [e7_isSize, hx, nI_1, nI_clamp (show n + 1 < 2 ^ 31 by omega), m4.2 _ (by omega)]
      refine br_f (by decide) ⟨vp_in_nI (by omega) (by decide), ?_⟩
      rw [show nI (SA (n + 1)) - 1 = nI (SA (n + 1) - 1) from pk_sub (b := 1) s1]
      refine s7_runsTo c2 c3 m2.1 m4 (by omega) (fun z hE hz => ⟨vp_in_nI (by omega) (by decide), SA (n + 1) - SA n + 1, ?_⟩)
      rw [nI_clamp (show n < 2 ^ 31 by omega), show z 5 n = nI (SA n) by rw [hE 5 (by decide)]; exact m4.2 _ (by omega)]
      exact key z hE (fun u hu => hz u (by omega)) (SA (n + 1) - SA n) (SA n) 0 (by omega) rfl
    exact A _ (fun z k' s1 s2 s3 => B _ (fun z' hE => ⟨rfl, N, c, r, F, e, hb, hC.sub s1 s2 s3, hM.keep (fun j j6 _ _ => hE j j6)⟩))
  · have A : ∀ post : Int32 → CS → Prop, post (-1) zS → qX6_acceptedCount post x zS zT zB zM := by
      intro post h
      unfold qX6_acceptedCount
      rw [e6_isSize, hx]
      exact br_t rfl h
    have B : ∀ post : Int32 → CS → Prop, post (-1) zN → qX7_acceptedCount post x zN := by
      intro post h
      unfold qX7_acceptedCount
      rw [e7_isSize, hx]
      exact br_t rfl h
    exact A _ (B _ ⟨rfl, hI⟩)
theorem sub_e {x y : Int32} : x - y = 0 ↔ y = x := by
  constructor
  · intro h
    have : x = y := by
      have h2 := congrArg (· + y) h
      simpa using h2
    exact this.symm
  · rintro rfl; exact Int32.sub_self y
theorem o_acceptedTree (hI : INV zS zT zB zH zR zM zZ zN) (x i : Int32) : qX6_acceptedTree (fun r u => qX7_acceptedTree (fun r' u' => r = r' ∧ INV u zT zB zH zR zM zZ u') x i zN) x i zS zT zB zM := by
  obtain ⟨N, c, r, F, e, hb, hC, hM⟩ := id hI
  obtain ⟨c1, c2, c3, c4, c5, c6, c7, c8, c9, c10, ⟨k, c11⟩, c12⟩ := id hC
  obtain ⟨m1, m2, m3, m4⟩ := id hM
  rcases sz_cases x with ⟨n, h1, h7, rfl, hx⟩ | hx
  · by_cases hi : (0 : Int32) ≤ i
    · have sl := SA_mono n (by omega) (n + 1) (by omega) (by omega)
      have s2 := SA_lt (n + 1) (by omega)
      have s1 : 1 ≤ SA (n + 1) := by
        rcases (show n = 1 ∨ n = 2 ∨ n = 3 ∨ n = 4 ∨ n = 5 ∨ n = 6 ∨ n = 7 by omega) with rfl | rfl | rfl | rfl | rfl | rfl | rfl <;> decide
      have A : ∀ post : Int32 → CS → Prop, (∀ z k', SSt c r k' z → z 1 1 = zS 1 1 → z 1 2 = zS 1 2 → post (afin (acp c r F) (SA (n + 1) - SA n) (SA n) i) z) → qX6_acceptedTree post (nI n) i zS zT zB zM := by
        intro post h
        have key : ∀ d t y (z : CS) k, t + d = SA (n + 1) → afin (acp c r F) d t (i - y) = afin (acp c r F) (SA (n + 1) - SA n) (SA n) i → SSt c r k z → z 1 1 = zS 1 1 → z 1 2 = zS 1 2 → qX6_acceptedTree_22 post (nI n) i zT zB zM (d + 1) y (nI t) z := by
          intro d
          induction d with
          | zero =>
            intro t y z k hd hy hS e1 e2
            show qX6_acceptedTree_22b post (nI n) i zT zB zM (qX6_acceptedTree_22 post (nI n) i zT zB zM 0) y (nI t) z
            unfold qX6_acceptedTree_22b
            rw [nI_1, xst_nI _ (by omega)]
            refine ⟨vp_in_nI (by omega) (by decide), pk_le (SA (n + 1)) t (fun _ => ?_) (fun q => absurd q (by omega)) rfl rfl⟩
            rw [show (-3 : Int32) = afin (acp c r F) (SA (n + 1) - SA n) (SA n) i from hy]
            exact h z k hS e1 e2
          | succ d ih =>
            intro t y z k hd hy hS e1 e2
            show qX6_acceptedTree_22b post (nI n) i zT zB zM (qX6_acceptedTree_22 post (nI n) i zT zB zM (d + 1)) y (nI t) z
            unfold qX6_acceptedTree_22b
            rw [nI_1, xst_nI _ (by omega)]
            refine ⟨vp_in_nI (by omega) (by decide), pk_le (SA (n + 1)) t (fun q => absurd q (by omega)) (fun _ => ?_) rfl rfl⟩
            refine s6_isAccepted c2 c3 c9 c10 c4 c7.2 hS (by omega) (fun z' k' hS' e1' e2' => ?_)
            unfold qX6_acceptedTree_54
            rw [nI_1]
            have hy' : (if acp c r F t then (if i - y = 0 then nI t else afin (acp c r F) d (t + 1) (i - y + (-1))) else afin (acp c r F) d (t + 1) (i - y)) = afin (acp c r F) (SA (n + 1) - SA n) (SA n) i := hy
            cases hb : acp c r F t with
            | false =>
              rw [hb] at hy'
              exact br_t rfl (ih (t + 1) y z' k' (by omega) hy' hS' (e1'.trans e1) (e2'.trans e2))
            | true =>
              rw [hb, if_pos rfl] at hy'
              refine br_f (by decide) ?_
              by_cases ei : y = i
              · rw [if_pos (sub_e.mpr ei)] at hy'
                refine br_t ei ?_
                rw [hy']
                exact h z' k' hS' (e1'.trans e1) (e2'.trans e2)
              · rw [if_neg (fun q => ei (sub_e.mp q))] at hy'
                refine br_f ei (ih (t + 1) (y + 1) z' k' (by omega) ?_ hS' (e1'.trans e1) (e2'.trans e2))
                rw [← hy', show i - (y + 1) = i - y + (-1) by rw [Int32.sub_eq_add_neg, Int32.sub_eq_add_neg, Int32.neg_add, Int32.sub_eq_add_neg, Int32.add_assoc]]
        unfold qX6_acceptedTree
        rw [e6_isSize, hx, xst_nI _ (by omega)]
        exact br_f (by decide) (br_t hi ⟨vp_in_nI (by omega) (by decide), _, key (SA (n + 1) - SA n) (SA n) 0 zS k (by omega) (by rw [Int32.sub_zero]) c11 rfl rfl⟩)
      have B : ∀ post : Int32 → CS → Prop, (∀ z, EQ6 z zN → post (afin (acp c r F) (SA (n + 1) - SA n) (SA n) i) z) → qX7_acceptedTree post (nI n) i zN := by
        intro post h
        have key : ∀ (z : CS), EQ6 z zN → (∀ u, u < SA (n + 1) → ∀ q, q < 6 → z 6 (6 * u + q) = nI (RUN c r u q)) → ∀ d t y, t + d = SA (n + 1) → afin (acp c r F) d t y = afin (acp c r F) (SA (n + 1) - SA n) (SA n) i → qX7_acceptedTree_37 post (nI n) i (d + 1) y (nI t) z := by
          intro z hE hz d
          have g5 : z 5 (n + 1) = nI (SA (n + 1)) := by rw [hE 5 (by decide)]; exact m4.2 _ (by omega)
          induction d with
          | zero =>
            intro t y hd hy
            show qX7_acceptedTree_37b post (nI n) i (qX7_acceptedTree_37 post (nI n) i 0) y (nI t) z
            unfold qX7_acceptedTree_37b
            rw [nI_1, nI_clamp (show n + 1 < 2 ^ 31 by omega), g5]
            refine ⟨vp_in_nI (by omega) (by decide), pk_le (SA (n + 1)) t (fun _ => ?_) (fun q => absurd q (by omega)) rfl rfl⟩
            rw [show (-3 : Int32) = afin (acp c r F) (SA (n + 1) - SA n) (SA n) i from hy]
            exact h z hE
          | succ d ih =>
            intro t y hd hy
            show qX7_acceptedTree_37b post (nI n) i (qX7_acceptedTree_37 post (nI n) i (d + 1)) y (nI t) z
            unfold qX7_acceptedTree_37b
            rw [nI_1, nI_clamp (show n + 1 < 2 ^ 31 by omega), g5]
            refine ⟨vp_in_nI (by omega) (by decide), pk_le (SA (n + 1)) t (fun q => absurd q (by omega)) (fun _ => ?_) rfl rfl⟩
            refine s7_isAccepted c2 c3 (by rw [hE 11 (by decide)]; exact m1) c4 (by rw [hE 7 (by decide)]; exact m2.2) (by omega) (hz t (by omega)) ?_
            unfold qX7_acceptedTree_69
            rw [nI_1]
            have hy' : (if acp c r F t then (if y = 0 then nI t else afin (acp c r F) d (t + 1) (y + (-1))) else afin (acp c r F) d (t + 1) y) = afin (acp c r F) (SA (n + 1) - SA n) (SA n) i := hy
            cases hb : acp c r F t with
            | false =>
              rw [hb] at hy'
              exact br_t rfl (ih (t + 1) y (by omega) hy')
            | true =>
              rw [hb, if_pos rfl] at hy'
              refine br_f (by decide) ?_
              by_cases ei : y = 0
              · rw [if_pos ei] at hy'
                refine br_t ei ?_
                rw [hy']
                exact h z hE
              · rw [if_neg ei] at hy'
                exact br_f ei (ih (t + 1) (y + (-1)) (by omega) hy')
        unfold qX7_acceptedTree
        rw [e7_isSize, hx, nI_1, nI_clamp (show n + 1 < 2 ^ 31 by omega), m4.2 _ (by omega)]
        refine br_f (by decide) (br_t hi ⟨vp_in_nI (by omega) (by decide), ?_⟩)
        rw [show nI (SA (n + 1)) - 1 = nI (SA (n + 1) - 1) from pk_sub (b := 1) s1]
        refine s7_runsTo c2 c3 m2.1 m4 (by omega) (fun z hE hz => ⟨vp_in_nI (by omega) (by decide), SA (n + 1) - SA n + 1, ?_⟩)
        rw [nI_clamp (show n < 2 ^ 31 by omega), show z 5 n = nI (SA n) by rw [hE 5 (by decide)]; exact m4.2 _ (by omega)]
        exact key z hE (fun u hu => hz u (by omega)) (SA (n + 1) - SA n) (SA n) i (by omega) rfl
      exact A _ (fun z k' s1 s2 s3 => B _ (fun z' hE => ⟨rfl, N, c, r, F, e, hb, hC.sub s1 s2 s3, hM.keep (fun j j6 _ _ => hE j j6)⟩))
    · have A : ∀ post : Int32 → CS → Prop, post (-1) zS → qX6_acceptedTree post (nI n) i zS zT zB zM := by
        intro post h
        unfold qX6_acceptedTree
        rw [e6_isSize, hx]
        exact br_f (by decide) (br_f hi h)
      have B : ∀ post : Int32 → CS → Prop, post (-1) zN → qX7_acceptedTree post (nI n) i zN := by
        intro post h
        unfold qX7_acceptedTree
        rw [e7_isSize, hx]
        exact br_f (by decide) (br_f hi h)
      exact A _ (B _ ⟨rfl, hI⟩)
  · have A : ∀ post : Int32 → CS → Prop, post (-1) zS → qX6_acceptedTree post x i zS zT zB zM := by
      intro post h
      unfold qX6_acceptedTree
      rw [e6_isSize, hx]
      exact br_t rfl h
    have B : ∀ post : Int32 → CS → Prop, post (-1) zN → qX7_acceptedTree post x i zN := by
      intro post h
      unfold qX7_acceptedTree
      rw [e7_isSize, hx]
      exact br_t rfl h
    exact A _ (B _ ⟨rfl, hI⟩)
end OPT
