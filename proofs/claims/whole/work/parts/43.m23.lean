/-! ===== the sets that are reached ===== -/
def exF (P : Nat → Bool) (d t : Nat) : Bool := match d with
  | 0 => false
  | d + 1 => P t || exF P d (t + 1)
theorem exF_out {P : Nat → Bool} : ∀ e t, (∀ s, t ≤ s → P s = false) → exF P e t = false
  | 0, _, _ => rfl
  | e + 1, t, h => by
    show (P t || exF P e (t + 1)) = false
    rw [h t (Nat.le_refl t), exF_out e (t + 1) (fun s hs => h s (by omega))]
    rfl
theorem exF_ext {P : Nat → Bool} (e : Nat) : ∀ d t, (∀ s, t + d ≤ s → P s = false) → exF P (d + e) t = exF P d t
  | 0, t, h => by rw [Nat.zero_add]; exact exF_out e t (fun s hs => h s (by omega))
  | d + 1, t, h => by
    rw [Nat.add_right_comm]
    show (P t || exF P (d + e) (t + 1)) = (P t || exF P d (t + 1))
    rw [exF_ext e d (t + 1) (fun s hs => h s (by omega))]
theorem exF_congr {P Q : Nat → Bool} : ∀ d t, (∀ s, s < t + d → P s = Q s) → exF P d t = exF Q d t
  | 0, _, _ => rfl
  | d + 1, t, h => by
    show (P t || exF P d (t + 1)) = (Q t || exF Q d (t + 1))
    rw [h t (by omega), exF_congr d (t + 1) (fun s hs => h s (by omega))]
theorem cfin_out {P : Nat → Bool} : ∀ e t y, (∀ s, t ≤ s → P s = false) → cfin P e t y = y
  | 0, _, _, _ => rfl
  | e + 1, t, y, h => by
    show cfin P e (t + 1) (if P t then y + 1 else y) = y
    rw [h t (Nat.le_refl t)]
    exact cfin_out e (t + 1) y (fun s hs => h s (by omega))
theorem cfin_ext {P : Nat → Bool} (e : Nat) : ∀ d t y, (∀ s, t + d ≤ s → P s = false) → cfin P (d + e) t y = cfin P d t y
  | 0, t, y, h => by rw [Nat.zero_add]; exact cfin_out e t y (fun s hs => h s (by omega))
  | d + 1, t, y, h => by
    rw [Nat.add_right_comm]
    show cfin P (d + e) (t + 1) _ = cfin P d (t + 1) _
    exact cfin_ext e d (t + 1) _ (fun s hs => h s (by omega))
def orF (P : Nat → Bool) (d t y : Nat) : Nat := match d with
  | 0 => y
  | d + 1 => orF P d (t + 1) (if P t then y ||| t else y)
theorem orF_lt {P : Nat → Bool} : ∀ d t y, y < 64 → t + d ≤ 64 → orF P d t y < 64
  | 0, _, _, h, _ => h
  | d + 1, t, y, h, h2 => by
    refine orF_lt d (t + 1) _ ?_ (by omega)
    split
    · exact Nat.or_lt_two_pow (n := 6) h (show t < 64 by omega)
    · exact h
theorem orF_and {P : Nat → Bool} (m : Nat) : ∀ d t y, orF P d t y &&& m ≠ 0 ↔ (y &&& m ≠ 0 ∨ exF (fun s => P s && decide (s &&& m ≠ 0)) d t = true)
  | 0, _, _ => by
    show _ ↔ (_ ∨ false = true)
    simp [orF]
  | d + 1, t, y => by
    show orF P d (t + 1) _ &&& m ≠ 0 ↔ (_ ∨ ((P t && decide (t &&& m ≠ 0)) || exF _ d (t + 1)) = true)
    rw [orF_and m d (t + 1)]
    cases hP : P t with
    | false => simp
    | true =>
      rw [if_pos rfl, Nat.and_or_distrib_right]
      have e : (y &&& m ||| t &&& m) ≠ 0 ↔ (y &&& m ≠ 0 ∨ t &&& m ≠ 0) := by
        constructor
        · intro h
          by_cases q : y &&& m = 0
          · exact Or.inr (fun q2 => h (by rw [q, q2]; rfl))
          · exact Or.inl q
        · intro h q
          have := Nat.or_eq_zero_iff.mp q
          rcases h with h | h
          · exact h this.1
          · exact h this.2
      rw [e]
      simp [or_assoc]
theorem tb_and (n q : Nat) : decide (n &&& 2 ^ q ≠ 0) = n.testBit q := by
  cases h : n.testBit q with
  | true =>
    refine decide_eq_true (fun e => ?_)
    have := congrArg (fun v => v.testBit q) e
    simp [Nat.testBit_and, Nat.testBit_two_pow, h] at this
  | false =>
    refine decide_eq_false (fun e => e (Nat.eq_of_testBit_eq (fun i => ?_)))
    rw [Nat.testBit_and, Nat.testBit_two_pow, Nat.zero_testBit]
    by_cases e : q = i
    · subst e; rw [h]; rfl
    · simp [e]
def Rk (N c : Nat) (r : Nat → Nat → Nat) (k s : Nat) : Bool := decide (0 < MM N c r k s)
theorem s6_census {N c : Nat} {r : Nat → Nat → Nat} {F e : Nat} {hb : Nat → BKT} {zS zT zB zH : CS} {zR : Nat → CS} {zM zZ : CS} (hC : CI N c r F e hb zS zT zB zH zR zM zZ) {post : CS × CS → Prop}
    (h : ∀ zS' zZ' k, zS' 1 2 = nI N → FIX N c r k → (∀ s, s < 64 → zZ' 0 s = nI (MM N c r k s)) → (∀ s, s < 64 → 0 < MM N c r k s → ∃ h, h < 200 ∧ zZ' 2 s = nI h ∧ 0 < MM N c r (h + 1) s ∧ MM N c r h s = 0) → CI N c r F e hb zS' zT zB zH zR zM zZ' → post (zS', zZ')) : qX6_renewCensus post zS zM zZ := by
  obtain ⟨c1, c2, c3, c4, c5, c6, c7, c8, c9, c10, ⟨k, c11⟩, c12⟩ := id hC
  rcases c12 with c12 | ⟨c12, c13⟩
  · refine br_t c12 ?_
    rw [e6_setCount, c6, n1s N (by omega)]
    refine s0_take c2 c3 c10 (fun z' hz => ?_)
    obtain ⟨k0, f1, f2, f3⟩ := id hz
    refine h (st zS 1 1 1) z' k0 ?_ f1 f2 f3 ⟨c1, c2, c3, c4, c5, ?_, c7, c8, c9, c10, ⟨k, ?_⟩, Or.inr ⟨?_, hz⟩⟩
    · rw [st_s, pk_un (by decide)]; exact c6
    · rw [st_s, pk_un (by decide)]; exact c6
    · refine ⟨?_, c11.2.1, ?_, ?_⟩
      · rw [st_s, pk_un (by decide)]; exact c11.1
      · rw [st_n _ _ _ (by decide)]; exact c11.2.2.1
      · rw [st_n _ _ _ (by decide)]; exact c11.2.2.2
    · rw [st_s]; exact pk_us
  · refine br_f (by rw [c12]; decide) ?_
    obtain ⟨k0, f1, f2, f3⟩ := id c13
    exact h zS zZ k0 c6 f1 f2 f3 hC
theorem s7_census {N c : Nat} {r : Nat → Nat → Nat} {F e : Nat} {hb : Nat → BKT} {z : CS} (hN : N ≤ 6) (hV : VB N c r) (hM : MI N c r F e hb z) {k : Nat} (hk : FIX N c r k) {post : CS → Prop}
    (h : ∀ z', E910 z' z → MI N c r F e hb z' → (∀ s, s < 64 → z' 9 s = nI (MM N c r k s)) → post z') : qX7_counts post z := by
  obtain ⟨m1, m2, m3, m4⟩ := id hM
  refine s7_counts hN hV m2.1 m1 (fun z' k' hE hF hz => h z' hE (hM.keep (fun j _ j9 j10 => hE j j9 j10)) (fun s hs => ?_))
  rw [hz s hs, FIX_eq hN hF hk hs]
theorem e0_isReached {N c : Nat} {r : Nat → Nat → Nat} {k : Nat} {z : CS} (hz : ∀ s, s < 64 → z 0 s = nI (MM N c r k s)) {s : Nat} (hs : s < 64) {post : Int32 → Unit → Prop} (h : post (bI (Rk N c r k s)) ()) : qX0_isReached post (nI s) z := by
  refine ⟨vp_in_nI hs (by decide), ?_⟩
  rw [nI_clamp (by omega), hz s hs]
  have := MM_le2 (N := N) (c := c) (r := r) k s
  unfold Rk at h
  refine pk_le (MM N c r k s) 0 (fun q => ?_) (fun q => ?_) rfl rfl
  · rw [decide_eq_false (by omega)] at h; exact h
  · rw [decide_eq_true q] at h; exact h
theorem Rk_out {N c : Nat} {r : Nat → Nat → Nat} (hV : VB N c r) (k : Nat) {s : Nat} (hs : 2 ^ N ≤ s) : Rk N c r k s = false := decide_eq_false (by rw [MM_out hV hs]; omega)
theorem s7_z9 {N c : Nat} {r : Nat → Nat → Nat} {k : Nat} {z : CS} (hz : ∀ s, s < 64 → z 9 s = nI (MM N c r k s)) {s : Nat} (hs : s < 64) {A B : Prop} (hA : Rk N c r k s = false → A) (hB : Rk N c r k s = true → B) : vp_in (nI s) 64 ∧ ((z 9 (nI s).toNatClampNeg ≤ (0 : Int32) → A) ∧ (¬ z 9 (nI s).toNatClampNeg ≤ (0 : Int32) → B)) := by
  refine ⟨vp_in_nI hs (by decide), ?_⟩
  rw [nI_clamp (by omega), hz s hs]
  have := MM_le2 (N := N) (c := c) (r := r) k s
  exact pk_le (MM N c r k s) 0 (fun q => hA (decide_eq_false (by omega))) (fun q => hB (decide_eq_true q)) rfl rfl
theorem s7_z9e {N c : Nat} {r : Nat → Nat → Nat} {k : Nat} {z : CS} (hz : ∀ s, s < 64 → z 9 s = nI (MM N c r k s)) {s : Nat} (hs : s < 64) {A B : Prop} (hA : Rk N c r k s = false → A) (hB : Rk N c r k s = true → B) : vp_in (nI s) 64 ∧ ((z 9 (nI s).toNatClampNeg = (0 : Int32) → A) ∧ (¬ z 9 (nI s).toNatClampNeg = (0 : Int32) → B)) := by
  refine ⟨vp_in_nI hs (by decide), ?_⟩
  rw [nI_clamp (by omega), hz s hs]
  have := MM_le2 (N := N) (c := c) (r := r) k s
  exact pk_eq (MM N c r k s) 0 (fun q => hA (decide_eq_false (by omega))) (fun q => hB (decide_eq_true (by omega))) rfl rfl
section OPC
variable {zS zT zB zH zM zC zZ zN : CS} {zR : Nat → CS}
theorem o_treesOfSet (hI : INV zS zT zB zH zR zM zZ zN) (x : Int32) : qX6_treesOfSet (fun r u => qX7_treesOfSet (fun r' u' => r = r' ∧ INV u.1 zT zB zH zR zM u.2 u') x zN) x zS zM zZ := by
  obtain ⟨N, c, r, F, e, hb, hC, hM⟩ := id hI
  obtain ⟨c1, c2, c3, c4, c5, c6, c7, c8, c9, c10, ⟨k, c11⟩, c12⟩ := id hC
  obtain ⟨m1, m2, m3, m4⟩ := id hM
  have h64 := n64 c2
  have hp := Nat.two_pow_pos N
  rcases rg_cases x (n := 2 ^ N) hp (by omega) with ⟨q, hq, rfl, g6, g7⟩ | ⟨g6, g7, g8⟩
  · have A : ∀ post : Int32 → CS × CS → Prop, (∀ zS' zZ' k, FIX N c r k → CI N c r F e hb zS' zT zB zH zR zM zZ' → post (nI (MM N c r k q)) (zS', zZ')) → qX6_treesOfSet post (nI q) zS zM zZ := by
      intro post h
      unfold qX6_treesOfSet
      rw [e6_setCount, c6, n1s N (by omega)]
      refine br_f (nI_pos (by omega)) (br_t (nI_lt hq (by omega)) (s6_census hC (fun zS' zZ' k _ hk hz _ hC' => ⟨vp_in_nI (by omega) (by decide), ?_⟩)))
      have := h zS' zZ' k hk hC'
      rw [← hz q (by omega)] at this
      rw [nI_clamp (by omega)]
      exact this
    have B : ∀ (k : Nat) (post : Int32 → CS → Prop), FIX N c r k → (∀ z, MI N c r F e hb z → post (nI (MM N c r k q)) z) → qX7_treesOfSet post (nI q) zN := by
      intro k post hk h
      unfold qX7_treesOfSet
      rw [e7_in, m1, n1s N (by omega), g7]
      refine br_f (by decide) (s7_census c2 c3 hM hk (fun z' hE hM' hz => ⟨vp_in_nI (by omega) (by decide), ?_⟩))
      rw [nI_clamp (by omega), hz q (by omega)]
      exact h z' hM'
    exact A _ (fun zS' zZ' k hk hC' => B k _ hk (fun z hM' => ⟨rfl, N, c, r, F, e, hb, hC', hM'⟩))
  · have A : ∀ post : Int32 → CS × CS → Prop, post (-1) (zS, zZ) → qX6_treesOfSet post x zS zM zZ := by
      intro post h
      unfold qX6_treesOfSet
      rw [e6_setCount, c6, n1s N (by omega)]
      rcases g8 with g8 | ⟨g8, g9⟩
      · exact br_t g8 h
      · exact br_f g8 (br_f (Int32.not_lt.mpr g9) h)
    have B : ∀ post : Int32 → CS → Prop, post (-1) zN → qX7_treesOfSet post x zN := by
      intro post h
      unfold qX7_treesOfSet
      rw [e7_in, m1, n1s N (by omega), g7]
      exact br_t rfl h
    exact A _ (B _ ⟨rfl, hI⟩)
theorem o_reachedSets (hI : INV zS zT zB zH zR zM zZ zN) : qX6_reachedSets (fun r u => qX7_reachedSets (fun r' u' => r = r' ∧ INV u.1 zT zB zH zR zM u.2 u') zN) zS zM zZ := by
  obtain ⟨N, c, r, F, e, hb, hC, hM⟩ := id hI
  obtain ⟨c1, c2, c3, -⟩ := id hC
  have h64 := n64 c2
  have A : ∀ post : Int32 → CS × CS → Prop, (∀ zS' zZ' k, FIX N c r k → CI N c r F e hb zS' zT zB zH zR zM zZ' → post (cfin (Rk N c r k) (2 ^ N) 0 0) (zS', zZ')) → qX6_reachedSets post zS zM zZ := by
    intro post h
    refine s6_census hC (fun zS' zZ' k h12 hk hz _ hC' => ⟨2 ^ N + 1, ?_⟩)
    have key : ∀ d t y, t + d = 2 ^ N → cfin (Rk N c r k) d t y = cfin (Rk N c r k) (2 ^ N) 0 0 → qX6_reachedSets_8 post zM (d + 1) y (nI t) zS' zZ' := by
      intro d
      induction d with
      | zero =>
        intro t y hd hy
        show qX6_reachedSets_8b post zM (qX6_reachedSets_8 post zM 0) y (nI t) zS' zZ'
        unfold qX6_reachedSets_8b
        rw [e6_setCount, h12, n1s N (by omega)]
        refine pk_le (2 ^ N) t (fun _ => ?_) (fun q => absurd q (by omega)) rfl rfl
        rw [show y = _ from hy]
        exact h zS' zZ' k hk hC'
      | succ d ih =>
        intro t y hd hy
        show qX6_reachedSets_8b post zM (qX6_reachedSets_8 post zM (d + 1)) y (nI t) zS' zZ'
        unfold qX6_reachedSets_8b
        rw [e6_setCount, h12, n1s N (by omega)]
        refine pk_le (2 ^ N) t (fun q => absurd q (by omega)) (fun _ => ?_) rfl rfl
        refine e0_isReached hz (by omega) ?_
        unfold qX6_reachedSets_30
        rw [nI_1]
        have hy' : cfin (Rk N c r k) d (t + 1) (if Rk N c r k t then y + 1 else y) = _ := hy
        cases hR : Rk N c r k t with
        | false => rw [hR] at hy'; exact br_t rfl (ih (t + 1) y (by omega) hy')
        | true => rw [hR] at hy'; exact br_f (by decide) (ih (t + 1) (y + 1) (by omega) hy')
    exact key (2 ^ N) 0 0 (by omega) rfl
  have B : ∀ (k : Nat) (post : Int32 → CS → Prop), FIX N c r k → (∀ z, MI N c r F e hb z → post (cfin (Rk N c r k) (2 ^ N) 0 0) z) → qX7_reachedSets post zN := by
    intro k post hk h
    refine s7_census c2 c3 hM hk (fun z hE hM' hz => ⟨64 + 1, ?_⟩)
    have key : ∀ d t y, t + d = 64 → cfin (Rk N c r k) d t y = cfin (Rk N c r k) 64 0 0 → qX7_reachedSets_8 post (d + 1) y (nI t) z := by
      intro d
      induction d with
      | zero =>
        intro t y hd hy
        show qX7_reachedSets_8b post (qX7_reachedSets_8 post 0) y (nI t) z
        unfold qX7_reachedSets_8b
        refine pk_le 64 t (fun _ => ?_) (fun q => absurd q (by omega)) rfl rfl
        rw [show y = _ from hy, show (64 : Nat) = 2 ^ N + (64 - 2 ^ N) by omega, cfin_ext _ _ _ _ (fun s hs => Rk_out c3 k (by omega))]
        exact h z hM'
      | succ d ih =>
        intro t y hd hy
        show qX7_reachedSets_8b post (qX7_reachedSets_8 post (d + 1)) y (nI t) z
        unfold qX7_reachedSets_8b
        refine pk_le 64 t (fun q => absurd q (by omega)) (fun _ => ?_) rfl rfl
        have hy' : cfin (Rk N c r k) d (t + 1) (if Rk N c r k t then y + 1 else y) = _ := hy
        unfold qX7_reachedSets_29
        rw [nI_1]
        refine s7_z9 hz (by omega) (fun hR => ?_) (fun hR => ?_)
        · rw [hR] at hy'
          refine ih (t + 1) (y + 0) (by omega) ?_
          rw [Int32.add_zero]; exact hy'
        · rw [hR] at hy'; exact ih (t + 1) (y + 1) (by omega) hy'
    exact key 64 0 0 (by omega) rfl
  exact A _ (fun zS' zZ' k hk hC' => B k _ hk (fun z hM' => ⟨rfl, N, c, r, F, e, hb, hC', hM'⟩))
theorem s6_meets {N c : Nat} {r : Nat → Nat → Nat} (hN : N ≤ 6) {k m : Nat} {zS zZ : CS} (h12 : zS 1 2 = nI N) (hz : ∀ s, s < 64 → zZ 0 s = nI (MM N c r k s)) {post : Int32 → Unit → Prop} (h : post (bI (exF (fun s => Rk N c r k s && decide (s &&& m ≠ 0)) (2 ^ N) 0)) ()) : qX6_meetsReachedSet post (nI m) zS zZ := by
  have h64 := n64 hN
  refine ⟨2 ^ N + 1, ?_⟩
  have key : ∀ d t, t + d = 2 ^ N → exF (fun s => Rk N c r k s && decide (s &&& m ≠ 0)) d t = exF (fun s => Rk N c r k s && decide (s &&& m ≠ 0)) (2 ^ N) 0 → qX6_meetsReachedSet_2 post (nI m) zS zZ (d + 1) (nI t) := by
    intro d
    induction d with
    | zero =>
      intro t hd hy
      show qX6_meetsReachedSet_2b post (nI m) zS zZ (qX6_meetsReachedSet_2 post (nI m) zS zZ 0) (nI t)
      unfold qX6_meetsReachedSet_2b
      rw [e6_setCount, h12, n1s N (by omega)]
      refine pk_le (2 ^ N) t (fun _ => ?_) (fun q => absurd q (by omega)) rfl rfl
      rw [← hy] at h
      exact h
    | succ d ih =>
      intro t hd hy
      show qX6_meetsReachedSet_2b post (nI m) zS zZ (qX6_meetsReachedSet_2 post (nI m) zS zZ (d + 1)) (nI t)
      unfold qX6_meetsReachedSet_2b
      rw [e6_setCount, h12, n1s N (by omega)]
      refine pk_le (2 ^ N) t (fun q => absurd q (by omega)) (fun _ => ?_) rfl rfl
      refine e0_isReached hz (by omega) ?_
      unfold qX6_meetsReachedSet_29
      rw [nI_1, nx_and]
      have hy' : ((Rk N c r k t && decide (t &&& m ≠ 0)) || exF (fun s => Rk N c r k s && decide (s &&& m ≠ 0)) d (t + 1)) = _ := hy
      have hle : t &&& m ≤ t := Nat.and_le_left
      cases hR : Rk N c r k t with
      | false => rw [hR, Bool.false_and, Bool.false_or] at hy'; exact br_t rfl (ih (t + 1) (by omega) hy')
      | true =>
        rw [hR, Bool.true_and] at hy'
        refine br_f (by decide) (pk_eq (t &&& m) 0 (fun q => ?_) (fun q => ?_) rfl rfl)
        · rw [decide_eq_false (by omega), Bool.false_or] at hy'
          exact ih (t + 1) (by omega) hy'
        · rw [decide_eq_true q, Bool.true_or] at hy'
          rw [← hy'] at h
          exact h
  exact key (2 ^ N) 0 (by omega) rfl
theorem s7_reached {N c : Nat} {r : Nat → Nat → Nat} {F e : Nat} {hb : Nat → BKT} {z : CS} (hN : N ≤ 6) (hV : VB N c r) (hM : MI N c r F e hb z) {k : Nat} (hk : FIX N c r k) {post : Int32 → CS → Prop}
    (h : ∀ z', MI N c r F e hb z' → post (nI (orF (Rk N c r k) 64 0 0)) z') : qX7_reached post z := by
  refine s7_census hN hV hM hk (fun z hE hM' hz => ⟨64 + 1, ?_⟩)
  have key : ∀ d t y, t + d = 64 → orF (Rk N c r k) d t y = orF (Rk N c r k) 64 0 0 → qX7_reached_8 post (d + 1) (nI y) (nI t) z := by
    intro d
    induction d with
    | zero =>
      intro t y hd hy
      show qX7_reached_8b post (qX7_reached_8 post 0) (nI y) (nI t) z
      unfold qX7_reached_8b
      refine pk_le 64 t (fun _ => ?_) (fun q => absurd q (by omega)) rfl rfl
      rw [show y = _ from hy]
      exact h z hM'
    | succ d ih =>
      intro t y hd hy
      show qX7_reached_8b post (qX7_reached_8 post (d + 1)) (nI y) (nI t) z
      unfold qX7_reached_8b
      refine pk_le 64 t (fun q => absurd q (by omega)) (fun _ => ?_) rfl rfl
      have hy' : orF (Rk N c r k) d (t + 1) (if Rk N c r k t then y ||| t else y) = _ := hy
      unfold qX7_reached_29
      rw [nI_1]
      refine s7_z9 hz (by omega) (fun hR => ?_) (fun hR => ?_)
      · rw [hR] at hy'
        rw [show nI y ||| (0 : Int32) = nI y by rw [l0, nx_or, Nat.or_zero]]
        exact ih (t + 1) y (by omega) hy'
      · rw [hR] at hy'
        rw [nx_or]
        exact ih (t + 1) (y ||| t) (by omega) hy'
  exact key 64 0 0 (by omega) rfl
theorem or_ex {N c : Nat} {r : Nat → Nat → Nat} (hN : N ≤ 6) (hV : VB N c r) (k m : Nat) : decide (orF (Rk N c r k) 64 0 0 &&& m ≠ 0) = exF (fun s => Rk N c r k s && decide (s &&& m ≠ 0)) (2 ^ N) 0 := by
  have h64 := n64 hN
  have e := orF_and (P := Rk N c r k) m 64 0 0
  rw [Nat.zero_and] at e
  have e2 : exF (fun s => Rk N c r k s && decide (s &&& m ≠ 0)) 64 0 = exF (fun s => Rk N c r k s && decide (s &&& m ≠ 0)) (2 ^ N) 0 := by
    have := exF_ext (P := fun s => Rk N c r k s && decide (s &&& m ≠ 0)) (64 - 2 ^ N) (2 ^ N) 0 (fun s hs => by show (Rk N c r k s && _) = false; rw [Rk_out hV k (by omega)]; rfl)
    rw [show 2 ^ N + (64 - 2 ^ N) = 64 by omega] at this
    exact this
  rw [← e2]
  cases hx : exF (fun s => Rk N c r k s && decide (s &&& m ≠ 0)) 64 0 with
  | true => exact decide_eq_true (e.mpr (Or.inr hx))
  | false =>
    refine decide_eq_false (fun q => ?_)
    rcases e.mp q with q | q
    · exact q rfl
    · rw [hx] at q; cases q
theorem o_isReachable (hI : INV zS zT zB zH zR zM zZ zN) (x : Int32) : qX6_isReachable (fun r u => qX7_isReachable (fun r' u' => r = r' ∧ INV u.1 zT zB zH zR zM u.2 u') x zN) x zS zM zZ := by
  obtain ⟨N, c, r, F, e, hb, hC, hM⟩ := id hI
  obtain ⟨c1, c2, c3, c4, c5, c6, c7, c8, c9, c10, ⟨k, c11⟩, c12⟩ := id hC
  obtain ⟨m1, m2, m3, m4⟩ := id hM
  have bb : ∀ (b : Bool) (P : Int32 → Prop), P (bI b) → (bI b = (0 : Int32) → P 0) ∧ (¬ bI b = (0 : Int32) → P 1) := by
    intro b P h
    cases b with
    | false => exact br_t rfl h
    | true => exact br_f (by decide) h
  rcases rg_cases x (n := N) (by omega) (by omega) with ⟨q, hq, rfl, g6, g7⟩ | ⟨g6, g7, -⟩
  · have A : ∀ post : Int32 → CS × CS → Prop, (∀ zS' zZ' k, FIX N c r k → CI N c r F e hb zS' zT zB zH zR zM zZ' → post (bI (decide (orF (Rk N c r k) 64 0 0 &&& 2 ^ q ≠ 0))) (zS', zZ')) → qX6_isReachable post (nI q) zS zM zZ := by
      intro post h
      unfold qX6_isReachable
      rw [e6_isState, c6, g6, n1s q (by omega)]
      refine br_f (by decide) (s6_census hC (fun zS' zZ' k h12 hk hz _ hC' => s6_meets c2 h12 hz ?_))
      have := h zS' zZ' k hk hC'
      rw [or_ex c2 c3] at this
      exact bb _ (fun v => post v (zS', zZ')) this
    have B : ∀ (k : Nat) (post : Int32 → CS → Prop), FIX N c r k → (∀ z, MI N c r F e hb z → post (bI (decide (orF (Rk N c r k) 64 0 0 &&& 2 ^ q ≠ 0))) z) → qX7_isReachable post (nI q) zN := by
      intro k post hk h
      unfold qX7_isReachable
      rw [e7_isState, m1, g7]
      refine br_f (by decide) (s7_reached c2 c3 hM hk (fun z' hM' => ?_))
      rw [e7_has _ (by omega)]
      have := h z' hM'
      rw [tb_and] at this
      cases ht : (orF (Rk N c r k) 64 0 0).testBit q with
      | false => rw [ht] at this; exact br_t rfl this
      | true => rw [ht] at this; exact br_f (by decide) this
    exact A _ (fun zS' zZ' k hk hC' => B k _ hk (fun z hM' => ⟨rfl, N, c, r, F, e, hb, hC', hM'⟩))
  · have A : ∀ post : Int32 → CS × CS → Prop, post (-1) (zS, zZ) → qX6_isReachable post x zS zM zZ := by
      intro post h
      unfold qX6_isReachable
      rw [e6_isState, c6, g6]
      exact br_t rfl h
    have B : ∀ post : Int32 → CS → Prop, post (-1) zN → qX7_isReachable post x zN := by
      intro post h
      unfold qX7_isReachable
      rw [e7_isState, m1, g7]
      exact br_t rfl h
    exact A _ (B _ ⟨rfl, hI⟩)
theorem o_isEmpty (hI : INV zS zT zB zH zR zM zZ zN) : qX6_isEmpty (fun r u => qX7_isEmpty (fun r' u' => r = r' ∧ INV u.1 zT zB zH zR zM u.2 u') zN) zS zB zM zZ := by
  obtain ⟨N, c, r, F, e, hb, hC, hM⟩ := id hI
  obtain ⟨c1, c2, c3, c4, c5, c6, c7, c8, c9, c10, ⟨k, c11⟩, c12⟩ := id hC
  have h64 := n64 c2
  have bb : ∀ (b : Bool) (P : Int32 → Prop), P (bI (!b)) → (bI b = (0 : Int32) → P 1) ∧ (¬ bI b = (0 : Int32) → P 0) := by
    intro b P h
    cases b with
    | false => exact br_t rfl h
    | true => exact br_f (by decide) h
  have A : ∀ post : Int32 → CS × CS → Prop, (∀ zS' zZ' k, FIX N c r k → CI N c r F e hb zS' zT zB zH zR zM zZ' → post (bI (!(decide (orF (Rk N c r k) 64 0 0 &&& F ≠ 0)))) (zS', zZ')) → qX6_isEmpty post zS zB zM zZ := by
    intro post h
    unfold qX6_isEmpty
    rw [show zB 5 1 = nI F from c7.2]
    refine s6_census hC (fun zS' zZ' k h12 hk hz _ hC' => s6_meets c2 h12 hz ?_)
    have := h zS' zZ' k hk hC'
    rw [or_ex c2 c3] at this
    exact bb _ (fun v => post v (zS', zZ')) this
  have B : ∀ (k : Nat) (post : Int32 → CS → Prop), FIX N c r k → (∀ z, MI N c r F e hb z → post (bI (!(decide (orF (Rk N c r k) 64 0 0 &&& F ≠ 0)))) z) → qX7_isEmpty post zN := by
    intro k post hk h
    unfold qX7_isEmpty
    refine s7_reached c2 c3 hM hk (fun z' hM' => ⟨pk_in 81 82 (by omega), ?_⟩)
    rw [lt81, show z' 7 81 = nI F from hM'.2.1.2, nx_and]
    have := h z' hM'
    have hle : orF (Rk N c r k) 64 0 0 &&& F ≤ F := Nat.and_le_right
    refine pk_eq (orF (Rk N c r k) 64 0 0 &&& F) 0 (fun q => ?_) (fun q => ?_) rfl rfl
    · rw [decide_eq_false (by omega)] at this; exact this
    · rw [decide_eq_true q] at this; exact this
  exact A _ (fun zS' zZ' k hk hC' => B k _ hk (fun z hM' => ⟨rfl, N, c, r, F, e, hb, hC', hM'⟩))
theorem o_isComplete (hI : INV zS zT zB zH zR zM zZ zN) : qX6_isComplete (fun r u => qX7_isComplete (fun r' u' => r = r' ∧ INV u.1 zT zB zH zR zM u.2 u') zN) zS zM zZ := by
  obtain ⟨N, c, r, F, e, hb, hC, hM⟩ := id hI
  obtain ⟨c1, c2, c3, -⟩ := id hC
  have A : ∀ post : Int32 → CS × CS → Prop, (∀ zS' zZ' k, FIX N c r k → CI N c r F e hb zS' zT zB zH zR zM zZ' → post (bI (!(Rk N c r k 0))) (zS', zZ')) → qX6_isComplete post zS zM zZ := by
    intro post h
    refine s6_census hC (fun zS' zZ' k h12 hk hz _ hC' => e0_isReached (s := 0) hz (by omega) ?_)
    have := h zS' zZ' k hk hC'
    cases hR : Rk N c r k 0 with
    | false => rw [hR] at this; exact br_t rfl this
    | true => rw [hR] at this; exact br_f (by decide) this
  have B : ∀ (k : Nat) (post : Int32 → CS → Prop), FIX N c r k → (∀ z, MI N c r F e hb z → post (bI (!(Rk N c r k 0))) z) → qX7_isComplete post zN := by
    intro k post hk h
    refine s7_census c2 c3 hM hk (fun z' hE hM' hz => s7_z9e (s := 0) hz (by omega) (fun hR => ?_) (fun hR => ?_))
    · have := h z' hM'; rw [hR] at this; exact this
    · have := h z' hM'; rw [hR] at this; exact this
  exact A _ (fun zS' zZ' k hk hC' => B k _ hk (fun z hM' => ⟨rfl, N, c, r, F, e, hb, hC', hM'⟩))
end OPC
