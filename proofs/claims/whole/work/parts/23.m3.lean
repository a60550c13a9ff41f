/-! ===== spread, build, step ===== -/
def lowS (s : Nat) : Nat := s &&& (64 - s)
theorem low_nI : ∀ s, s < 64 → 0 < s → (nI s &&& (-nI s)) = nI (lowS s) ∧ lowS s ≤ s ∧ 0 < lowS s := by decide +kernel
theorem low_bit : ∀ s, s < 64 → 0 < s → ∃ q, q < 6 ∧ lowS s = 2 ^ q ∧ s.testBit q = true ∧ ∀ p, p < 6 → (s - lowS s).testBit p = (s.testBit p && decide (p ≠ q)) := by decide +kernel
theorem s3_spread {g : Nat → Int32} {post : (Nat → Int32) → Prop} (h : ∀ g', (∀ s, s < 64 → ∀ i, i < 32 → bt (g' s) i = (bt (g 0) i || (List.range 6).any (fun q => s.testBit q && bt (g (2 ^ q)) i))) → post g') : qX3_spread post g := by
  have key : ∀ d k (f : Nat → Int32), k + d = 64 → 0 < k → (∀ s, s < k → ∀ i, i < 32 → bt (f s) i = (bt (g 0) i || (List.range 6).any (fun q => s.testBit q && bt (g (2 ^ q)) i))) → (∀ s, k ≤ s → f s = g s) → ∃ n, qX3_spread_2 post n (nI k) f := by
    intro d
    induction d with
    | zero =>
      intro k f hk h0 h1 h2
      refine ⟨1, ?_⟩
      show qX3_spread_2b post _ _ _
      exact pk_le 64 k (fun _ => h f (fun s hs => h1 s (by omega))) (fun h => absurd h (by omega))
    | succ d ih =>
      intro k f hk h0 h1 h2
      obtain ⟨e1, e2, e3⟩ := low_nI k (by omega) h0
      obtain ⟨q, hq, hlo, hbit, hrest⟩ := low_bit k (by omega) h0
      obtain ⟨n, hn⟩ := ih (k + 1) (upd f k (f (k - lowS k) ||| f (lowS k))) (by omega) (by omega) (fun s hs i hi => by
        by_cases hsk : s = k
        · subst hsk
          rw [pk_us, b_or, h1 (s - lowS s) (by omega) i hi]
          have hlow : bt (f (lowS s)) i = (bt (g 0) i || bt (g (2 ^ q)) i) ∨ (lowS s = s ∧ bt (f (lowS s)) i = bt (g (2 ^ q)) i) := by
            by_cases hl : lowS s = s
            · right
              exact ⟨hl, by rw [hl, h2 s (Nat.le_refl s), ← hlo, hl]⟩
            · left
              rw [h1 (lowS s) (by omega) i hi, hlo]
              congr 1
              rw [Bool.eq_iff_iff, List.any_eq_true]
              constructor
              · rintro ⟨p, hp, hpb⟩
                rw [Nat.testBit_two_pow, Bool.and_eq_true, decide_eq_true_eq] at hpb
                rw [← hpb.1] at hpb
                exact hpb.2
              · intro hb
                exact ⟨q, List.mem_range.mpr hq, by rw [Nat.testBit_two_pow, hb]; simp⟩
          have hany : (List.range 6).any (fun p => s.testBit p && bt (g (2 ^ p)) i) = ((List.range 6).any (fun p => (s - lowS s).testBit p && bt (g (2 ^ p)) i) || bt (g (2 ^ q)) i) := by
            rw [Bool.eq_iff_iff, Bool.or_eq_true, List.any_eq_true, List.any_eq_true]
            constructor
            · rintro ⟨p, hp, hpb⟩
              rw [Bool.and_eq_true] at hpb
              by_cases hpq : p = q
              · right
                rw [← hpq]
                exact hpb.2
              · left
                refine ⟨p, hp, ?_⟩
                rw [hrest p (List.mem_range.mp hp), hpb.1, hpb.2]
                simp [hpq]
            · rintro (⟨p, hp, hpb⟩ | hb)
              · rw [hrest p (List.mem_range.mp hp)] at hpb
                simp only [Bool.and_eq_true] at hpb
                exact ⟨p, hp, by rw [hpb.1.1, hpb.2]; rfl⟩
              · exact ⟨q, List.mem_range.mpr hq, by rw [hbit, hb]; rfl⟩
          rw [hany]
          rcases hlow with hl | ⟨-, hl⟩ <;> rw [hl] <;> cases bt (g 0) i <;> simp
        · rw [pk_un hsk]
          exact h1 s (by omega) i hi) (fun s hs => by rw [pk_un (by omega)]; exact h2 s (by omega))
      refine ⟨n + 1, ?_⟩
      show qX3_spread_2b post (qX3_spread_2 post n) _ _
      refine pk_le 64 k (fun h => absurd h (by omega)) (fun _ => ?_)
      rw [e1, pk_sub e2, nI_clamp (show k - lowS k < 2 ^ 31 by omega), nI_clamp (show lowS k < 2 ^ 31 by omega), nI_clamp (show k < 2 ^ 31 by omega), nI_1]
      exact ⟨vp_in_nI (by omega) (by decide), vp_in_nI (by omega) (by decide), vp_in_nI (by omega) (by decide), hn⟩
  obtain ⟨n, hn⟩ := key 63 1 g (by omega) (by omega) (fun s hs i hi => by
    rw [show s = 0 by omega]
    have : (List.range 6).any (fun q => (0 : Nat).testBit q && bt (g (2 ^ q)) i) = false := by simp
    rw [this, Bool.or_false]) (fun s _ => rfl)
  exact ⟨n, hn⟩
theorem p_inj {q p : Nat} (h : 2 ^ q = 2 ^ p) : q = p := (Nat.pow_right_inj (by decide)).mp h
theorem spread_key {N c : Nat} {g g' : Nat → Int32} {kid ar : Nat → Nat} {a : Nat} (hN : N ≤ 6) (hkid : ∀ i, i < c → kid i < N) (hg : ∀ s, s < 64 → ∀ i, i < 32 → bt (g s) i = (decide (i < c) && decide (s = (if a < ar i then 2 ^ kid i else 0))))
    (hg' : ∀ s, s < 64 → ∀ i, i < 32 → bt (g' s) i = (bt (g 0) i || (List.range 6).any (fun q => s.testBit q && bt (g (2 ^ q)) i))) : ∀ s, s < 64 → ∀ i, i < 32 → bt (g' s) i = (decide (i < c) && (decide (ar i < a + 1) || s.testBit (kid i))) := by
  intro s hs i hi
  rw [hg' s hs i hi, hg 0 (by omega) i hi]
  by_cases hic : i < c
  · have hk := hkid i hic
    by_cases ha : a < ar i
    · have h0 : ¬ (0 = 2 ^ kid i) := fun h => absurd h.symm (Nat.ne_of_gt (Nat.two_pow_pos _))
      have hany : (List.range 6).any (fun q => s.testBit q && bt (g (2 ^ q)) i) = s.testBit (kid i) := by
        rw [Bool.eq_iff_iff, List.any_eq_true]
        constructor
        · rintro ⟨q, hq, hb⟩
          rw [hg (2 ^ q) (by have := p64 (q := q) (N := 6) (List.mem_range.mp hq) (by omega); exact this) i hi] at hb
          simp only [hic, ha, if_true, Bool.and_eq_true, decide_eq_true_eq, decide_true, true_and] at hb
          rw [← p_inj hb.2]
          exact hb.1
        · intro hb
          refine ⟨kid i, List.mem_range.mpr (by omega), ?_⟩
          rw [hg (2 ^ kid i) (p64 hk hN) i hi, hb]
          simp [hic, ha]
      rw [hany]
      simp [hic, ha, h0, show ¬ ar i < a + 1 by omega]
    · have hle : ar i < a + 1 := by omega
      simp [hic, ha, hle]
  · have hany : (List.range 6).any (fun q => s.testBit q && bt (g (2 ^ q)) i) = false := by
      rw [List.any_eq_false]
      intro q hq
      rw [hg (2 ^ q) (by have := p64 (q := q) (N := 6) (List.mem_range.mp hq) (by omega); exact this) i hi]
      simp [hic]
    rw [hany]
    simp [hic]
theorem s3_build {N c : Nat} {r : Nat → Nat → Nat} {zB zM : CS} (hN : N ≤ 6) (hV : VB N c r) (hB : RB zB c r) {post : CS → Prop} (h : ∀ z, RM c r z → post z) : qX3_build post zB zM := by
  have hc := hV.1
  have key : ∀ d k (z : CS), k + d = c → RM0 k r z → qX3_build_36 post zB (d + 1) (nI k) z := by
    intro d
    induction d with
    | zero =>
      intro k z hk hM
      show qX3_build_36b post zB _ _ _
      refine pk_le c k (fun _ => ?_) (fun h => absurd h (by omega)) hB.1 rfl
      rw [show k = c by omega] at hM
      obtain ⟨m0, m1, m2, m3, m4, m5⟩ := hM
      refine s3_spread (fun g1 h1 => ?_)
      rw [sr_n _ _ (show (2 : Nat) ≠ 1 by decide)]
      refine s3_spread (fun g2 h2 => h _ ⟨m0, ?_, ?_, m3, m4, m5⟩)
      · exact spread_key (a := 0) (ar := fun i => arN (r i 0)) (kid := fun i => r i 1) hN (fun i hi => (hV.2 i hi).2.1) m1 h1
      · exact spread_key (a := 1) (ar := fun i => arN (r i 0)) (kid := fun i => r i 2) hN (fun i hi => (hV.2 i hi).2.2.1) m2 h2
    | succ d ih =>
      intro k z hk hM
      show qX3_build_36b post zB (qX3_build_36 post zB (d + 1)) _ _
      refine pk_le c k (fun h => absurd h (by omega)) (fun _ => ?_) hB.1 rfl
      refine s3_enter hN hV hB (by omega) hM (fun z' hz' => ?_)
      rw [nI_1]
      exact ih (k + 1) z' (by omega) hz'
  refine sJ_fill (by omega) (fun g1 h1 => ?_)
  refine sJ_fill (by omega) (fun g2 h2 => ?_)
  refine sJ_fill (by omega) (fun g3 h3 => ?_)
  refine ⟨c + 1, key c 0 _ (by omega) ⟨?_, ?_, ?_, ?_, ?_, ?_⟩⟩
  · intro f hf i hi
    show bt (g1 f) i = _
    rw [h1 f hf, b_0]
    simp
  · intro f hf i hi
    show bt (g2 f) i = _
    rw [h2 f hf, b_0]
    simp
  · intro f hf i hi
    show bt (g3 f) i = _
    rw [h3 f hf, b_0]
    simp
  · intro i hi
    exact absurd hi (by omega)
  · intro i hi
    show bt 0 i = _
    rw [b_0]
    simp
  · intro i hi
    show bt 0 i = _
    rw [b_0]
    simp
theorem fit_eq {N c : Nat} {r : Nat → Nat → Nat} {z : CS} (hV : VB N c r) (hM : RM c r z) {f a b : Nat} (hf : f < 5) (ha : a < 64) (hb : b < 64) (same : Bool) {i : Nat} (hi : i < 32) :
    bt (((z 0 f &&& z 1 a) &&& z 2 b) &&& (if same then z 4 0 else z 4 1)) i = fitc c r f a b same i := by
  obtain ⟨m0, m1, m2, m3, m4, m5⟩ := hM
  have hw : bt (if same then z 4 0 else z 4 1) i = (decide (i < c) && decide (r i 3 ≠ (if same then 2 else 1))) := by
    cases same
    · exact m5 i hi
    · exact m4 i hi
  rw [b_and, b_and, b_and, hw, m0 f hf i hi, m1 a ha i hi, m2 b hb i hi]
  unfold fitc fit
  by_cases hic : i < c
  · obtain ⟨v0, v1, v2, v3, v4, v5⟩ := hV.2 i hic
    by_cases hfr : r i 0 = f
    · subst hfr
      by_cases h2 : arN (r i 0) < 2
      · have : decide (r i 3 ≠ (if same then 2 else 1)) = true := by rw [v5 h2]; cases same <;> rfl
        simp [hic, h2, this]
      · have : decide (r i 3 ≠ (if same then 2 else 1)) = ful (r i 3) same := by
          rcases (show r i 3 = 0 ∨ r i 3 = 1 ∨ r i 3 = 2 by omega) with e | e | e <;> rw [e] <;> cases same <;> rfl
        rw [this]
        simp [hic, h2, Bool.and_assoc]
    · have : ¬ f = r i 0 := fun e => hfr e.symm
      simp [hic, hfr, this]
  · simp [hic]
theorem s3_step {N c : Nat} {r : Nat → Nat → Nat} {z : CS} (hN : N ≤ 6) (hV : VB N c r) (hM : RM c r z) {f a b : Nat} (hf : f < 5) (ha : a < 64) (hb : b < 64) (same : Bool) {post : Int32 → Unit → Prop} (h : post (nI (lead c r f a b same)) ()) : qX3_step post (nI f) (nI a) (nI b) (bI same) z := by
  have hc := hV.1
  have hfit : ∀ i, i < 32 → bt (((z 0 f &&& z 1 a) &&& z 2 b) &&& (if same then z 4 0 else z 4 1)) i = fitc c r f a b same i := fun i hi => fit_eq hV hM hf ha hb same hi
  obtain ⟨w, hw⟩ : ∃ w, w = ((z 0 f &&& z 1 a) &&& z 2 b) &&& (if same then z 4 0 else z 4 1) := ⟨_, rfl⟩
  rw [← hw] at hfit
  have key : ∀ d k, k + d = 16 → qX3_step_45 post (nI f) (nI a) (nI b) (bI same) z (d + 1) w (nI (ldTo (fitc c r f a b same) (fun i => r i 4) k)) (nI k) := by
    intro d
    induction d with
    | zero =>
      intro k hk
      show qX3_step_45b post _ _ _ _ z _ _ _ _
      refine pk_le 16 k (fun _ => ?_) (fun h => absurd h (by omega))
      rw [show k = 16 by omega]
      exact h
    | succ d ih =>
      intro k hk
      have hn := ih (k + 1) (by omega)
      show qX3_step_45b post _ _ _ _ z (qX3_step_45 post (nI f) (nI a) (nI b) (bI same) z (d + 1)) _ _ _
      refine pk_le 16 k (fun h => absurd h (by omega)) (fun _ => ⟨fun hz => ?_, fun _ => ?_⟩)
      · have hcut := ldTo_cut (P := fitc c r f a b same) (ta := fun i => r i 4) (k := k) (fun i hi => by
          by_cases hi16 : i < 16
          · have h1 : bt (w >>> (nI k &&& 31)) (i - k) = false := by rw [hz]; exact b_0 _
            rw [b_sshr k (by omega) w (by omega), if_pos (by omega), show k + (i - k) = i by omega] at h1
            rw [← hfit i (by omega)]
            exact h1
          · unfold fitc
            rw [decide_eq_false (by omega)]
            rfl) (16 - k)
        rw [show k + (16 - k) = 16 by omega] at hcut
        show post _ ()
        rw [← hcut]
        exact h
      · rw [has_bit w (show k < 32 by omega), hfit k (by omega)]
        cases hp : fitc c r f a b same k with
        | false =>
          refine br_t (by simp) ?_
          show qX3_step_45 post _ _ _ _ z (d + 1) _ _ (_ + _)
          rw [nI_1]
          have e : ldTo (fitc c r f a b same) (fun i => r i 4) (k + 1) = ldTo (fitc c r f a b same) (fun i => r i 4) k := by
            show ldTo _ _ k ||| (if fitc c r f a b same k then _ else _) = _
            rw [hp]
            simp
          rw [← e]
          exact hn
        | true =>
          have hkc : k < c := by
            unfold fitc at hp
            rw [Bool.and_eq_true, decide_eq_true_eq] at hp
            exact hp.1
          refine br_f (by simp) ⟨vp_in_nI (by omega) (by decide), ?_⟩
          show qX3_step_45 post _ _ _ _ z (d + 1) _ (_ ||| _) (_ + _)
          rw [nI_1, nI_clamp (by omega), hM.2.2.2.1 k hkc, nx_or]
          have e : ldTo (fitc c r f a b same) (fun i => r i 4) (k + 1) = ldTo (fitc c r f a b same) (fun i => r i 4) k ||| 2 ^ r k 4 := by
            show ldTo _ _ k ||| (if fitc c r f a b same k then _ else _) = _
            rw [hp]
            rfl
          rw [← e]
          exact hn
  have k0 := key 16 0 (by omega)
  unfold qX3_step
  rw [nI_clamp (show f < 2 ^ 31 by omega), nI_clamp (show a < 2 ^ 31 by omega), nI_clamp (show b < 2 ^ 31 by omega)]
  refine ⟨vp_in_nI hf (by decide), vp_in_nI ha (by decide), vp_in_nI hb (by decide), ?_⟩
  rw [hw] at k0
  cases same with
  | false => exact br_t rfl ⟨17, k0⟩
  | true => exact br_f (by decide) ⟨17, k0⟩
