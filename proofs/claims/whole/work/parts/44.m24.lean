/-! ===== every reached set: universal, deterministic; the least height ===== -/
section OPU
variable {zS zT zB zH zM zC zZ zN : CS} {zR : Nat → CS}
theorem exF_64 {N : Nat} (hN : N ≤ 6) {P : Nat → Bool} (h : ∀ s, 2 ^ N ≤ s → P s = false) : exF P 64 0 = exF P (2 ^ N) 0 := by
  have h64 := n64 hN
  have := exF_ext (P := P) (64 - 2 ^ N) (2 ^ N) 0 (fun s hs => h s (by omega))
  rw [show 2 ^ N + (64 - 2 ^ N) = 64 by omega] at this
  exact this
theorem o_isUniversal (hI : INV zS zT zB zH zR zM zZ zN) : qX6_isUniversal (fun r u => qX7_isUniversal (fun r' u' => r = r' ∧ INV u.1 zT zB zH zR zM u.2 u') zN) zS zB zM zZ := by
  obtain ⟨N, c, r, F, e, hb, hC, hM⟩ := id hI
  obtain ⟨c1, c2, c3, c4, c5, c6, c7, -⟩ := id hC
  have h64 := n64 c2
  have A : ∀ post : Int32 → CS × CS → Prop, (∀ zS' zZ' k, FIX N c r k → CI N c r F e hb zS' zT zB zH zR zM zZ' → post (bI (!(exF (fun s => Rk N c r k s && decide (s &&& F = 0)) (2 ^ N) 0))) (zS', zZ')) → qX6_isUniversal post zS zB zM zZ := by
    intro post h
    refine s6_census hC (fun zS' zZ' k h12 hk hz _ hC' => ⟨2 ^ N + 1, ?_⟩)
    have h := h zS' zZ' k hk hC'
    have key : ∀ d t, t + d = 2 ^ N → exF (fun s => Rk N c r k s && decide (s &&& F = 0)) d t = exF (fun s => Rk N c r k s && decide (s &&& F = 0)) (2 ^ N) 0 → qX6_isUniversal_6 post zB zM (d + 1) (nI t) zS' zZ' := by
      intro d
      induction d with
      | zero =>
        intro t hd hy
        show qX6_isUniversal_6b post zB zM (qX6_isUniversal_6 post zB zM 0) (nI t) zS' zZ'
        unfold qX6_isUniversal_6b
        rw [e6_setCount, h12, n1s N (by omega)]
        refine pk_le (2 ^ N) t (fun _ => ?_) (fun q => absurd q (by omega)) rfl rfl
        rw [← hy] at h
        exact h
      | succ d ih =>
        intro t hd hy
        show qX6_isUniversal_6b post zB zM (qX6_isUniversal_6 post zB zM (d + 1)) (nI t) zS' zZ'
        unfold qX6_isUniversal_6b
        rw [e6_setCount, h12, n1s N (by omega)]
        refine pk_le (2 ^ N) t (fun q => absurd q (by omega)) (fun _ => ?_) rfl rfl
        refine e0_isReached hz (by omega) ?_
        unfold qX6_isUniversal_39
        rw [nI_1, show zB 5 1 = nI F from c7.2, nx_and]
        have hy' : ((Rk N c r k t && decide (t &&& F = 0)) || exF (fun s => Rk N c r k s && decide (s &&& F = 0)) d (t + 1)) = _ := hy
        have hle : t &&& F ≤ t := Nat.and_le_left
        cases hR : Rk N c r k t with
        | false => rw [hR, Bool.false_and, Bool.false_or] at hy'; exact br_t rfl (ih (t + 1) (by omega) hy')
        | true =>
          rw [hR, Bool.true_and] at hy'
          refine br_f (by decide) (pk_eq (t &&& F) 0 (fun q => ?_) (fun q => ?_) rfl rfl)
          · rw [decide_eq_true q, Bool.true_or] at hy'
            rw [← hy'] at h
            exact h
          · rw [decide_eq_false q, Bool.false_or] at hy'
            exact ih (t + 1) (by omega) hy'
    exact key (2 ^ N) 0 (by omega) rfl
  have B : ∀ (k : Nat) (post : Int32 → CS → Prop), FIX N c r k → (∀ z, MI N c r F e hb z → post (bI (!(exF (fun s => Rk N c r k s && decide (s &&& F = 0)) (2 ^ N) 0))) z) → qX7_isUniversal post zN := by
    intro k post hk h
    refine s7_census c2 c3 hM hk (fun z hE hM' hz => ⟨64 + 1, ?_⟩)
    have h := h z hM'
    rw [← exF_64 c2 (fun s hs => by show (Rk N c r k s && _) = false; rw [Rk_out c3 k hs]; rfl)] at h
    have key : ∀ d t (g : Bool), t + d = 64 → (g && !(exF (fun s => Rk N c r k s && decide (s &&& F = 0)) d t)) = !(exF (fun s => Rk N c r k s && decide (s &&& F = 0)) 64 0) → qX7_isUniversal_8 post (d + 1) (bI g) (nI t) z := by
      intro d
      induction d with
      | zero =>
        intro t g hd hy
        show qX7_isUniversal_8b post (qX7_isUniversal_8 post 0) (bI g) (nI t) z
        unfold qX7_isUniversal_8b
        refine pk_le 64 t (fun _ => ?_) (fun q => absurd q (by omega)) rfl rfl
        rw [← hy] at h
        cases g with
        | false => exact br_t rfl h
        | true => exact br_f (by decide) h
      | succ d ih =>
        intro t g hd hy
        show qX7_isUniversal_8b post (qX7_isUniversal_8 post (d + 1)) (bI g) (nI t) z
        unfold qX7_isUniversal_8b
        refine pk_le 64 t (fun q => absurd q (by omega)) (fun _ => ?_) rfl rfl
        have hy' : (g && !((Rk N c r k t && decide (t &&& F = 0)) || exF (fun s => Rk N c r k s && decide (s &&& F = 0)) d (t + 1))) = _ := hy
        unfold qX7_isUniversal_43 qX7_isUniversal_39 qX7_isUniversal_44
        rw [nI_1]
        cases g with
        | false => exact br_t rfl (ih (t + 1) false (by omega) hy')
        | true =>
          refine br_f (by decide) (s7_z9e hz (by omega) (fun hR => ?_) (fun hR => ⟨pk_in 81 82 (by omega), ?_⟩))
          · rw [hR, Bool.false_and, Bool.false_or] at hy'
            exact ih (t + 1) true (by omega) hy'
          · rw [lt81, show z 7 81 = nI F from hM'.2.1.2, nx_and]
            have hle : t &&& F ≤ t := Nat.and_le_left
            rw [hR, Bool.true_and, Bool.true_and] at hy'
            refine pk_eq (t &&& F) 0 (fun q => ?_) (fun q => ?_) rfl rfl
            · rw [decide_eq_true q, Bool.true_or] at hy'
              exact ih (t + 1) false (by omega) hy'
            · rw [decide_eq_false q, Bool.false_or] at hy'
              exact ih (t + 1) true (by omega) hy'
    exact key 64 0 true (by omega) rfl
  exact A _ (fun zS' zZ' k hk hC' => B k _ hk (fun z hM' => ⟨rfl, N, c, r, F, e, hb, hC', hM'⟩))
theorem bc_two : ∀ s, s < 64 → decide (1 < bc6 s) = decide (¬ (nI s &&& (nI s - 1)) = 0) := by decide +kernel
theorem bc_le : ∀ s, s < 64 → bc6 s ≤ 6 := by decide +kernel
theorem o_isDeterministic (hI : INV zS zT zB zH zR zM zZ zN) : qX6_isDeterministic (fun r u => qX7_isDeterministic (fun r' u' => r = r' ∧ INV u.1 zT zB zH zR zM u.2 u') zN) zS zM zZ := by
  obtain ⟨N, c, r, F, e, hb, hC, hM⟩ := id hI
  obtain ⟨c1, c2, c3, -⟩ := id hC
  have h64 := n64 c2
  have A : ∀ post : Int32 → CS × CS → Prop, (∀ zS' zZ' k, FIX N c r k → CI N c r F e hb zS' zT zB zH zR zM zZ' → post (bI (!(exF (fun s => Rk N c r k s && decide (1 < bc6 s)) (2 ^ N) 0))) (zS', zZ')) → qX6_isDeterministic post zS zM zZ := by
    intro post h
    refine s6_census hC (fun zS' zZ' k h12 hk hz _ hC' => ⟨2 ^ N + 1, ?_⟩)
    have h := h zS' zZ' k hk hC'
    have key : ∀ d t, t + d = 2 ^ N → exF (fun s => Rk N c r k s && decide (1 < bc6 s)) d t = exF (fun s => Rk N c r k s && decide (1 < bc6 s)) (2 ^ N) 0 → qX6_isDeterministic_6 post zM (d + 1) (nI t) zS' zZ' := by
      intro d
      induction d with
      | zero =>
        intro t hd hy
        show qX6_isDeterministic_6b post zM (qX6_isDeterministic_6 post zM 0) (nI t) zS' zZ'
        unfold qX6_isDeterministic_6b
        rw [e6_setCount, h12, n1s N (by omega)]
        refine pk_le (2 ^ N) t (fun _ => ?_) (fun q => absurd q (by omega)) rfl rfl
        rw [← hy] at h
        exact h
      | succ d ih =>
        intro t hd hy
        show qX6_isDeterministic_6b post zM (qX6_isDeterministic_6 post zM (d + 1)) (nI t) zS' zZ'
        unfold qX6_isDeterministic_6b
        rw [e6_setCount, h12, n1s N (by omega)]
        refine pk_le (2 ^ N) t (fun q => absurd q (by omega)) (fun _ => ?_) rfl rfl
        refine e0_isReached hz (by omega) ?_
        unfold qX6_isDeterministic_35
        rw [nI_1, eJ_bit, bcE_nI t (by omega)]
        have hy' : ((Rk N c r k t && decide (1 < bc6 t)) || exF (fun s => Rk N c r k s && decide (1 < bc6 s)) d (t + 1)) = _ := hy
        have hle := bc_le t (by omega)
        cases hR : Rk N c r k t with
        | false => rw [hR, Bool.false_and, Bool.false_or] at hy'; exact br_t rfl (ih (t + 1) (by omega) hy')
        | true =>
          rw [hR, Bool.true_and] at hy'
          refine br_f (by decide) (pk_le (bc6 t) 1 (fun q => ?_) (fun q => ?_) rfl rfl)
          · rw [decide_eq_false (by omega), Bool.false_or] at hy'
            exact ih (t + 1) (by omega) hy'
          · rw [decide_eq_true q, Bool.true_or] at hy'
            rw [← hy'] at h
            exact h
    exact key (2 ^ N) 0 (by omega) rfl
  have B : ∀ (k : Nat) (post : Int32 → CS → Prop), FIX N c r k → (∀ z, MI N c r F e hb z → post (bI (!(exF (fun s => Rk N c r k s && decide (1 < bc6 s)) (2 ^ N) 0))) z) → qX7_isDeterministic post zN := by
    intro k post hk h
    refine s7_census c2 c3 hM hk (fun z hE hM' hz => ⟨64 + 1, ?_⟩)
    have h := h z hM'
    rw [← exF_64 c2 (fun s hs => by show (Rk N c r k s && _) = false; rw [Rk_out c3 k hs]; rfl)] at h
    have key : ∀ d t (g : Bool), t + d = 64 → (g && !(exF (fun s => Rk N c r k s && decide (1 < bc6 s)) d t)) = !(exF (fun s => Rk N c r k s && decide (1 < bc6 s)) 64 0) → qX7_isDeterministic_8 post (d + 1) (bI g) (nI t) z := by
      intro d
      induction d with
      | zero =>
        intro t g hd hy
        show qX7_isDeterministic_8b post (qX7_isDeterministic_8 post 0) (bI g) (nI t) z
        unfold qX7_isDeterministic_8b
        refine pk_le 64 t (fun _ => ?_) (fun q => absurd q (by omega)) rfl rfl
        rw [← hy] at h
        cases g with
        | false => exact br_t rfl h
        | true => exact br_f (by decide) h
      | succ d ih =>
        intro t g hd hy
        show qX7_isDeterministic_8b post (qX7_isDeterministic_8 post (d + 1)) (bI g) (nI t) z
        unfold qX7_isDeterministic_8b
        refine pk_le 64 t (fun q => absurd q (by omega)) (fun _ => ?_) rfl rfl
        have hy' : (g && !((Rk N c r k t && decide (1 < bc6 t)) || exF (fun s => Rk N c r k s && decide (1 < bc6 s)) d (t + 1))) = _ := hy
        unfold qX7_isDeterministic_39 qX7_isDeterministic_35 qX7_isDeterministic_40
        rw [show nI t + 1 = nI (t + 1) from nI_1 t]
        cases g with
        | false => exact br_t rfl (ih (t + 1) false (by omega) hy')
        | true =>
          refine br_f (by decide) (s7_z9e hz (by omega) (fun hR => ?_) (fun hR => ?_))
          · rw [hR, Bool.false_and, Bool.false_or] at hy'
            exact ih (t + 1) true (by omega) hy'
          · rw [hR, Bool.true_and, Bool.true_and, bc_two t (by omega)] at hy'
            by_cases q : (nI t &&& (nI t - 1)) = 0
            · rw [decide_eq_false (fun w => w q), Bool.false_or] at hy'
              exact br_t q (ih (t + 1) true (by omega) hy')
            · rw [decide_eq_true q, Bool.true_or] at hy'
              exact br_f q (ih (t + 1) false (by omega) hy')
    exact key 64 0 true (by omega) rfl
  exact A _ (fun zS' zZ' k hk hC' => B k _ hk (fun z hM' => ⟨rfl, N, c, r, F, e, hb, hC', hM'⟩))
def LH (N c : Nat) (r : Nat → Nat → Nat) (F : Nat) (v : Int32) : Prop := (v = -3 ∧ ∀ s, s < 64 → s &&& F ≠ 0 → ∀ j, MM N c r j s = 0) ∨ (∃ m, v = nI m ∧ (∃ s, s < 64 ∧ s &&& F ≠ 0 ∧ 0 < MM N c r (m + 1) s) ∧ ∀ s, s < 64 → s &&& F ≠ 0 → MM N c r m s = 0)
theorem MM_le {N c : Nat} {r : Nat → Nat → Nat} {a b : Nat} (h : a ≤ b) (s : Nat) : MM N c r a s ≤ MM N c r b s := by
  obtain ⟨d, rfl⟩ := Nat.exists_eq_add_of_le h
  exact MM_mono a s d
theorem MM_top {N c : Nat} {r : Nat → Nat → Nat} (hN : N ≤ 6) {k : Nat} (hk : FIX N c r k) (j : Nat) {s : Nat} (hs : s < 64) : MM N c r j s ≤ MM N c r k s := by
  rcases Nat.le_total j k with e | e
  · exact MM_le e s
  · obtain ⟨d, rfl⟩ := Nat.exists_eq_add_of_le e
    exact Nat.le_of_eq (FIX_on hN hk d s hs)
theorem o_leastHeight (hI : INV zS zT zB zH zR zM zZ zN) : qX6_leastHeight (fun r u => qX7_leastHeight (fun r' u' => r = r' ∧ INV u.1 zT zB zH zR zM u.2 u') zN) zS zB zM zZ := by
  obtain ⟨N, c, r, F, e, hb, hC, hM⟩ := id hI
  obtain ⟨c1, c2, c3, c4, c5, c6, c7, -⟩ := id hC
  obtain ⟨m1, m2, m3, m4⟩ := id hM
  have h64 := n64 c2
  have A : ∀ post : Int32 → CS × CS → Prop, (∀ zS' zZ' v, LH N c r F v → CI N c r F e hb zS' zT zB zH zR zM zZ' → post v (zS', zZ')) → qX6_leastHeight post zS zB zM zZ := by
    intro post h
    refine s6_census hC (fun zS' zZ' k h12 hk hz hh hC' => ⟨2 ^ N + 1, ?_⟩)
    have key : ∀ d t y, t + d = 2 ^ N → ((y = -3 ∧ ∀ s, s < t → s &&& F ≠ 0 → MM N c r k s = 0) ∨ (∃ m, m < 200 ∧ y = nI m ∧ (∃ s, s < t ∧ s &&& F ≠ 0 ∧ 0 < MM N c r (m + 1) s) ∧ ∀ s, s < t → s &&& F ≠ 0 → MM N c r m s = 0)) → qX6_leastHeight_9 post zB zM (d + 1) y (nI t) zS' zZ' := by
      intro d
      induction d with
      | zero =>
        intro t y hd hy
        show qX6_leastHeight_9b post zB zM (qX6_leastHeight_9 post zB zM 0) y (nI t) zS' zZ'
        unfold qX6_leastHeight_9b
        rw [e6_setCount, h12, n1s N (by omega)]
        refine pk_le (2 ^ N) t (fun _ => ?_) (fun q => absurd q (by omega)) rfl rfl
        refine h zS' zZ' y ?_ hC'
        rcases hy with ⟨hy, hn⟩ | ⟨m, hm, hy, ⟨s, hs, hs2, hs3⟩, hn⟩
        · refine Or.inl ⟨hy, fun s hs hF j => ?_⟩
          by_cases hsN : s < 2 ^ N
          · have := MM_top (N := N) (c := c) (r := r) c2 hk j hs
            have := hn s (by omega) hF
            omega
          · exact MM_out c3 (by omega) j
        · refine Or.inr ⟨m, hy, ⟨s, by omega, hs2, hs3⟩, fun s hs hF => ?_⟩
          by_cases hsN : s < 2 ^ N
          · exact hn s (by omega) hF
          · exact MM_out c3 (by omega) m
      | succ d ih =>
        intro t y hd hy
        show qX6_leastHeight_9b post zB zM (qX6_leastHeight_9 post zB zM (d + 1)) y (nI t) zS' zZ'
        unfold qX6_leastHeight_9b
        rw [e6_setCount, h12, n1s N (by omega)]
        refine pk_le (2 ^ N) t (fun q => absurd q (by omega)) (fun _ => ?_) rfl rfl
        refine e0_isReached hz (by omega) ?_
        unfold qX6_leastHeight_59 qX6_leastHeight_69
        rw [nI_1, show zB 5 1 = nI F from c7.2, nx_and, nI_clamp (by omega)]
        have hle : t &&& F ≤ t := Nat.and_le_left
        have it : vp_in (nI t) 64 := vp_in_nI (by omega) (by decide)
        -- the set is passed over
        have skip : (t &&& F ≠ 0 → MM N c r k t = 0) → qX6_leastHeight_9 post zB zM (d + 1) y (nI (t + 1)) zS' zZ' := by
          intro hs
          refine ih (t + 1) y (by omega) ?_
          rcases hy with ⟨hy, hn⟩ | ⟨m, hm, hy, ⟨s, hs1, hs2, hs3⟩, hn⟩
          · refine Or.inl ⟨hy, fun s hs' hF => ?_⟩
            rcases (show s < t ∨ s = t by omega) with q | q
            · exact hn s q hF
            · subst q; exact hs hF
          · refine Or.inr ⟨m, hm, hy, ⟨s, by omega, hs2, hs3⟩, fun s hs' hF => ?_⟩
            rcases (show s < t ∨ s = t by omega) with q | q
            · exact hn s q hF
            · subst q
              have := MM_top (N := N) (c := c) (r := r) c2 hk m (s := s) (by omega)
              have := hs hF
              omega
        cases hR : Rk N c r k t with
        | false => exact br_t rfl (skip (fun _ => by have := of_decide_eq_false hR; omega))
        | true =>
          refine br_f (by decide) (pk_eq (t &&& F) 0 (fun q => skip (fun q2 => absurd q q2)) (fun q => ?_) rfl rfl)
          obtain ⟨hh0, hh1, hh2, hh3, hh4⟩ := hh t (by omega) (of_decide_eq_true hR)
          rw [hh2]
          -- the set's own height is taken
          have takes : (∀ s, s < t → s &&& F ≠ 0 → MM N c r hh0 s = 0) → qX6_leastHeight_9 post zB zM (d + 1) (nI hh0) (nI (t + 1)) zS' zZ' := by
            intro hs
            refine ih (t + 1) (nI hh0) (by omega) (Or.inr ⟨hh0, hh1, rfl, ⟨t, by omega, q, hh3⟩, fun s hs' hF => ?_⟩)
            rcases (show s < t ∨ s = t by omega) with q | q
            · exact hs s q hF
            · subst q; exact hh4
          rcases id hy with ⟨hy, hn⟩ | ⟨m, hm, hy, ⟨s, hs1, hs2, hs3⟩, hn⟩
          · refine br_t hy ⟨it, takes (fun s hs hF => ?_)⟩
            have := MM_top (N := N) (c := c) (r := r) c2 hk hh0 (s := s) (by omega)
            have := hn s hs hF
            omega
          · refine br_f ?_ ⟨it, ?_⟩
            · rw [hy]
              intro w
              exact absurd (show nI m < 0 by rw [w]; decide) (nI_pos (by omega))
            · refine pk_le m hh0 (fun q2 => ?_) (fun q2 => ⟨it, takes (fun s hs hF => ?_)⟩) hy rfl
              · refine ih (t + 1) y (by omega) (Or.inr ⟨m, hm, hy, ⟨s, by omega, hs2, hs3⟩, fun s hs' hF => ?_⟩)
                rcases (show s < t ∨ s = t by omega) with q | q
                · exact hn s q hF
                · subst q
                  have := MM_le (N := N) (c := c) (r := r) q2 s
                  omega
              · have := MM_le (N := N) (c := c) (r := r) (Nat.le_of_lt q2) s
                have := hn s hs hF
                omega
    exact key (2 ^ N) 0 (-3) (by omega) (Or.inl ⟨rfl, fun s hs => absurd hs (by omega)⟩)
  have B : ∀ (v : Int32) (post : Int32 → CS → Prop), LH N c r F v → (∀ z, MI N c r F e hb z → post v z) → qX7_leastHeight post zN := by
    intro v post hv h
    have key : ∀ d k (y : CS) (g : Bool), E910 y zN → (∀ s, s < 64 → y 9 s = nI (MM N c r k s)) → (g = true → 129 ≤ sm 64 (MM N c r k) + d) → (g = false → FIX N c r k) → (∀ s, s < 64 → s &&& F ≠ 0 → MM N c r k s = 0) → qX7_leastHeight_8 post (d + 1) (nI k) (bI g) y := by
      have fin : ∀ (k : Nat) (y : CS), E910 y zN → FIX N c r k → (∀ s, s < 64 → s &&& F ≠ 0 → MM N c r k s = 0) → post (-3) y := by
        intro k y hE hk hn
        have := h y (hM.keep (fun j _ j9 j10 => hE j j9 j10))
        rcases hv with ⟨hv, -⟩ | ⟨m, hm, ⟨s, hs, hF, hp⟩, -⟩
        · rw [hv] at this; exact this
        · have := MM_top (N := N) (c := c) (r := r) c2 hk (m + 1) hs
          have := hn s hs hF
          omega
      intro d
      induction d with
      | zero =>
        intro k y g hE e9 g1 g2 hn
        have := SS_le (N := N) (c := c) (r := r) k
        cases g with
        | true => exact absurd (g1 rfl) (by omega)
        | false => exact br_t rfl (fin k y hE (g2 rfl) hn)
      | succ d ih =>
        intro k y g hE e9 g1 g2 hn
        show qX7_leastHeight_8b post (qX7_leastHeight_8 post (d + 1)) (nI k) (bI g) y
        cases g with
        | false => exact br_t rfl (fin k y hE (g2 rfl) hn)
        | true =>
          refine br_f (by decide) ?_
          refine s7_steps c2 c3 (by rw [hE 7 (by decide) (by decide)]; exact m2.1) (by rw [hE 11 (by decide) (by decide)]; exact m1) e9 (fun y' g' hE' e9' hg' => ⟨64 + 1, ?_⟩)
          have hEE : E910 y' zN := fun q h9 h10 => (hE' q h9 h10).trans (hE q h9 h10)
          have inner : ∀ d' t, t + d' = 64 → (∀ s, s < t → s &&& F ≠ 0 → MM N c r (k + 1) s = 0) → qX7_leastHeight_19 post (qX7_leastHeight_8 post (d + 1)) (d' + 1) (nI k) (bI g') (nI t) y' := by
            intro d'
            induction d' with
            | zero =>
              intro t hd hs
              show qX7_leastHeight_19b post (qX7_leastHeight_8 post (d + 1)) (qX7_leastHeight_19 post (qX7_leastHeight_8 post (d + 1)) 0) (nI k) (bI g') (nI t) y'
              unfold qX7_leastHeight_19b
              refine pk_le 64 t (fun _ => ?_) (fun q => absurd q (by omega)) rfl rfl
              rw [nI_1]
              refine ih (k + 1) y' g' hEE e9' (fun hg => ?_) (fun hg => ?_) (fun s hs' hF => hs s (by omega) hF)
              · obtain ⟨s, hs, hne⟩ := hg'.mp hg
                have := SS_grow (N := N) (c := c) (r := r) (k := k) ⟨s, by omega, hne⟩
                have := g1 rfl
                omega
              · refine FIX_succ c2 (fun s hs => ?_)
                by_cases hsA : s < 2 ^ N
                · by_cases e : MM N c r (k + 1) s = MM N c r k s
                  · exact e
                  · have := hg'.mpr ⟨s, hsA, e⟩
                    rw [hg] at this
                    cases this
                · rw [MM_out c3 (by omega), MM_out c3 (by omega)]
            | succ d' ih' =>
              intro t hd hs
              show qX7_leastHeight_19b post (qX7_leastHeight_8 post (d + 1)) (qX7_leastHeight_19 post (qX7_leastHeight_8 post (d + 1)) (d' + 1)) (nI k) (bI g') (nI t) y'
              unfold qX7_leastHeight_19b
              refine pk_le 64 t (fun q => absurd q (by omega)) (fun _ => ?_) rfl rfl
              unfold qX7_leastHeight_48
              rw [show nI t + 1 = nI (t + 1) from nI_1 t]
              have skip : (t &&& F ≠ 0 → MM N c r (k + 1) t = 0) → qX7_leastHeight_19 post (qX7_leastHeight_8 post (d + 1)) (d' + 1) (nI k) (bI g') (nI (t + 1)) y' := by
                intro hs'
                refine ih' (t + 1) (by omega) (fun s hs2 hF => ?_)
                rcases (show s < t ∨ s = t by omega) with q | q
                · exact hs s q hF
                · subst q; exact hs' hF
              refine s7_z9 e9' (by omega) (fun hR => skip (fun _ => by have := of_decide_eq_false hR; omega)) (fun hR => ⟨pk_in 81 82 (by omega), ?_⟩)
              rw [lt81, show y' 7 81 = nI F by rw [hEE 7 (by decide) (by decide)]; exact m2.2, nx_and]
              have hle : t &&& F ≤ t := Nat.and_le_left
              refine pk_eq (t &&& F) 0 (fun q => skip (fun q2 => absurd q q2)) (fun q => ?_) rfl rfl
              have hp := of_decide_eq_true hR
              have := h y' (hM.keep (fun j _ j9 j10 => hEE j j9 j10))
              rcases hv with ⟨-, hv⟩ | ⟨m, hm, ⟨s, hs, hF, hp2⟩, hv⟩
              · have := hv t (by omega) q (k + 1); omega
              · have e1 : ¬ k + 1 ≤ m := fun w => by
                  have := MM_le (N := N) (c := c) (r := r) w t
                  have := hv t (by omega) q
                  omega
                have e2 : ¬ m + 1 ≤ k := fun w => by
                  have := MM_le (N := N) (c := c) (r := r) w s
                  have := hn s hs hF
                  omega
                rw [hm, show m = k by omega] at this
                exact this
          exact inner 64 0 (by omega) (fun s hs => absurd hs (by omega))
    refine s7_starts (fun z1 h1 h2 => ⟨130, ?_⟩)
    exact key 129 0 z1 true (fun q h9 _ => h1 q h9) h2 (fun _ => by omega) (fun q => by cases q) (fun s _ _ => rfl)
  exact A _ (fun zS' zZ' v hv hC' => B v _ hv (fun z hM' => ⟨rfl, N, c, r, F, e, hb, hC', hM'⟩))
end OPU
