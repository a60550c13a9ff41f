/-! ===== the reference's runs ===== -/
theorem i6 (u v : Nat) : (6 : Int32) * nI u + nI v = nI (6 * u + v) := by rw [show (6 : Int32) * nI u = nI (6 * u) from pk_mul 6 u, nI_add]
theorem st6_in {z : CS} {k : Nat} {x : Int32} : st z 6 k x 6 = upd (z 6) k x := st_s z 6 k x
def EQ6 (z z0 : CS) : Prop := ∀ k, k ≠ 6 → z k = z0 k
theorem EQ6.st {z z0 : CS} (h : EQ6 z z0) (k : Nat) (x : Int32) : EQ6 (st z 6 k x) z0 := fun j hj => by rw [st_n _ _ _ hj]; exact h j hj
theorem s7_runsTo {N c : Nat} {r : Nat → Nat → Nat} {z0 : CS} (hN : N ≤ 6) (hV : VB N c r) (hR : RN (z0 7) c r) (hT : RTN z0) {last : Nat} (hl : last < 2278) {post : CS → Prop}
    (h : ∀ z, EQ6 z z0 → (∀ u, u < last + 1 → ∀ q, q < 6 → z 6 (6 * u + q) = nI (RUN c r u q)) → post z) : qX7_runsTo post (nI last) z0 := by
  have hc := hV.1
  have L35 : ∀ (t : Nat), t < 2278 → ∀ (k2 : Int32 → CS → Prop), (∀ z, EQ6 z z0 → (∀ u, u < t + 1 → ∀ q, q < 6 → z 6 (6 * u + q) = nI (RUN c r u q)) → k2 (nI (t + 1)) z) →
      ∀ d i (z : CS), i + d = c → EQ6 z z0 → (∀ u, u < t → ∀ q, q < 6 → z 6 (6 * u + q) = nI (RUN c r u q)) → (∀ q, q < 6 → z 6 (6 * t + q) = nI (sm i (tm r (RUN c r) t q))) → qX7_runsTo_35 post (nI last) k2 (d + 1) (nI t) (nI i) z := by
    intro t ht k2 hk2 d
    induction d with
    | zero =>
      intro i z hi hE h1 h2
      show qX7_runsTo_35b post _ _ _ _ _ _
      refine ⟨pk_in 80 82 (by omega), pk_le c i (fun _ => ?_) (fun h => absurd h (by omega)) (by rw [hE 7 (by decide)]; exact hR.c) rfl⟩
      rw [nI_1]
      refine hk2 z hE (fun u hu q hq => ?_)
      by_cases hut : u = t
      · subst hut
        rw [h2 q hq, show i = c by omega, ← RUN_eq c r ht]
      · exact h1 u (by omega) q hq
    | succ d ih =>
      intro i z hi hE h1 h2
      have hic : i < c := by omega
      obtain ⟨v0, v1, v2, v3, v4, v5⟩ := hV.2 i hic
      have hR' : RN (z 7) c r := by rw [hE 7 (by decide)]; exact hR
      have ct : (nI t).toNatClampNeg = t := nI_clamp (by omega)
      have eS : z 0 t = nI (TS t) := by rw [hE 0 (by decide)]; exact (hT.1 t ht).1
      have eA : z 1 t = nI (TA t) := by rw [hE 1 (by decide)]; exact (hT.1 t ht).2.1
      have eB : z 2 t = nI (TB t) := by rw [hE 2 (by decide)]; exact (hT.1 t ht).2.2.1
      have it : vp_in (nI t) 2278 := vp_in_nI ht (by decide)
      have hTS := (tabF ht).1
      have hcase := (tabF ht).2.2.2.2.2.2.2.2
      show qX7_runsTo_35b post _ _ (qX7_runsTo_35 post (nI last) k2 (d + 1)) _ _ _
      have skip : (∀ q, q < 6 → tm r (RUN c r) t q i = 0) → qX7_runsTo_218 post (nI last) k2 (qX7_runsTo_35 post (nI last) k2 (d + 1)) (nI t) (nI i) z := by
        intro h0
        show qX7_runsTo_35 post (nI last) k2 (d + 1) _ (_ + _) _
        rw [nI_1]
        refine ih (i + 1) z (by omega) hE h1 (fun q hq => ?_)
        show _ = nI (sm i _ + tm r (RUN c r) t q i)
        rw [h0 q hq]
        exact h2 q hq
      have fin : ∀ (y4 : Int32) (x : Nat), r i 0 = TS t → tm r (RUN c r) t (r i 4) i = x → qX7_runsTo_216 post (nI last) k2 (qX7_runsTo_35 post (nI last) k2 (d + 1)) (nI t) (nI i) y4 (nI (6 * t + r i 4)) (nI (sm i (tm r (RUN c r) t (r i 4)))) (nI x) z := by
        intro y4 x h0 hx
        refine ⟨vp_in_nI (by omega) (by decide), ?_⟩
        show qX7_runsTo_35 post (nI last) k2 (d + 1) _ (_ + _) _
        rw [nI_1, nI_add, nI_clamp (by omega)]
        refine ih (i + 1) _ (by omega) (hE.st _ _) (fun u hu q hq => ?_) (fun q hq => ?_)
        · rw [st6_in, pk_un (by omega)]
          exact h1 u hu q hq
        · rw [st6_in]
          show _ = nI (sm i _ + tm r (RUN c r) t q i)
          by_cases hq4 : q = r i 4
          · rw [hq4, pk_us, hx]
          · rw [pk_un (by omega), h2 q hq]
            have : tm r (RUN c r) t q i = 0 := by
              unfold tm
              rw [if_neg (fun e => hq4 e.2.1.symm)]
            rw [this]
            rfl
      have h150 : ∀ (y4 : Int32) (x y : Nat), r i 0 = TS t → x * y = (if 0 < arN (TS t) then RUN c r (TA t) (r i 1) else 1) * (if 1 < arN (TS t) then RUN c r (TB t) (r i 2) else 1) → qX7_runsTo_150 post (nI last) k2 (qX7_runsTo_35 post (nI last) k2 (d + 1)) (nI t) (nI i) y4 (nI x) (nI y) z := by
        intro y4 x y h0 hxy
        have m1 := (tabF ht).2.1
        have m2 := (tabF ht).2.2.1
        unfold qX7_runsTo_150
        rw [hR'.at (x := 4) hc hic 4 (by omega) rfl, hR'.at (x := 3) hc hic 3 (by omega) rfl, i6, nI_clamp (show 6 * t + r i 4 < 2 ^ 31 by omega), h2 (r i 4) (by omega), ct, eA, eB, pk_mul]
        refine ⟨in5k hc hic 4 (by omega) rfl, vp_in_nI (by omega) (by decide), in5k hc hic 3 (by omega) rfl, it, it, ?_⟩
        have go : ∀ same, (TA t == TB t) = same → qX7_runsTo_204 post (nI last) k2 (qX7_runsTo_35 post (nI last) k2 (d + 1)) (nI t) (nI i) (nI (x * y)) (nI (6 * t + r i 4)) (nI (sm i (tm r (RUN c r) t (r i 4)))) (nI (r i 3)) (bI same) z := by
          intro same hsame
          unfold qX7_runsTo_204
          rw [e7_ful _ v3]
          cases hf : ful (r i 3) same with
          | false =>
            refine br_t rfl ?_
            exact fin _ 0 h0 (by unfold tm; rw [hsame, hf]; simp)
          | true =>
            refine br_f (by decide) ?_
            exact fin _ (x * y) h0 (by unfold tm; rw [hsame, hf, if_pos ⟨h0, rfl, rfl⟩, hxy])
        refine pk_eq (TA t) (TB t) (fun he => ?_) (fun he => ?_)
        · exact go true (by rw [he]; exact beq_self_eq_true _)
        · exact go false (beq_eq_false_iff_ne.mpr he)
      have h104 : ∀ (x : Nat), r i 0 = TS t → x = (if 0 < arN (TS t) then RUN c r (TA t) (r i 1) else 1) → qX7_runsTo_104 post (nI last) k2 (qX7_runsTo_35 post (nI last) k2 (d + 1)) (nI t) (nI i) (nI x) z := by
        intro x h0 hx
        have m2 := (tabF ht).2.2.1
        unfold qX7_runsTo_104
        rw [ct, eS, e7_arity _ _ (by omega)]
        have hle := arN_le (TS t)
        refine ⟨it, pk_le (arN (TS t)) 1 (fun ha => ?_) (fun ha => ⟨it, in5k hc hic 2 (by omega) rfl, ?_⟩) rfl rfl⟩
        · exact h150 _ x 1 h0 (by rw [hx, if_neg (show ¬ 1 < arN (TS t) by omega)])
        · have h2 : TB t < t := by
            rcases hcase with hcc | hcc | hcc
            · omega
            · omega
            · exact hcc.2.2.1
          rw [eB, hR'.at (x := 2) hc hic 2 (by omega) rfl, i6, nI_clamp (show 6 * TB t + r i 2 < 2 ^ 31 by omega), h1 (TB t) h2 (r i 2) (by omega)]
          exact ⟨vp_in_nI (by omega) (by decide), h150 _ x _ h0 (by rw [hx, if_pos (show 1 < arN (TS t) by omega)])⟩
      refine ⟨pk_in 80 82 (by omega), pk_le c i (fun h => absurd h (by omega)) (fun _ => ⟨in5 hc hic, it, ?_⟩) hR'.c rfl⟩
      rw [ct, eS]
      refine pk_eq (r i 0) (TS t) (fun e0 => ⟨it, ?_⟩) (fun e0 => skip (fun q _ => by unfold tm; rw [if_neg (fun e => e0 e.1)])) (hR'.at0 hc hic) rfl
      rw [e7_arity _ _ (by omega)]
      have hle := arN_le (TS t)
      have m1 := (tabF ht).2.1
      refine pk_le (arN (TS t)) 0 (fun ha => ?_) (fun ha => ⟨it, in5k hc hic 1 (by omega) rfl, ?_⟩) rfl rfl
      · exact h104 1 e0 (by rw [if_neg (by omega)])
      · have h2 : TA t < t := by
          rcases hcase with hcc | hcc | hcc
          · omega
          · exact hcc.2.1
          · exact hcc.2.1
        rw [eA, hR'.at (x := 1) hc hic 1 (by omega) rfl, i6, nI_clamp (show 6 * TA t + r i 1 < 2 ^ 31 by omega), h1 (TA t) h2 (r i 1) (by omega)]
        exact ⟨vp_in_nI (by omega) (by decide), h104 _ e0 (by rw [if_pos ha])⟩
  have L9 : ∀ (t : Nat), t < 2278 → ∀ (k2 : Int32 → CS → Prop), (∀ z, EQ6 z z0 → (∀ u, u < t + 1 → ∀ q, q < 6 → z 6 (6 * u + q) = nI (RUN c r u q)) → k2 (nI (t + 1)) z) →
      ∀ d q (z : CS), q + d = 6 → EQ6 z z0 → (∀ u, u < t → ∀ q, q < 6 → z 6 (6 * u + q) = nI (RUN c r u q)) → (∀ p, p < q → z 6 (6 * t + p) = nI 0) → qX7_runsTo_9 post (nI last) k2 (d + 1) (nI t) (nI q) z := by
    intro t ht k2 hk2 d
    induction d with
    | zero =>
      intro q z hq hE h1 h2
      show qX7_runsTo_9b post _ _ _ _ _ _
      refine pk_le 6 q (fun _ => ⟨c + 1, ?_⟩) (fun h => absurd h (by omega))
      exact L35 t ht k2 hk2 c 0 z (by omega) hE h1 (fun p hp => h2 p (by omega))
    | succ d ih =>
      intro q z hq hE h1 h2
      show qX7_runsTo_9b post _ _ (qX7_runsTo_9 post (nI last) k2 (d + 1)) _ _ _
      refine pk_le 6 q (fun h => absurd h (by omega)) (fun _ => ?_)
      rw [i6, nI_1, nI_clamp (by omega)]
      refine ⟨vp_in_nI (by omega) (by decide), ih (q + 1) _ (by omega) (hE.st _ _) (fun u hu p hp => ?_) (fun p hp => ?_)⟩
      · rw [st6_in, pk_un (by omega)]
        exact h1 u hu p hp
      · rw [st6_in]
        by_cases hpq : p = q
        · rw [hpq, pk_us]
          rfl
        · rw [pk_un (by omega)]
          exact h2 p (by omega)
  have L2 : ∀ d t (z : CS), t + d = last + 1 → EQ6 z z0 → (∀ u, u < t → ∀ q, q < 6 → z 6 (6 * u + q) = nI (RUN c r u q)) → qX7_runsTo_2 post (nI last) (d + 1) (nI t) z := by
    intro d
    induction d with
    | zero =>
      intro t z htd hE h1
      show qX7_runsTo_2b post _ _ _ _
      exact pk_lt last t (fun _ => h z hE (fun u hu => h1 u (by omega))) (fun h => absurd h (by omega))
    | succ d ih =>
      intro t z htd hE h1
      show qX7_runsTo_2b post _ (qX7_runsTo_2 post (nI last) (d + 1)) _ _
      refine pk_lt last t (fun h => absurd h (by omega)) (fun _ => ⟨7, ?_⟩)
      exact L9 t (by omega) _ (fun z' hE' h' => ih (t + 1) z' (by omega) hE' h') 6 0 z (by omega) hE h1 (fun p hp => absurd hp (by omega))
  exact ⟨last + 2, L2 (last + 1) 0 z0 (by omega) (fun k _ => rfl) (fun u hu => absurd hu (by omega))⟩
theorem s7_subset {N c : Nat} {r : Nat → Nat → Nat} {z : CS} (hN : N ≤ 6) (hV : VB N c r) (hNs : z 11 1 = nI N) {t : Nat} (ht : t < 2278) (hr : ∀ q, q < 6 → z 6 (6 * t + q) = nI (RUN c r t q)) {post : Int32 → Unit → Prop} (h : post (nI (SUB c r t)) ()) : qX7_subset post (nI t) z := by
  have key : ∀ d q, q + d = N → qX7_subset_4 post (nI t) z (d + 1) (nI (ldTo (fun q => decide (0 < RUN c r t q)) (fun q => q) q)) (nI q) := by
    intro d
    induction d with
    | zero =>
      intro q hq
      show qX7_subset_4b post _ z _ _ _
      refine pk_le N q (fun _ => ?_) (fun h => absurd h (by omega)) hNs rfl
      have e : ldTo (fun q => decide (0 < RUN c r t q)) (fun q => q) q = SUB c r t := by
        rw [show q = N by omega]
        apply Nat.eq_of_testBit_eq
        intro p
        rw [Bool.eq_iff_iff, ldTo_bit]
        rw [← RUN_pos hV (t + 1) t (by omega) ht p]
        constructor
        · rintro ⟨i, h1, h2, h3⟩
          rw [decide_eq_true_eq, h3] at h2
          exact h2
        · intro hp
          refine ⟨p, ?_, by rw [decide_eq_true_eq]; exact hp, rfl⟩
          rw [RUN_pos hV (t + 1) t (by omega) ht p] at hp
          rcases Nat.lt_or_ge p N with hlt | hge
          · exact hlt
          · exfalso
            have h1 : SUB c r t < 2 ^ p := Nat.lt_of_lt_of_le (SUB_lt hV t) (Nat.pow_le_pow_right (by decide) hge)
            rw [Nat.testBit_lt_two_pow h1] at hp
            exact absurd hp (by decide)
      rw [e]
      exact h
    | succ d ih =>
      intro q hq
      have hn := ih (q + 1) (by omega)
      show qX7_subset_4b post _ z (qX7_subset_4 post (nI t) z (d + 1)) _ _
      refine pk_le N q (fun h => absurd h (by omega)) (fun _ => ?_) hNs rfl
      rw [i6, nI_clamp (by omega), hr q (by omega)]
      refine ⟨vp_in_nI (by omega) (by decide), pk_le (RUN c r t q) 0 (fun h0 => ?_) (fun h0 => ?_) rfl rfl (RUN_lt hV ht q)⟩
      · show qX7_subset_4 post _ z (d + 1) (_ ||| _) (_ + _)
        rw [or_0, nI_1]
        have e : ldTo (fun q => decide (0 < RUN c r t q)) (fun q => q) (q + 1) = ldTo (fun q => decide (0 < RUN c r t q)) (fun q => q) q := by
          show ldTo _ _ q ||| (if decide (0 < RUN c r t q) then _ else _) = _
          rw [decide_eq_false (by omega)]
          simp
        rw [← e]
        exact hn
      · show qX7_subset_4 post _ z (d + 1) (_ ||| _) (_ + _)
        rw [nI_1, n1s _ (by omega), nx_or]
        have e : ldTo (fun q => decide (0 < RUN c r t q)) (fun q => q) (q + 1) = ldTo (fun q => decide (0 < RUN c r t q)) (fun q => q) q ||| 2 ^ q := by
          show ldTo _ _ q ||| (if decide (0 < RUN c r t q) then _ else _) = _
          rw [decide_eq_true (by omega)]
          rfl
        rw [← e]
        exact hn
  exact ⟨N + 1, key N 0 (by omega)⟩
