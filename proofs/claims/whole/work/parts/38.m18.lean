/-! ===== swapping two states: the reference ===== -/
theorem swF_N {N F a b : Nat} (hN : N ≤ 6) (hF : F < 2 ^ N) (ha : a < N) (hb : b < N) : ldTo (fun q => F.testBit q) (fun q => swp q a b) N = swF F a b := by
  have h := ldTo_cut (P := fun q => F.testBit q) (ta := fun q => swp q a b) (k := N) (fun q hq => Nat.testBit_lt_two_pow (Nat.lt_of_lt_of_le hF (Nat.pow_le_pow_right (by decide) hq))) (6 - N)
  rw [show N + (6 - N) = 6 by omega, swF_eq F (by have := n64 hN; omega) a (by omega) b (by omega)] at h
  exact h.symm
theorem swF_lt {N F a b : Nat} (hN : N ≤ 6) (hF : F < 2 ^ N) (ha : a < N) (hb : b < N) : swF F a b < 2 ^ N := setb_lt' hN (setb_lt' hN hF ha _) hb _
theorem i5k (i k : Nat) : (5 : Int32) * nI i + nI k = nI (5 * i + k) := by rw [show (5 : Int32) * nI i = nI (5 * i) from pk_mul 5 i, nI_add]
theorem s7_swapL {N c F a b : Nat} {r : Nat → Nat → Nat} {z0 : CS} (hN : N ≤ 6) (hV : VB N c r) (hF : F < 2 ^ N) (ha : a < N) (hb : b < N) (hB : NW (z0 7) (c, r, F)) (hNs : z0 11 1 = nI N) {post : Int32 → CS → Prop}
    (h : ∀ z, E7 z z0 → NW (z 7) (c, swR r a b, swF F a b) → post (nI (sm c (fun i => if tch r a b i then 1 else 0))) z) : ∃ n, qX7_swapStates_27 post (nI a) (nI b) n 0 0 z0 := by
  have hc := hV.1
  -- the final states
  have L231 : ∀ (z : CS), E7 z z0 → z 7 80 = nI c → z 7 81 = nI F → (∀ j, j < c → ∀ k, k < 5 → z 7 (5 * j + k) = nI (swR r a b j k)) → ∀ d q, q + d = N → qX7_swapStates_231 post (nI a) (nI b) (d + 1) (nI (sm c (fun i => if tch r a b i then 1 else 0))) (nI (ldTo (fun q => F.testBit q) (fun q => swp q a b) q)) (nI q) z := by
    intro z hE g0 g1 gr d
    induction d with
    | zero =>
      intro q hq
      show qX7_swapStates_231b post (nI a) (nI b) (qX7_swapStates_231 post (nI a) (nI b) 0) _ _ _ z
      refine pk_le N q (fun _ => ⟨pk_in 81 82 (by omega), ?_⟩) (fun h => absurd h (by omega)) (by rw [hE 11 (by decide)]; exact hNs) rfl
      rw [show q = N by omega, swF_N hN hF ha hb, lt81]
      refine h _ (fun k hk => by rw [st_n _ _ _ hk]; exact hE k hk) ⟨⟨?_, fun j hj k hk => ?_⟩, ?_⟩
      · rw [st_s, pk_un (by decide)]; exact g0
      · have hj' : j < c := hj
        rw [st_s, pk_un (by omega)]; exact gr j hj' k hk
      · rw [st_s, pk_us]
    | succ d ih =>
      intro q hq
      have hn := ih (q + 1) (by omega)
      show qX7_swapStates_231b post (nI a) (nI b) (qX7_swapStates_231 post (nI a) (nI b) (d + 1)) _ _ _ z
      refine pk_le N q (fun h => absurd h (by omega)) (fun _ => ⟨pk_in 81 82 (by omega), ?_⟩) (by rw [hE 11 (by decide)]; exact hNs) rfl
      rw [lt81, g1, e7_has _ (by omega)]
      cases hbit : F.testBit q with
      | false =>
        refine br_t (by simp) ?_
        show qX7_swapStates_231 post (nI a) (nI b) (d + 1) _ (_ ||| _) (_ + _) z
        rw [or_0, nI_1]
        have e : ldTo (fun q => F.testBit q) (fun q => swp q a b) (q + 1) = ldTo (fun q => F.testBit q) (fun q => swp q a b) q := by
          show ldTo _ _ q ||| (if F.testBit q then _ else _) = _
          rw [hbit]; simp
        rw [← e]; exact hn
      | true =>
        refine br_f (by simp) ?_
        rw [e7_swapped, swp_nI (by omega) (by omega) (by omega)]
        show qX7_swapStates_231 post (nI a) (nI b) (d + 1) _ (_ ||| _) (_ + _) z
        rw [nI_1, n1s _ (by have := swp_lt (show q < N by omega) ha hb; omega), nx_or]
        have e : ldTo (fun q => F.testBit q) (fun q => swp q a b) (q + 1) = ldTo (fun q => F.testBit q) (fun q => swp q a b) q ||| 2 ^ swp q a b := by
          show ldTo _ _ q ||| (if F.testBit q then _ else _) = _
          rw [hbit]; rfl
        rw [← e]; exact hn
  have key : ∀ d i (z : CS), i + d = c → E7 z z0 → z 7 80 = nI c → z 7 81 = nI F → (∀ j, j < c → ∀ k, k < 5 → z 7 (5 * j + k) = nI (if j < i then swR r a b j k else r j k)) → qX7_swapStates_27 post (nI a) (nI b) (d + 1) (nI (sm i (fun i => if tch r a b i then 1 else 0))) (nI i) z := by
    intro d
    induction d with
    | zero =>
      intro i z hi hE g0 g1 gr
      show qX7_swapStates_27b post (nI a) (nI b) (qX7_swapStates_27 post (nI a) (nI b) 0) _ _ z
      unfold qX7_swapStates_27b
      rw [lt8, g0]
      refine ⟨pk_in 80 82 (by omega), pk_le c i (fun _ => ⟨N + 1, ?_⟩) (fun h => absurd h (by omega)) rfl rfl⟩
      rw [show i = c by omega]
      exact L231 z hE g0 g1 (fun j hj k hk => by rw [gr j hj k hk, if_pos (by omega)]) N 0 (by omega)
    | succ d ih =>
      intro i z hi hE g0 g1 gr
      have hic : i < c := by omega
      obtain ⟨v0, v1, v2, v3, v4, v5⟩ := hV.2 i hic
      have hle := arN_le (r i 0)
      have i80 : vp_in (80 : Int32) 82 := pk_in 80 82 (by omega)
      have ik : ∀ k, k < 5 → vp_in (nI (5 * i + k)) 82 := fun k hk => vp_in_nI (by omega) (by decide)
      have ck : ∀ k, k < 5 → (nI (5 * i + k)).toNatClampNeg = 5 * i + k := fun k hk => nI_clamp (by omega)
      have f : ∀ k, k < 5 → z 7 (5 * i + k) = nI (r i k) := fun k hk => by rw [gr i hic k hk, if_neg (by omega)]
      have e50 : (5 : Int32) * nI i = nI (5 * i + 0) := pk_mul 5 i
      have e54 : (5 : Int32) * nI i + (4 : Int32) = nI (5 * i + 4) := i5k i 4
      have body : ∀ (n k : Nat) (g : Bool) (y3 : Int32) (y : CS), 1 ≤ k → k ≤ arN (r i 0) → r i k < N → y 7 (5 * i + k) = nI (r i k) → qX7_swapStates_90 post (nI a) (nI b) (qX7_swapStates_27 post (nI a) (nI b) (d + 1)) n y3 (nI i) (nI (r i 0)) (bI (g || (decide (r i k = a) || decide (r i k = b)))) (nI (k + 1)) (st y 7 (5 * i + k) (nI (swp (r i k) a b))) → qX7_swapStates_90 post (nI a) (nI b) (qX7_swapStates_27 post (nI a) (nI b) (d + 1)) (n + 1) y3 (nI i) (nI (r i 0)) (bI g) (nI k) y := by
        intro n k g y3 y hk1 hk2 hrk hy hnext
        have fin : ∀ g', g' = (g || (decide (r i k = a) || decide (r i k = b))) → qX7_swapStates_142 post (nI a) (nI b) (qX7_swapStates_27 post (nI a) (nI b) (d + 1)) (qX7_swapStates_90 post (nI a) (nI b) (qX7_swapStates_27 post (nI a) (nI b) (d + 1)) n) y3 (nI i) (nI (r i 0)) (bI g) (nI k) (bI g') y := by
          intro g' hg'
          unfold qX7_swapStates_142
          rw [i5k, ck k (by omega), hy, e7_swapped, swp_nI (by omega) (by omega) (by omega), nI_1]
          rw [hg']
          exact ⟨ik k (by omega), ik k (by omega), hnext⟩
        show qX7_swapStates_90b post (nI a) (nI b) (qX7_swapStates_27 post (nI a) (nI b) (d + 1)) (qX7_swapStates_90 post (nI a) (nI b) (qX7_swapStates_27 post (nI a) (nI b) (d + 1)) n) _ _ _ _ _ y
        unfold qX7_swapStates_90b
        rw [e7_arity _ _ (by omega)]
        refine pk_lt (arN (r i 0)) k (fun q => absurd q (by omega)) (fun _ => ?_) rfl rfl (by omega) (by omega)
        cases g with
        | true => exact br_f (by decide) (fin true rfl)
        | false =>
          refine br_t rfl ?_
          rw [i5k, ck k (by omega), hy]
          refine ⟨ik k (by omega), pk_eq (r i k) a (fun e => fin true (by rw [decide_eq_true e]; rfl)) (fun e => ⟨ik k (by omega), pk_eq (r i k) b (fun e2 => fin true (by rw [decide_eq_true e2]; simp)) (fun e2 => fin false (by rw [decide_eq_false e, decide_eq_false e2]; rfl))⟩)⟩
      have tail : ∀ (n k : Nat) (g : Bool) (x : Nat) (y : CS), arN (r i 0) < k → k < 5 → y 7 (5 * i + 4) = nI (r i 4) → qX7_swapStates_27 post (nI a) (nI b) (d + 1) (nI (x + (if g then 1 else 0))) (nI (i + 1)) (st y 7 (5 * i + 4) (nI (swp (r i 4) a b))) → qX7_swapStates_90 post (nI a) (nI b) (qX7_swapStates_27 post (nI a) (nI b) (d + 1)) (n + 1) (nI x) (nI i) (nI (r i 0)) (bI g) (nI k) y := by
        intro n k g x y hk hk5 hy hnext
        show qX7_swapStates_90b post (nI a) (nI b) (qX7_swapStates_27 post (nI a) (nI b) (d + 1)) (qX7_swapStates_90 post (nI a) (nI b) (qX7_swapStates_27 post (nI a) (nI b) (d + 1)) n) _ _ _ _ _ y
        unfold qX7_swapStates_90b
        rw [e7_arity _ _ (by omega), e54, ck 4 (by omega), hy]
        refine pk_lt (arN (r i 0)) k (fun _ => ?_) (fun q => absurd q (by omega)) rfl rfl (by omega) (by omega)
        rw [e7_swapped, swp_nI (by omega) (by omega) (by omega)]
        refine ⟨ik 4 (by omega), ik 4 (by omega), ?_⟩
        cases g with
        | false =>
          refine br_t rfl ?_
          show qX7_swapStates_27 post (nI a) (nI b) (d + 1) (nI x + nI 0) (_ + _) _
          rw [nI_add, nI_1]; exact hnext
        | true =>
          refine br_f (by decide) ?_
          show qX7_swapStates_27 post (nI a) (nI b) (d + 1) (nI x + nI 1) (_ + _) _
          rw [nI_add, nI_1]; exact hnext
      -- what stands behind the rule
      have done : ∀ (y : CS), (∀ k, k ≠ 7 → y k = z k) → (∀ j, (j < 5 * i ∨ 5 * i + 5 ≤ j) → y 7 j = z 7 j) → (∀ k, k < 5 → y 7 (5 * i + k) = nI (swR r a b i k)) → qX7_swapStates_27 post (nI a) (nI b) (d + 1) (nI (sm i (fun i => if tch r a b i then 1 else 0) + (if tch r a b i then 1 else 0))) (nI (i + 1)) y := by
        intro y h7 hout hin
        refine ih (i + 1) y (by omega) (fun k hk => (h7 k hk).trans (hE k hk)) ?_ ?_ (fun j hj k hk => ?_)
        · rw [hout 80 (by omega)]; exact g0
        · rw [hout 81 (by omega)]; exact g1
        · by_cases hji : j = i
          · subst hji
            rw [if_pos (by omega)]; exact hin k hk
          · rw [hout _ (by omega), gr j hj k hk]
            by_cases hlt : j < i
            · rw [if_pos hlt, if_pos (by omega)]
            · rw [if_neg hlt, if_neg (by omega)]
      have sw4 : swR r a b i 4 = swp (r i 4) a b := rfl
      have go : ∀ g, g = (decide (r i 4 = a) || decide (r i 4 = b)) → qX7_swapStates_85 post (nI a) (nI b) (qX7_swapStates_27 post (nI a) (nI b) (d + 1)) (nI (sm i (fun i => if tch r a b i then 1 else 0))) (nI i) (nI (r i 0)) (bI g) z := by
        intro g hg
        rcases (show arN (r i 0) = 0 ∨ arN (r i 0) = 1 ∨ arN (r i 0) = 2 by omega) with har | har | har
        · refine ⟨1, tail 0 1 g _ z (by omega) (by omega) (f 4 (by omega)) ?_⟩
          have ht : tch r a b i = g := by unfold tch hs; rw [har, hg]; simp
          rw [← ht]
          refine done _ (fun k hk => st_n _ _ _ hk) (fun j hj => by rw [st_s, pk_un (by omega)]) (fun k hk => ?_)
          rw [st_s]
          by_cases h4 : k = 4
          · subst h4; rw [pk_us]; rfl
          · rw [pk_un (by omega), f k hk]
            unfold swR
            rw [if_neg h4, if_neg (fun e => absurd e.2 (by omega)), if_neg (fun e => absurd e.2 (by omega))]
        · refine ⟨2, body 1 1 g _ z (by omega) (by omega) v1 (f 1 (by omega)) ?_⟩
          refine tail 0 2 _ _ _ (by omega) (by omega) (by rw [st_s, pk_un (by omega)]; exact f 4 (by omega)) ?_
          have ht : tch r a b i = (g || (decide (r i 1 = a) || decide (r i 1 = b))) := by
            unfold tch hs
            rw [har, hg]
            cases decide (r i 4 = a) <;> cases decide (r i 4 = b) <;> cases decide (r i 1 = a) <;> cases decide (r i 1 = b) <;> rfl
          rw [← ht]
          refine done _ (fun k hk => by rw [st_n _ _ _ hk, st_n _ _ _ hk]) (fun j hj => by rw [st_s, pk_un (by omega), st_s, pk_un (by omega)]) (fun k hk => ?_)
          rw [st_s]
          by_cases h4 : k = 4
          · subst h4; rw [pk_us]; rfl
          · rw [pk_un (by omega), st_s]
            by_cases h1 : k = 1
            · subst h1; rw [pk_us]; unfold swR; rw [if_neg (by decide), if_pos ⟨rfl, by omega⟩]
            · rw [pk_un (by omega), f k hk]
              unfold swR
              rw [if_neg h4, if_neg (fun e => h1 e.1), if_neg (fun e => absurd e.2 (by omega))]
        · refine ⟨3, body 2 1 g _ z (by omega) (by omega) v1 (f 1 (by omega)) ?_⟩
          refine body 1 2 _ _ _ (by omega) (by omega) v2 (by rw [st_s, pk_un (by omega)]; exact f 2 (by omega)) ?_
          refine tail 0 3 _ _ _ (by omega) (by omega) (by rw [st_s, pk_un (by omega), st_s, pk_un (by omega)]; exact f 4 (by omega)) ?_
          have ht : tch r a b i = ((g || (decide (r i 1 = a) || decide (r i 1 = b))) || (decide (r i 2 = a) || decide (r i 2 = b))) := by
            unfold tch hs
            rw [har, hg]
            cases decide (r i 4 = a) <;> cases decide (r i 4 = b) <;> cases decide (r i 1 = a) <;> cases decide (r i 1 = b) <;> cases decide (r i 2 = a) <;> cases decide (r i 2 = b) <;> rfl
          rw [← ht]
          refine done _ (fun k hk => by rw [st_n _ _ _ hk, st_n _ _ _ hk, st_n _ _ _ hk]) (fun j hj => by rw [st_s, pk_un (by omega), st_s, pk_un (by omega), st_s, pk_un (by omega)]) (fun k hk => ?_)
          rw [st_s]
          by_cases h4 : k = 4
          · subst h4; rw [pk_us]; rfl
          · rw [pk_un (by omega), st_s]
            by_cases h2 : k = 2
            · subst h2; rw [pk_us]; unfold swR; rw [if_neg (by decide), if_neg (fun e => absurd e.1 (by decide)), if_pos ⟨rfl, by omega⟩]
            · rw [pk_un (by omega), st_s]
              by_cases h1 : k = 1
              · subst h1; rw [pk_us]; unfold swR; rw [if_neg (by decide), if_pos ⟨rfl, by omega⟩]
              · rw [pk_un (by omega), f k hk]
                unfold swR
                rw [if_neg h4, if_neg (fun e => h1 e.1), if_neg (fun e => h2 e.1)]
      show qX7_swapStates_27b post (nI a) (nI b) (qX7_swapStates_27 post (nI a) (nI b) (d + 1)) _ _ z
      unfold qX7_swapStates_27b
      rw [lt8, g0, e54, ck 4 (by omega), f 4 (by omega), e50, ck 0 (by omega), f 0 (by omega)]
      refine ⟨i80, pk_le c i (fun h => absurd h (by omega)) (fun _ => ⟨ik 0 (by omega), ik 4 (by omega), ?_⟩) rfl rfl⟩
      refine pk_eq (r i 4) a (fun e => go true (by rw [decide_eq_true e]; rfl)) (fun e => ⟨ik 4 (by omega), pk_eq (r i 4) b (fun e2 => go true (by rw [decide_eq_true e2]; simp)) (fun e2 => go false (by rw [decide_eq_false e, decide_eq_false e2]; rfl))⟩)
  exact ⟨c + 1, key c 0 z0 (by omega) (fun _ _ => rfl) hB.1.1 hB.2 (fun j hj k hk => by rw [if_neg (by omega)]; exact hB.1.2 j hj k hk)⟩
