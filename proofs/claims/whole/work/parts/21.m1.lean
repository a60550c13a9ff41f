/-! ===== rules, and the set that they lead to ===== -/
def ldTo (P : Nat → Bool) (ta : Nat → Nat) : Nat → Nat
  | 0 => 0
  | i + 1 => ldTo P ta i ||| (if P i then 2 ^ ta i else 0)
theorem ldTo_cut {P : Nat → Bool} {ta : Nat → Nat} {k : Nat} (h : ∀ i, k ≤ i → P i = false) : ∀ d, ldTo P ta (k + d) = ldTo P ta k
  | 0 => rfl
  | d + 1 => by
    show ldTo P ta (k + d) ||| (if P (k + d) then 2 ^ ta (k + d) else 0) = _
    rw [h (k + d) (by omega), ldTo_cut h d]
    simp
theorem ldTo_lt {P : Nat → Bool} {ta : Nat → Nat} {N : Nat} : ∀ n, (∀ i, i < n → P i = true → ta i < N) → ldTo P ta n < 2 ^ N
  | 0, _ => Nat.two_pow_pos N
  | n + 1, h => by
    show ldTo P ta n ||| (if P n then 2 ^ ta n else 0) < 2 ^ N
    apply Nat.or_lt_two_pow (ldTo_lt n (fun i hi => h i (by omega)))
    by_cases hp : P n = true
    · simp only [hp, if_true]
      exact Nat.pow_lt_pow_right (by decide) (h n (by omega) hp)
    · simp only [hp]
      exact Nat.two_pow_pos N
theorem ldTo_bit {P : Nat → Bool} {ta : Nat → Nat} {q : Nat} : ∀ n, (ldTo P ta n).testBit q = true ↔ ∃ i, i < n ∧ P i = true ∧ ta i = q
  | 0 => by simp [ldTo]
  | n + 1 => by
    show (ldTo P ta n ||| (if P n then 2 ^ ta n else 0)).testBit q = true ↔ _
    rw [Nat.testBit_or, Bool.or_eq_true, ldTo_bit n]
    constructor
    · rintro (⟨i, h1, h2, h3⟩ | h)
      · exact ⟨i, by omega, h2, h3⟩
      · by_cases hp : P n = true
        · simp only [hp, if_true, Nat.testBit_two_pow, decide_eq_true_eq] at h
          exact ⟨n, by omega, hp, h⟩
        · simp [hp] at h
    · rintro ⟨i, h1, h2, h3⟩
      by_cases hi : i = n
      · subst hi
        right
        simp [h2, Nat.testBit_two_pow, h3]
      · left
        exact ⟨i, by omega, h2, h3⟩
def fit (r : Nat → Nat → Nat) (f a b : Nat) (same : Bool) (i : Nat) : Bool := (r i 0 == f) && ((decide (arN f < 1) || a.testBit (r i 1)) && (decide (arN f < 2) || (b.testBit (r i 2) && ful (r i 3) same)))
def fitc (c : Nat) (r : Nat → Nat → Nat) (f a b : Nat) (same : Bool) (i : Nat) : Bool := decide (i < c) && fit r f a b same i
def lead (c : Nat) (r : Nat → Nat → Nat) (f a b : Nat) (same : Bool) : Nat := ldTo (fitc c r f a b same) (fun i => r i 4) 16
/-- a list of rules that is in order for N states -/
def VB (N c : Nat) (r : Nat → Nat → Nat) : Prop := c ≤ 16 ∧ ∀ i, i < c → r i 0 < 5 ∧ r i 1 < N ∧ r i 2 < N ∧ r i 3 < 3 ∧ r i 4 < N ∧ (arN (r i 0) < 2 → r i 3 = 0)
theorem lead_lt {N c : Nat} {r : Nat → Nat → Nat} (hV : VB N c r) (f a b : Nat) (same : Bool) : lead c r f a b same < 2 ^ N :=
  ldTo_lt 16 (fun i _ h => by
    have hc : i < c := by
      unfold fitc at h
      rw [Bool.and_eq_true, decide_eq_true_eq] at h
      exact h.1
    exact (hV.2 i hc).2.2.2.2.1)
theorem lead_at {c : Nat} (hc : c ≤ 16) (r : Nat → Nat → Nat) (f a b : Nat) (same : Bool) : lead c r f a b same = ldTo (fitc c r f a b same) (fun i => r i 4) c := by
  have h := ldTo_cut (P := fitc c r f a b same) (ta := fun i => r i 4) (k := c) (fun i hi => by
    unfold fitc
    rw [decide_eq_false (by omega)]
    rfl) (16 - c)
  rw [show c + (16 - c) = 16 by omega] at h
  exact h
/-- the reference's rows of rules -/
def RN (g : Nat → Int32) (c : Nat) (r : Nat → Nat → Nat) : Prop := g 80 = nI c ∧ ∀ i, i < c → ∀ k, k < 5 → g (5 * i + k) = nI (r i k)
theorem RN.c {g : Nat → Int32} {c : Nat} {r : Nat → Nat → Nat} (h : RN g c r) : g (80 : Int32).toNatClampNeg = nI c := h.1
theorem RN.at0 {g : Nat → Int32} {c : Nat} {r : Nat → Nat → Nat} (h : RN g c r) (hc : c ≤ 16) {i : Nat} (hi : i < c) : g ((5 : Int32) * nI i).toNatClampNeg = nI (r i 0) := by
  rw [show (5 : Int32) * nI i = nI (5 * i) from pk_mul 5 i, nI_clamp (by omega)]
  exact h.2 i hi 0 (by omega)
theorem RN.at {g : Nat → Int32} {c : Nat} {r : Nat → Nat → Nat} (h : RN g c r) (hc : c ≤ 16) {i : Nat} (hi : i < c) (k : Nat) (hk : k < 5) {x : Int32} (hx : x = nI k) : g ((5 : Int32) * nI i + x).toNatClampNeg = nI (r i k) := by
  subst hx
  rw [show (5 : Int32) * nI i = nI (5 * i) from pk_mul 5 i, nI_add, nI_clamp (by omega)]
  exact h.2 i hi k hk
theorem in5 {c i : Nat} (hc : c ≤ 16) (hi : i < c) : vp_in ((5 : Int32) * nI i) 82 := by
  rw [show (5 : Int32) * nI i = nI (5 * i) from pk_mul 5 i]
  exact vp_in_nI (by omega) (by decide)
theorem in5k {c i : Nat} (hc : c ≤ 16) (hi : i < c) (k : Nat) (hk : k < 5) {x : Int32} (hx : x = nI k) : vp_in ((5 : Int32) * nI i + x) 82 := by
  subst hx
  rw [show (5 : Int32) * nI i = nI (5 * i) from pk_mul 5 i, nI_add]
  exact vp_in_nI (by omega) (by decide)
theorem or_0 (x : Int32) : x ||| 0 = x := by
  apply b_ext
  intro i _
  rw [b_or, b_0, Bool.or_false]
theorem s7_leads {N c : Nat} {r : Nat → Nat → Nat} {z : CS} (hN : N ≤ 6) (hV : VB N c r) (hR : RN (z 7) c r) {f a b : Nat} (hf : f < 5) (same : Bool) {post : Int32 → Unit → Prop} (h : post (nI (lead c r f a b same)) ()) : qX7_leads post (nI f) (nI a) (nI b) (bI same) z := by
  have hc := hV.1
  have key : ∀ d i, i + d = c → ∃ n, qX7_leads_6 post (nI f) (nI a) (nI b) (bI same) z n (nI (ldTo (fitc c r f a b same) (fun i => r i 4) i)) (nI i) := by
    intro d
    induction d with
    | zero =>
      intro i hi
      refine ⟨1, ?_⟩
      show qX7_leads_6b post _ _ _ _ z _ _ _
      refine ⟨pk_in 80 82 (by omega), pk_le c i (fun _ => ?_) (fun h => absurd h (by omega)) hR.c rfl⟩
      rw [show i = c by omega, ← lead_at hc]
      exact h
    | succ d ih =>
      intro i hi
      obtain ⟨n, hn⟩ := ih (i + 1) (by omega)
      have hic : i < c := by omega
      obtain ⟨v0, v1, v2, v3, v4, v5⟩ := hV.2 i hic
      refine ⟨n + 1, ?_⟩
      show qX7_leads_6b post _ _ _ _ z (qX7_leads_6 post (nI f) (nI a) (nI b) (bI same) z n) _ _
      have hT : fit r f a b same i = true → qX7_leads_102 post (nI f) (nI a) (nI b) (bI same) z (qX7_leads_6 post (nI f) (nI a) (nI b) (bI same) z n) (nI (ldTo (fitc c r f a b same) (fun i => r i 4) i)) (nI i) := by
        intro hp
        refine br_f (show ¬ (1 : Int32) = 0 by decide) ⟨in5k hc hic 4 (by omega) rfl, ?_⟩
        show qX7_leads_6 post _ _ _ _ z n (_ ||| _) (_ + _)
        rw [hR.at (x := 4) hc hic 4 (by omega) rfl, n1s _ (by omega), nx_or, nI_1]
        have e : ldTo (fitc c r f a b same) (fun i => r i 4) i ||| 2 ^ r i 4 = ldTo (fitc c r f a b same) (fun i => r i 4) (i + 1) := by
          show _ = ldTo _ _ i ||| (if fitc c r f a b same i then _ else _)
          have : fitc c r f a b same i = true := by unfold fitc; rw [hp, decide_eq_true hic]; rfl
          rw [this]
          rfl
        rw [e]
        exact hn
      have hF : fit r f a b same i = false → qX7_leads_106 post (nI f) (nI a) (nI b) (bI same) z (qX7_leads_6 post (nI f) (nI a) (nI b) (bI same) z n) (nI (ldTo (fitc c r f a b same) (fun i => r i 4) i)) (nI i) := by
        intro hp
        refine br_t rfl ?_
        show qX7_leads_6 post _ _ _ _ z n (_ ||| _) (_ + _)
        rw [or_0, nI_1]
        have e : ldTo (fitc c r f a b same) (fun i => r i 4) (i + 1) = ldTo (fitc c r f a b same) (fun i => r i 4) i := by
          show ldTo _ _ i ||| (if fitc c r f a b same i then _ else _) = _
          have : fitc c r f a b same i = false := by unfold fitc; rw [hp]; simp
          rw [this]
          simp
        rw [← e]
        exact hn
      refine ⟨pk_in 80 82 (by omega), pk_le c i (fun h => absurd h (by omega)) (fun _ => ⟨in5 hc hic, ?_⟩) hR.c rfl⟩
      refine pk_eq (r i 0) f (fun e0 => ?_) (fun e0 => ?_) (hR.at0 hc hic) rfl
      · have h57 : (arN f < 1 ∨ a.testBit (r i 1) = true) → qX7_leads_57 post (nI f) (nI a) (nI b) (bI same) z (qX7_leads_6 post (nI f) (nI a) (nI b) (bI same) z n) (nI (ldTo (fitc c r f a b same) (fun i => r i 4) i)) (nI i) := by
          intro h1
          have h1' : (decide (arN f < 1) || a.testBit (r i 1)) = true := by
            rcases h1 with h1 | h1
            · rw [decide_eq_true h1]; rfl
            · rw [h1]; simp
          unfold qX7_leads_57
          rw [e7_arity _ f (by omega)]
          refine pk_lt (arN f) 2 (fun h2 => ?_) (fun h2 => ?_) rfl rfl (by unfold arN; split <;> (try split) <;> omega)
          · exact hT (by unfold fit; rw [h1', e0, decide_eq_true h2]; simp)
          · refine ⟨in5k hc hic 2 (by omega) rfl, ?_⟩
            rw [hR.at (x := 2) hc hic 2 (by omega) rfl, e7_has _ (by omega)]
            cases hb : b.testBit (r i 2) with
            | false =>
              refine br_t (by simp) (hF ?_)
              unfold fit
              rw [hb, decide_eq_false (by omega : ¬ arN f < 2)]
              simp
            | true =>
              refine br_f (by simp) ⟨in5k hc hic 3 (by omega) rfl, ?_⟩
              rw [hR.at (x := 3) hc hic 3 (by omega) rfl, e7_ful _ v3]
              cases hu : ful (r i 3) same with
              | false =>
                refine br_t (by simp [bI]) (hF ?_)
                unfold fit
                rw [hu, decide_eq_false (by omega : ¬ arN f < 2)]
                simp
              | true =>
                refine br_f (by simp [bI]) (hT ?_)
                unfold fit
                rw [h1', e0, hb, hu]
                simp
        rw [e7_arity _ f (by omega)]
        refine pk_lt (arN f) 1 (fun h1 => h57 (Or.inl h1)) (fun h1 => ⟨in5k hc hic 1 (by omega) rfl, ?_⟩) rfl rfl (by unfold arN; split <;> (try split) <;> omega)
        rw [hR.at (x := 1) hc hic 1 (by omega) rfl, e7_has _ (by omega)]
        cases ha : a.testBit (r i 1) with
        | false =>
          refine br_t (by simp) (hF ?_)
          unfold fit
          rw [ha, decide_eq_false (by omega : ¬ arN f < 1)]
          simp
        | true => exact br_f (by simp) (h57 (Or.inr ha))
      · refine hF ?_
        unfold fit
        rw [show (r i 0 == f) = false from beq_eq_false_iff_ne.mpr e0]
        rfl
  obtain ⟨n, hn⟩ := key c 0 (by omega)
  exact ⟨n, hn⟩
