/-! ===== subsets and runs of trees ===== -/
theorem fit_0 {r : Nat → Nat → Nat} {f : Nat} (h : arN f < 1) (a b a' b' : Nat) (s s' : Bool) (i : Nat) : fit r f a b s i = fit r f a' b' s' i := by
  unfold fit
  simp [h, show arN f < 2 by omega]
theorem fit_1 {r : Nat → Nat → Nat} {f : Nat} (h : arN f < 2) (a b b' : Nat) (s s' : Bool) (i : Nat) : fit r f a b s i = fit r f a b' s' i := by
  unfold fit
  simp [h]
theorem ldTo_congr {P Q : Nat → Bool} {ta : Nat → Nat} : ∀ n, (∀ i, i < n → P i = Q i) → ldTo P ta n = ldTo Q ta n
  | 0, _ => rfl
  | n + 1, h => by
    show ldTo P ta n ||| (if P n then 2 ^ ta n else 0) = ldTo Q ta n ||| (if Q n then 2 ^ ta n else 0)
    rw [ldTo_congr n (fun i hi => h i (by omega)), h n (by omega)]
theorem lead_0 {c : Nat} {r : Nat → Nat → Nat} {f : Nat} (h : arN f < 1) (a b a' b' : Nat) (s s' : Bool) : lead c r f a b s = lead c r f a' b' s' :=
  ldTo_congr 16 (fun i _ => by unfold fitc; rw [fit_0 h a b a' b' s s' i])
theorem lead_1 {c : Nat} {r : Nat → Nat → Nat} {f : Nat} (h : arN f < 2) (a b b' : Nat) (s s' : Bool) : lead c r f a b s = lead c r f a b' s' :=
  ldTo_congr 16 (fun i _ => by unfold fitc; rw [fit_1 h a b b' s s' i])
def sub (c : Nat) (r : Nat → Nat → Nat) : Nat → Nat → Nat
  | 0, _ => 0
  | n + 1, t => lead c r (TS t) (sub c r n (TA t)) (sub c r n (TB t)) (TA t == TB t)
def SUB (c : Nat) (r : Nat → Nat → Nat) (t : Nat) : Nat := sub c r (t + 1) t
theorem sub_any (c : Nat) (r : Nat → Nat → Nat) : ∀ n m t, t < 2278 → t < n → t < m → sub c r n t = sub c r m t := by
  intro n
  induction n with
  | zero => intro m t _ h; exact absurd h (by omega)
  | succ n ih =>
    intro m t ht hn hm
    obtain ⟨m, rfl⟩ : ∃ k, m = k + 1 := ⟨m - 1, by omega⟩
    show lead c r (TS t) (sub c r n (TA t)) (sub c r n (TB t)) (TA t == TB t) = lead c r (TS t) (sub c r m (TA t)) (sub c r m (TB t)) (TA t == TB t)
    obtain ⟨-, -, -, -, -, -, -, -, h | h | h⟩ := tabF ht
    · exact lead_0 (by omega) _ _ _ _ _ _
    · rw [ih m (TA t) (by omega) (by omega) (by omega)]
      exact lead_1 (by omega) _ _ _ _ _
    · rw [ih m (TA t) (by omega) (by omega) (by omega), ih m (TB t) (by omega) (by omega) (by omega)]
theorem SUB_eq (c : Nat) (r : Nat → Nat → Nat) {t : Nat} (ht : t < 2278) : SUB c r t = lead c r (TS t) (SUB c r (TA t)) (SUB c r (TB t)) (TA t == TB t) := by
  show lead c r (TS t) (sub c r t (TA t)) (sub c r t (TB t)) (TA t == TB t) = _
  obtain ⟨-, -, -, -, -, -, -, -, h | h | h⟩ := tabF ht
  · exact lead_0 (by omega) _ _ _ _ _ _
  · rw [sub_any c r t (TA t + 1) (TA t) (by omega) (by omega) (by omega)]
    exact lead_1 (by omega) _ _ _ _ _
  · rw [sub_any c r t (TA t + 1) (TA t) (by omega) (by omega) (by omega), sub_any c r t (TB t + 1) (TB t) (by omega) (by omega) (by omega)]
    rfl
theorem SUB_lt {N c : Nat} {r : Nat → Nat → Nat} (hV : VB N c r) (t : Nat) : SUB c r t < 2 ^ N := lead_lt hV _ _ _ _
theorem n64 {N : Nat} (hN : N ≤ 6) : 2 ^ N ≤ 64 := by
  have : 2 ^ N ≤ 2 ^ 6 := Nat.pow_le_pow_right (by decide) hN
  exact this
/-- what the class knows of subsets -/
def SSt (c : Nat) (r : Nat → Nat → Nat) (k : Nat) (z : CS) : Prop := z 1 0 = nI k ∧ k ≤ 2278 ∧ (∀ t, t < k → z 0 t = nI (SUB c r t)) ∧ ∀ t, t < 2278 → ∃ v, v < 64 ∧ z 0 t = nI v
theorem s6_subsetAt {N c : Nat} {r : Nat → Nat → Nat} {zS zT zM : CS} (hN : N ≤ 6) (hV : VB N c r) (hT : RT zT) (hM : RM c r zM) {k : Nat} (hS : SSt c r k zS) {t : Nat} (ht : t < 2278) {post : Int32 → CS → Prop}
    (h : ∀ z k', SSt c r k' z → z 1 1 = zS 1 1 → z 1 2 = zS 1 2 → post (nI (SUB c r t)) z) : qX6_subsetAt post (nI t) zS zT zM := by
  have key : ∀ d k (z : CS), t + 1 ≤ k + d → SSt c r k z → z 1 1 = zS 1 1 → z 1 2 = zS 1 2 → qX6_subsetAt_0 post (nI t) zT zM (d + 1) z := by
    intro d
    induction d with
    | zero =>
      intro k z hd hS h1 h2
      show qX6_subsetAt_0b post _ zT zM _ _
      refine pk_lt t k (fun hlt => ⟨vp_in_nI ht (by decide), ?_⟩) (fun h => absurd h (by omega)) rfl hS.1 (by omega) (by have := hS.2.1; omega)
      rw [nI_clamp (by omega), hS.2.2.1 t hlt]
      exact h z k hS h1 h2
    | succ d ih =>
      intro k z hd hS h1 h2
      show qX6_subsetAt_0b post _ zT zM (qX6_subsetAt_0 post (nI t) zT zM (d + 1)) _
      refine pk_lt t k (fun hlt => ⟨vp_in_nI ht (by decide), ?_⟩) (fun hge => ?_) rfl hS.1 (by omega) (by have := hS.2.1; omega)
      · rw [nI_clamp (by omega), hS.2.2.1 t hlt]
        exact h z k hS h1 h2
      · have hk : k < 2278 := by omega
        have hA := (tabF hk).2.1
        have hB := (tabF hk).2.2.1
        have hcase := (tabF hk).2.2.2.2.2.2.2.2
        rw [hS.1, e5_firstAt hT hk, e5_secondAt hT hk, e5_symbolAt hT hk, nI_clamp (show TA k < 2 ^ 31 by omega), nI_clamp (show TB k < 2 ^ 31 by omega)]
        refine ⟨vp_in_nI (by omega) (by decide), vp_in_nI (by omega) (by decide), ?_⟩
        obtain ⟨va, hva, ea⟩ := hS.2.2.2 (TA k) (by omega)
        obtain ⟨vb, hvb, eb⟩ := hS.2.2.2 (TB k) (by omega)
        have go : ∀ same, (TA k == TB k) = same → qX6_subsetAt_77 post (nI t) zT zM (qX6_subsetAt_0 post (nI t) zT zM (d + 1)) (nI (TA k)) (nI (TB k)) (nI k) (nI (TS k)) (nI va) (nI vb) (bI same) z := by
          intro same hsame
          refine s3_step hN hV hM (tabF hk).1 hva hvb same ⟨vp_in_nI hk (by decide), ?_⟩
          have e : lead c r (TS k) va vb same = SUB c r k := by
            rw [SUB_eq c r hk, hsame]
            rcases hcase with hc | hc | hc
            · exact lead_0 (by omega) _ _ _ _ _ _
            · have : va = SUB c r (TA k) := by
                have hx := hS.2.2.1 (TA k) (by omega)
                rw [ea] at hx
                have hl := SUB_lt hV (TA k)
                have := n64 hN
                exact (nI_eq (by omega) (by omega)).mp hx
              rw [this]
              exact lead_1 (by omega) _ _ _ _ _
            · have e1 : va = SUB c r (TA k) := by
                have hx := hS.2.2.1 (TA k) (by omega)
                rw [ea] at hx
                have hl := SUB_lt hV (TA k)
                have := n64 hN
                exact (nI_eq (by omega) (by omega)).mp hx
              have e2 : vb = SUB c r (TB k) := by
                have hx := hS.2.2.1 (TB k) (by omega)
                rw [eb] at hx
                have hl := SUB_lt hV (TB k)
                have := n64 hN
                exact (nI_eq (by omega) (by omega)).mp hx
              rw [e1, e2]
          rw [e, nI_clamp (show k < 2 ^ 31 by omega), st_n _ _ _ (show (1 : Nat) ≠ 0 by decide), hS.1, nI_1]
          refine ih (k + 1) _ (by omega) ⟨rfl, by omega, ?_, ?_⟩ h1 h2
          · intro u hu
            show upd (z 0) k _ u = _
            by_cases huk : u = k
            · subst huk; exact pk_us
            · rw [pk_un huk]; exact hS.2.2.1 u (by omega)
          · intro u hu
            show ∃ v, v < 64 ∧ upd (z 0) k _ u = _
            by_cases huk : u = k
            · subst huk
              exact ⟨SUB c r u, by have := SUB_lt hV u; have := n64 hN; omega, pk_us⟩
            · rw [pk_un huk]; exact hS.2.2.2 u hu
        rw [ea, eb]
        refine pk_eq (TA k) (TB k) (fun he => ?_) (fun he => ?_)
        · exact go true (by rw [he]; exact beq_self_eq_true _)
        · exact go false (beq_eq_false_iff_ne.mpr he)
  exact ⟨t + 2, key (t + 1) k zS (by omega) hS rfl rfl⟩
def sm (n : Nat) (f : Nat → Nat) : Nat := match n with
  | 0 => 0
  | n + 1 => sm n f + f n
theorem sm_pos {f : Nat → Nat} : ∀ n, 0 < sm n f ↔ ∃ i, i < n ∧ 0 < f i
  | 0 => by simp [sm]
  | n + 1 => by
    show 0 < sm n f + f n ↔ _
    constructor
    · intro h
      rcases Nat.eq_zero_or_pos (f n) with h0 | h0
      · obtain ⟨i, h1, h2⟩ := (sm_pos (f := f) n).mp (by omega)
        exact ⟨i, by omega, h2⟩
      · exact ⟨n, by omega, h0⟩
    · rintro ⟨i, h1, h2⟩
      by_cases hi : i = n
      · subst hi; omega
      · have := (sm_pos (f := f) n).mpr ⟨i, by omega, h2⟩
        omega
theorem sm_congr {f g : Nat → Nat} : ∀ n, (∀ i, i < n → f i = g i) → sm n f = sm n g
  | 0, _ => rfl
  | n + 1, h => by
    show sm n f + f n = sm n g + g n
    rw [sm_congr n (fun i hi => h i (by omega)), h n (by omega)]
theorem sm_le {f : Nat → Nat} {B : Nat} : ∀ n, (∀ i, i < n → f i ≤ B) → sm n f ≤ n * B
  | 0, _ => Nat.zero_le _
  | n + 1, h => by
    show sm n f + f n ≤ (n + 1) * B
    have h1 := sm_le n (fun i hi => h i (by omega))
    have h2 := h n (by omega)
    rw [Nat.succ_mul]
    omega
theorem mul_pos2 (x y : Nat) : 0 < x * y ↔ 0 < x ∧ 0 < y := by
  constructor
  · intro h
    refine ⟨Nat.pos_of_ne_zero (fun e => ?_), Nat.pos_of_ne_zero (fun e => ?_)⟩
    · rw [e, Nat.zero_mul] at h; exact absurd h (by omega)
    · rw [e, Nat.mul_zero] at h; exact absurd h (by omega)
  · intro h
    exact Nat.mul_pos h.1 h.2
/-- what one rule adds to the runs on t to q -/
def tm (r : Nat → Nat → Nat) (R : Nat → Nat → Nat) (t q i : Nat) : Nat :=
  if r i 0 = TS t ∧ r i 4 = q ∧ ful (r i 3) (TA t == TB t) = true then (if 0 < arN (TS t) then R (TA t) (r i 1) else 1) * (if 1 < arN (TS t) then R (TB t) (r i 2) else 1) else 0
def rn (c : Nat) (r : Nat → Nat → Nat) : Nat → Nat → Nat → Nat
  | 0, _, _ => 0
  | n + 1, t, q => sm c (tm r (rn c r n) t q)
def RUN (c : Nat) (r : Nat → Nat → Nat) (t q : Nat) : Nat := rn c r (t + 1) t q
theorem tm_congr {r : Nat → Nat → Nat} {R R' : Nat → Nat → Nat} {t : Nat} (ht : t < 2278) (h : ∀ u, u < t → ∀ q, R u q = R' u q) (q i : Nat) : tm r R t q i = tm r R' t q i := by
  unfold tm
  obtain ⟨-, -, -, -, -, -, -, -, hc | hc | hc⟩ := tabF ht
  · simp [hc.1]
  · simp [hc.1, h (TA t) hc.2.1]
  · simp [hc.1, h (TA t) hc.2.1, h (TB t) hc.2.2.1]
theorem rn_any (c : Nat) (r : Nat → Nat → Nat) : ∀ n m t, t < 2278 → t < n → t < m → ∀ q, rn c r n t q = rn c r m t q := by
  intro n
  induction n with
  | zero => intro m t _ h; exact absurd h (by omega)
  | succ n ih =>
    intro m t ht hn hm q
    obtain ⟨m, rfl⟩ : ∃ k, m = k + 1 := ⟨m - 1, by omega⟩
    show sm c (tm r (rn c r n) t q) = sm c (tm r (rn c r m) t q)
    exact sm_congr c (fun i _ => tm_congr ht (fun u hu q => ih m u (by omega) (by omega) (by omega) q) q i)
theorem RUN_eq (c : Nat) (r : Nat → Nat → Nat) {t : Nat} (ht : t < 2278) (q : Nat) : RUN c r t q = sm c (tm r (RUN c r) t q) :=
  sm_congr c (fun i _ => tm_congr ht (fun u hu q => rn_any c r t (u + 1) u (by omega) hu (by omega) q) q i)
theorem RUN_pos {N c : Nat} {r : Nat → Nat → Nat} (hV : VB N c r) : ∀ n t, t < n → t < 2278 → ∀ q, (0 < RUN c r t q ↔ (SUB c r t).testBit q = true) := by
  intro n
  induction n with
  | zero => intro t h; exact absurd h (by omega)
  | succ n ih =>
    intro t hn ht q
    rw [RUN_eq c r ht, SUB_eq c r ht, sm_pos, lead_at hV.1, ldTo_bit]
    have one : ∀ i, i < c → (0 < tm r (RUN c r) t q i ↔ fitc c r (TS t) (SUB c r (TA t)) (SUB c r (TB t)) (TA t == TB t) i = true ∧ r i 4 = q) := by
      intro i hi
      obtain ⟨v0, v1, v2, v3, v4, v5⟩ := hV.2 i hi
      unfold tm fitc fit
      by_cases h0 : r i 0 = TS t
      · by_cases h4 : r i 4 = q
        · obtain ⟨-, -, -, -, -, -, -, -, hc | hc | hc⟩ := tabF ht
          · have h3 : r i 3 = 0 := v5 (by rw [h0]; omega)
            simp [h0, h4, hi, hc.1, h3, ful]
          · have h3 : r i 3 = 0 := v5 (by rw [h0]; omega)
            have e1 := ih (TA t) (by omega) (by omega) (r i 1)
            simp [h0, h4, hi, hc.1, h3, ful, e1]
          · have e1 := ih (TA t) (by omega) (by omega) (r i 1)
            have e2 := ih (TB t) (by omega) (by omega) (r i 2)
            by_cases hf : ful (r i 3) (TA t == TB t) = true
            · rw [if_pos ⟨h0, h4, hf⟩]
              rw [if_pos (show 0 < arN (TS t) by omega), if_pos (show 1 < arN (TS t) by omega), mul_pos2, e1, e2]
              simp [h0, h4, hi, hf, hc.1]
            · rw [if_neg (fun hx => hf hx.2.2)]
              simp [hf, hc.1]
        · rw [if_neg (fun hx => h4 hx.2.1)]
          simp [h4]
      · rw [if_neg (fun hx => h0 hx.1)]
        simp [h0]
    constructor
    · rintro ⟨i, h1, h2⟩
      exact ⟨i, h1, (one i h1).mp h2⟩
    · rintro ⟨i, h1, h2⟩
      exact ⟨i, h1, (one i h1).mpr h2⟩
theorem RUN_le {N c : Nat} {r : Nat → Nat → Nat} (hV : VB N c r) : ∀ n t, t < n → t < 2278 → ∀ q, RUN c r t q ≤ 16 ^ TZ t := by
  intro n
  induction n with
  | zero => intro t h; exact absurd h (by omega)
  | succ n ih =>
    intro t hn ht q
    rw [RUN_eq c r ht]
    have hc16 := hV.1
    have one : ∀ i, i < c → tm r (RUN c r) t q i ≤ 16 ^ (TZ t - 1) := by
      intro i hi
      unfold tm
      split
      · obtain ⟨-, -, -, -, -, -, -, -, hc | hc | hc⟩ := tabF ht
        · rw [hc.1]
          exact Nat.one_le_pow _ _ (by decide)
        · rw [hc.1, if_pos (by decide), if_neg (by decide), Nat.mul_one, hc.2.2.2.1, Nat.add_sub_cancel_left]
          exact ih (TA t) (by omega) (by omega) _
        · rw [hc.1, if_pos (by decide), if_pos (by decide), hc.2.2.2.1, show 1 + TZ (TA t) + TZ (TB t) - 1 = TZ (TA t) + TZ (TB t) by omega, Nat.pow_add]
          exact Nat.mul_le_mul (ih (TA t) (by omega) (by omega) _) (ih (TB t) (by omega) (by omega) _)
      · exact Nat.zero_le _
    have h1 := sm_le c one
    have hz := (tabF ht).2.2.2.1
    have h2 : c * 16 ^ (TZ t - 1) ≤ 16 * 16 ^ (TZ t - 1) := Nat.mul_le_mul_right _ hc16
    have h3 : 16 * 16 ^ (TZ t - 1) = 16 ^ TZ t := by
      rw [Nat.mul_comm, ← Nat.pow_succ]
      congr 1
      omega
    omega
theorem RUN_lt {N c : Nat} {r : Nat → Nat → Nat} (hV : VB N c r) {t : Nat} (ht : t < 2278) (q : Nat) : RUN c r t q < 2 ^ 31 := by
  have h1 := RUN_le hV (t + 1) t (by omega) ht q
  have h2 : 16 ^ TZ t ≤ 16 ^ 7 := Nat.pow_le_pow_right (by decide) (tabF ht).2.2.2.2.1
  have h3 : 16 ^ 7 < 2 ^ 31 := by decide
  omega
