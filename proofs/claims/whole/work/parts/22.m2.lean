/-! ===== Arrays.fill ===== -/
theorem sJ_fill {n : Nat} (hn : n < 2 ^ 31) {v : Int32} {g : Nat → Int32} {post : (Nat → Int32) → Prop} (h : ∀ g', (∀ j, j < n → g' j = v) → post g') : qJ7_fill_53178 post n v g := by
  have key : ∀ d i (g : Nat → Int32), i + d = n → (∀ j, j < i → g j = v) → ∃ k, qJ7_fill_53178_5 post n v k (nI i) (nI n) g := by
    intro d
    induction d with
    | zero =>
      intro i g hi hg
      refine ⟨1, ?_⟩
      show qJ7_fill_53178_5b post n v _ _ _ _
      exact pk_le n i (fun _ => h g (fun j hj => hg j (by omega))) (fun h => absurd h (by omega))
    | succ d ih =>
      intro i g hi hg
      obtain ⟨k, hk⟩ := ih (i + 1) (upd g i v) (by omega) (fun j hj => by
        by_cases hji : j = i
        · subst hji; exact pk_us
        · rw [pk_un hji]; exact hg j (by omega))
      refine ⟨k + 1, ?_⟩
      show qJ7_fill_53178_5b post n v (qJ7_fill_53178_5 post n v k) _ _ _
      refine pk_le n i (fun h => absurd h (by omega)) (fun _ => ⟨pk_in i n (by omega), ?_⟩)
      rw [nI_clamp (by omega), nI_1]
      exact hk
  obtain ⟨k, hk⟩ := key n 0 g (by omega) (fun j hj => absurd hj (by omega))
  exact ⟨k, hk⟩
/-! ===== rows of bits: the rules as masks ===== -/
theorem b_2p {k : Nat} (hk : k < 31) (i : Nat) (hi : i < 32) : bt (nI (2 ^ k)) i = decide (k = i) := by
  rw [b_nI _ i hi, Nat.testBit_two_pow]
theorem row_add {g : Nat → Int32} {k key M : Nat} {Q : Nat → Nat → Bool} (hk : k < 31) (hg : ∀ s, s < M → ∀ i, i < 32 → bt (g s) i = (decide (i < k) && Q s i)) (hQ : ∀ s, s < M → Q s k = decide (s = key)) :
    ∀ s, s < M → ∀ i, i < 32 → bt (upd g key (g key ||| nI (2 ^ k)) s) i = (decide (i < k + 1) && Q s i) := by
  intro s hs i hi
  by_cases h : s = key
  · subst h
    rw [pk_us, b_or, hg s hs i hi, b_2p hk i hi]
    by_cases hik : k = i
    · subst hik
      simp [hQ s hs]
    · by_cases hlt : i < k
      · simp [hik, hlt, show i < k + 1 by omega]
      · simp [hik, hlt, show ¬ i < k + 1 by omega]
  · rw [pk_un h, hg s hs i hi]
    by_cases hik : i = k
    · subst hik
      simp [hQ s hs, h]
    · by_cases hlt : i < k
      · simp [hlt, show i < k + 1 by omega]
      · simp [hlt, show ¬ i < k + 1 by omega]
theorem one_add {w : Int32} {k : Nat} {Q : Nat → Bool} (hk : k < 31) (hg : ∀ i, i < 32 → bt w i = (decide (i < k) && Q i)) (hQ : Q k = true) :
    ∀ i, i < 32 → bt (w ||| nI (2 ^ k)) i = (decide (i < k + 1) && Q i) := by
  intro i hi
  rw [b_or, hg i hi, b_2p hk i hi]
  by_cases hik : k = i
  · subst hik
    simp [hQ]
  · by_cases hlt : i < k
    · simp [hik, hlt, show i < k + 1 by omega]
    · simp [hik, hlt, show ¬ i < k + 1 by omega]
theorem one_not {w : Int32} {k : Nat} {Q : Nat → Bool} (hg : ∀ i, i < 32 → bt w i = (decide (i < k) && Q i)) (hQ : Q k = false) :
    ∀ i, i < 32 → bt w i = (decide (i < k + 1) && Q i) := by
  intro i hi
  rw [hg i hi]
  by_cases hik : i = k
  · subst hik
    simp [hQ]
  · by_cases hlt : i < k
    · simp [hlt, show i < k + 1 by omega]
    · simp [hlt, show ¬ i < k + 1 by omega]
def key1 (r : Nat → Nat → Nat) (i : Nat) : Nat := if 0 < arN (r i 0) then 2 ^ r i 1 else 0
def key2 (r : Nat → Nat → Nat) (i : Nat) : Nat := if 1 < arN (r i 0) then 2 ^ r i 2 else 0
def RM0 (k : Nat) (r : Nat → Nat → Nat) (z : CS) : Prop :=
  (∀ f, f < 5 → ∀ i, i < 32 → bt (z 0 f) i = (decide (i < k) && decide (f = r i 0))) ∧
  (∀ s, s < 64 → ∀ i, i < 32 → bt (z 1 s) i = (decide (i < k) && decide (s = key1 r i))) ∧
  (∀ s, s < 64 → ∀ i, i < 32 → bt (z 2 s) i = (decide (i < k) && decide (s = key2 r i))) ∧
  (∀ i, i < k → z 3 i = nI (2 ^ r i 4)) ∧
  (∀ i, i < 32 → bt (z 4 0) i = (decide (i < k) && decide (r i 3 ≠ 2))) ∧
  (∀ i, i < 32 → bt (z 4 1) i = (decide (i < k) && decide (r i 3 ≠ 1)))
def RM (c : Nat) (r : Nat → Nat → Nat) (z : CS) : Prop :=
  (∀ f, f < 5 → ∀ i, i < 32 → bt (z 0 f) i = (decide (i < c) && decide (f = r i 0))) ∧
  (∀ s, s < 64 → ∀ i, i < 32 → bt (z 1 s) i = (decide (i < c) && (decide (arN (r i 0) < 1) || s.testBit (r i 1)))) ∧
  (∀ s, s < 64 → ∀ i, i < 32 → bt (z 2 s) i = (decide (i < c) && (decide (arN (r i 0) < 2) || s.testBit (r i 2)))) ∧
  (∀ i, i < c → z 3 i = nI (2 ^ r i 4)) ∧
  (∀ i, i < 32 → bt (z 4 0) i = (decide (i < c) && decide (r i 3 ≠ 2))) ∧
  (∀ i, i < 32 → bt (z 4 1) i = (decide (i < c) && decide (r i 3 ≠ 1)))
/-- the class's book of rules -/
def RB (z : CS) (c : Nat) (r : Nat → Nat → Nat) : Prop := z 5 0 = nI c ∧ ∀ i, i < c → ∀ k, k < 5 → z k i = nI (r i k)
theorem xar_nI : ∀ f, f < 5 → xar (nI f).toNatClampNeg = nI (arN f) := by decide +kernel
theorem arN_le (f : Nat) : arN f ≤ 2 := by unfold arN; split <;> (try split) <;> omega
theorem p64 {q N : Nat} (h : q < N) (hN : N ≤ 6) : 2 ^ q < 64 := by
  have : 2 ^ q < 2 ^ 6 := Nat.pow_lt_pow_right (by decide) (by omega)
  exact this
theorem s3_enter {N c k : Nat} {r : Nat → Nat → Nat} {zB zM : CS} (hN : N ≤ 6) (hV : VB N c r) (hB : RB zB c r) (hk : k < c) (hM : RM0 k r zM) {post : CS → Prop} (h : ∀ z, RM0 (k + 1) r z → post z) : qX3_enter post (nI k) zB zM := by
  have hc := hV.1
  obtain ⟨v0, v1, v2, v3, v4, v5⟩ := hV.2 k hk
  have c0 : (nI k).toNatClampNeg = k := nI_clamp (by omega)
  have e0 : zB 0 k = nI (r k 0) := hB.2 k hk 0 (by omega)
  have e1 : zB 1 k = nI (r k 1) := hB.2 k hk 1 (by omega)
  have e2 : zB 2 k = nI (r k 2) := hB.2 k hk 2 (by omega)
  have e3 : zB 3 k = nI (r k 3) := hB.2 k hk 3 (by omega)
  have e4 : zB 4 k = nI (r k 4) := hB.2 k hk 4 (by omega)
  have ks : (nI (r k 0)).toNatClampNeg = r k 0 := nI_clamp (by omega)
  have q1 := p64 v1 hN
  have q2 := p64 v2 hN
  obtain ⟨m0, m1, m2, m3, m4, m5⟩ := hM
  have i16 : vp_in (nI k) 16 := vp_in_nI (by omega) (by decide)
  have i5 : vp_in (nI (r k 0)) 5 := vp_in_nI v0 (by decide)
  have fin : ∀ (w1 w2 : Nat), w1 = key1 r k → w2 = key2 r k → qX3_enter_79 post (nI k) zB (nI (2 ^ k)) (nI (r k 0)) (nI (arN (r k 0))) (nI w2) (st (st zM 0 (r k 0) (zM 0 (r k 0) ||| nI (2 ^ k))) 1 w1 (zM 1 w1 ||| nI (2 ^ k))) := by
    intro w1 w2 hw1 hw2
    have hw2' : w2 < 64 := by rw [hw2]; unfold key2; split <;> omega
    unfold qX3_enter_79 qX3_enter_118
    simp only [c0, e3, e4, nI_clamp (show w2 < 2 ^ 31 by omega), n1s _ (show r k 4 < 31 by omega), st_s, st_n _ _ _ (show (2 : Nat) ≠ 1 by decide), st_n _ _ _ (show (2 : Nat) ≠ 0 by decide), st_n _ _ _ (show (4 : Nat) ≠ 3 by decide), st_n _ _ _ (show (4 : Nat) ≠ 2 by decide), st_n _ _ _ (show (4 : Nat) ≠ 1 by decide), st_n _ _ _ (show (4 : Nat) ≠ 0 by decide)]
    have iw2 : vp_in (nI w2) 64 := vp_in_nI hw2' (by decide)
    refine ⟨iw2, iw2, i16, i16, i16, ?_⟩
    have R0 := row_add (key := r k 0) (Q := fun f i => decide (f = r i 0)) (show k < 31 by omega) m0 (fun s _ => rfl)
    have R1 := row_add (key := key1 r k) (Q := fun s i => decide (s = key1 r i)) (show k < 31 by omega) m1 (fun s _ => rfl)
    have R2 := row_add (key := key2 r k) (Q := fun s i => decide (s = key2 r i)) (show k < 31 by omega) m2 (fun s _ => rfl)
    have R3 : ∀ i, i < k + 1 → upd (zM 3) k (nI (2 ^ r k 4)) i = nI (2 ^ r i 4) := by
      intro i hi
      by_cases hik : i = k
      · subst hik; exact pk_us
      · rw [pk_un hik]; exact m3 i (by omega)
    subst hw1 hw2
    refine pk_eq (r k 3) 2 (fun h2 => ⟨i16, pk_eq (r k 3) 1 (fun h1 => absurd h1 (by omega)) (fun h1 => h _ ?_) rfl rfl⟩) (fun h2 => ⟨i16, pk_eq (r k 3) 1 (fun h1 => h _ ?_) (fun h1 => h _ ?_) rfl rfl⟩) rfl rfl
    · refine ⟨R0, R1, R2, R3, one_not m4 (by simp [h2]), ?_⟩
      exact one_add (show k < 31 by omega) m5 (by simp [h1])
    · refine ⟨R0, R1, R2, R3, one_add (show k < 31 by omega) m4 (by simp [h2]), one_not m5 (by simp [h1])⟩
    · refine ⟨R0, R1, R2, R3, one_add (show k < 31 by omega) m4 (by simp [h2]), ?_⟩
      exact one_add (show k < 31 by omega) m5 (by simp [h1])
  have mid : ∀ (w1 : Nat), w1 = key1 r k → qX3_enter_52 post (nI k) zB (nI (2 ^ k)) (nI (r k 0)) (nI (arN (r k 0))) (nI w1) (st zM 0 (r k 0) (zM 0 (r k 0) ||| nI (2 ^ k))) := by
    intro w1 hw1
    have hw1' : w1 < 64 := by rw [hw1]; unfold key1; split <;> omega
    have iw1 : vp_in (nI w1) 64 := vp_in_nI hw1' (by decide)
    have hle := arN_le (r k 0)
    refine ⟨iw1, iw1, ?_⟩
    rw [nI_clamp (show w1 < 2 ^ 31 by omega)]
    refine pk_le (arN (r k 0)) 1 (fun ha => fin w1 0 hw1 (by unfold key2; rw [if_neg (by omega)])) (fun ha => ⟨i16, ?_⟩) rfl rfl
    rw [c0, e2, n1s _ (by omega)]
    exact fin w1 (2 ^ r k 2) hw1 (by unfold key2; rw [if_pos ha])
  unfold qX3_enter
  simp only [c0, e0, e1, ks, n1s _ (show k < 31 by omega), n1s _ (show r k 1 < 31 by omega)]
  rw [show xar (r k 0) = nI (arN (r k 0)) by have := xar_nI _ v0; rw [ks] at this; exact this]
  have hle := arN_le (r k 0)
  refine ⟨i16, i5, i5, i5, pk_le (arN (r k 0)) 0 (fun ha => mid 0 (by unfold key1; rw [if_neg (by omega)])) (fun ha => ⟨i16, mid _ (by unfold key1; rw [if_pos ha])⟩) rfl rfl⟩
