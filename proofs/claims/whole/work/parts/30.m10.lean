/-! ===== the reference's steps ===== -/
def E10 (z z0 : CS) : Prop := ∀ k, k ≠ 10 → z k = z0 k
theorem E10.rf {z : CS} : E10 z z := fun _ _ => rfl
theorem E10.tr {a b c : CS} (h : E10 a b) (h2 : E10 b c) : E10 a c := fun k hk => (h k hk).trans (h2 k hk)
def E910 (z z0 : CS) : Prop := ∀ k, k ≠ 9 → k ≠ 10 → z k = z0 k
theorem s7_steps {N c : Nat} {r : Nat → Nat → Nat} (hN : N ≤ 6) (hV : VB N c r) {z : CS} (hR : RN (z 7) c r) (hNs : z 11 1 = nI N) {k : Nat} (hm : ∀ s, s < 64 → z 9 s = nI (MM N c r k s)) {post : Int32 → CS → Prop}
    (h : ∀ z' g, E910 z' z → (∀ s, s < 64 → z' 9 s = nI (MM N c r (k + 1) s)) → (g = true ↔ ∃ s, s < 2 ^ N ∧ MM N c r (k + 1) s ≠ MM N c r k s) → post (bI g) z') : qX7_steps post z := by
  have hA64 := n64 hN
  have hll : ∀ f a b same, lead c r f a b same < 2 ^ N := fun f a b same => lead_lt hV f a b same
  obtain ⟨m, hmm⟩ : ∃ m, m = MM N c r k := ⟨_, rfl⟩
  have hm2 : ∀ a, m a ≤ 2 := fun a => by rw [hmm]; exact MM_le2 k a
  have hm : ∀ s, s < 64 → z 9 s = nI (m s) := fun s hs => by rw [hmm]; exact hm s hs
  have L206 : ∀ d i (y : CS) (g : Bool), i + d = 2 ^ N → E910 y z → AC (2 ^ N) (y 10) (tot N c r m) → (∀ s, s < i → y 9 s = nI (MM N c r (k + 1) s)) → (∀ s, i ≤ s → s < 64 → y 9 s = nI (m s)) → (g = true ↔ ∃ s, s < i ∧ MM N c r (k + 1) s ≠ m s) → qX7_steps_206 post (d + 1) (nI (2 ^ N)) (bI g) (nI i) y := by
    intro d
    induction d with
    | zero =>
      intro i y g hi hE hA e1 e2 eg
      show qX7_steps_206b post _ _ _ _ _
      refine pk_le (2 ^ N) i (fun _ => ⟨by cases g <;> rfl, ?_⟩) (fun h => absurd h (by omega))
      rw [show i = 2 ^ N by omega] at e1 e2 eg
      refine h y g hE (fun s hs => ?_) (by rw [hmm] at eg; exact eg)
      by_cases hsA : s < 2 ^ N
      · exact e1 s hsA
      · rw [e2 s (by omega) hs, hmm, MM_out hV (by omega), MM_out hV (by omega)]
    | succ d ih =>
      intro i y g hi hE hA e1 e2 eg
      have ii : vp_in (nI i) 64 := vp_in_nI (by omega) (by decide)
      have ci : (nI i).toNatClampNeg = i := nI_clamp (by omega)
      have e10 : y 10 i = nI (MM N c r (k + 1) i) := by
        rw [hA i (by omega), hmm]
        rfl
      have b1 := hm2 i
      have b2 := MM_le2 (N := N) (c := c) (r := r) (k + 1) i
      have fin : ∀ g', (g' = true ↔ ∃ s, s < i + 1 ∧ MM N c r (k + 1) s ≠ m s) → qX7_steps_235 post (qX7_steps_206 post (d + 1)) (nI (2 ^ N)) (bI g) (nI i) (bI g') y := by
        intro g' hg'
        refine ⟨ii, ii, ?_⟩
        rw [ci, e10, nI_1]
        refine ih (i + 1) _ g' (by omega) (fun q h9 h10 => ?_) ?_ (fun s hs => ?_) (fun s hs hs2 => ?_) hg'
        · rw [st_n _ _ _ h9]; exact hE q h9 h10
        · rw [st_n _ _ _ (show (10 : Nat) ≠ 9 by decide)]; exact hA
        · rw [st_s]
          by_cases hsi : s = i
          · subst hsi; exact pk_us
          · rw [pk_un hsi]; exact e1 s (by omega)
        · rw [st_s, pk_un (by omega)]; exact e2 s (by omega) hs2
      show qX7_steps_206b post (qX7_steps_206 post (d + 1)) _ _ _ _
      refine pk_le (2 ^ N) i (fun h => absurd h (by omega)) (fun _ => ?_)
      cases g with
      | false =>
        have none : ¬ ∃ s, s < i ∧ MM N c r (k + 1) s ≠ m s := fun q => by have := eg.mpr q; cases this
        refine br_t rfl ⟨ii, ii, ?_⟩
        rw [ci, e10, e2 i (Nat.le_refl i) (by omega)]
        refine pk_eq (MM N c r (k + 1) i) (m i) (fun he => ?_) (fun he => ?_)
        · refine fin false ⟨(fun q => by cases q), (fun ⟨s, hs, hne⟩ => ?_)⟩
          by_cases hsi : s = i
          · subst hsi; exact absurd he hne
          · exact absurd ⟨s, by omega, hne⟩ none
        · exact fin true ⟨fun _ => ⟨i, by omega, he⟩, fun _ => rfl⟩
      | true =>
        obtain ⟨s, hs, hne⟩ := eg.mp rfl
        exact br_f (by decide) (fin true ⟨fun _ => ⟨s, by omega, hne⟩, fun _ => rfl⟩)
  -- the loop over the second child
  have L118 : ∀ (a f : Nat), a < 2 ^ N → f < 5 → ∀ (U : Nat → Nat) (k55 : Int32 → Int32 → CS → Prop) (k92 : Int32 → Int32 → Int32 → CS → Prop), (∀ y, E10 y z → AC (2 ^ N) (y 10) (fun s => U s + sm (2 ^ N) (fun b => ind (lead c r f a b false) s * (if a = b then m a * (m a - 1) else m a * m b))) → k92 (nI (2 ^ N)) (nI a) (nI (f + 1)) y) →
      ∀ d b (y : CS), b + d = 2 ^ N → E10 y z → AC (2 ^ N) (y 10) (fun s => U s + sm b (fun b => ind (lead c r f a b false) s * (if a = b then m a * (m a - 1) else m a * m b))) → qX7_steps_118 post k55 k92 (d + 1) (nI (2 ^ N)) (nI a) (nI f) (nI b) y := by
    intro a f ha hf U k55 k92 hk d
    induction d with
    | zero =>
      intro b y hb hE hA
      show qX7_steps_118b post _ _ _ _ _ _ _ _
      refine pk_le (2 ^ N) b (fun _ => ?_) (fun h => absurd h (by omega))
      rw [nI_1]
      refine hk y hE ?_
      rw [show b = 2 ^ N by omega] at hA
      exact hA
    | succ d ih =>
      intro b y hb hE hA
      have m9 : ∀ s, s < 64 → y 9 s = nI (m s) := fun s hs => by rw [hE 9 (by decide)]; exact hm s hs
      have hRy : RN (y 7) c r := by rw [hE 7 (by decide)]; exact hR
      have b1 := hm2 a
      have b2 := hm2 b
      have mul1 : m a * (m a - 1) ≤ 2 * 1 := Nat.mul_le_mul b1 (by omega)
      have mul2 : m a * m b ≤ 2 * 2 := Nat.mul_le_mul b1 b2
      have ia : vp_in (nI a) 64 := vp_in_nI (by omega) (by decide)
      have ib : vp_in (nI b) 64 := vp_in_nI (by omega) (by decide)
      have fin : ∀ x, x ≤ 4 → x = (if a = b then m a * (m a - 1) else m a * m b) → qX7_steps_162 post k55 k92 (qX7_steps_118 post k55 k92 (d + 1)) (nI (2 ^ N)) (nI a) (nI f) (nI b) (nI x) y := by
        intro x hx4 hx
        refine pk_le x 0 (fun h0 => ?_) (fun h0 => ?_) rfl rfl
        · show qX7_steps_118 post k55 k92 (d + 1) _ _ _ (_ + _) _
          rw [nI_1]
          refine ih (b + 1) y (by omega) hE (hA.congr (fun s _ => ?_))
          show _ = U s + (sm b _ + ind (lead c r f a b false) s * (if a = b then m a * (m a - 1) else m a * m b))
          rw [← hx, show x = 0 by omega]
          simp
        · show qX7_leads _ (nI f) (nI a) (nI b) (bI false) y
          refine s7_leads hN hV hRy hf false ?_
          refine s7_puts hA64 (hll _ _ _ _) hx4 hA (fun y1 h1 hA1 => ?_)
          show qX7_steps_118 post k55 k92 (d + 1) _ _ _ (_ + _) _
          rw [nI_1]
          refine ih (b + 1) y1 (by omega) (E10.tr h1 hE) (hA1.congr (fun s _ => ?_))
          show _ = U s + (sm b _ + ind (lead c r f a b false) s * (if a = b then m a * (m a - 1) else m a * m b))
          rw [← hx]
          omega
      show qX7_steps_118b post _ _ (qX7_steps_118 post k55 k92 (d + 1)) _ _ _ _ _
      refine pk_le (2 ^ N) b (fun h => absurd h (by omega)) (fun _ => pk_eq a b (fun e => ⟨ia, ia, ?_⟩) (fun e => ⟨ia, ib, ?_⟩))
      · rw [nI_clamp (show a < 2 ^ 31 by omega), m9 a (by omega)]
        rcases Nat.eq_zero_or_pos (m a) with q | q
        · rw [q, show nI 0 * (nI 0 - 1) = nI 0 from rfl]
          exact fin 0 (by omega) (by rw [if_pos e, q])
        · rw [show nI (m a) - (1 : Int32) = nI (m a - 1) from pk_sub q, pk_mul]
          exact fin _ (by omega) (by rw [if_pos e])
      · rw [nI_clamp (show a < 2 ^ 31 by omega), nI_clamp (show b < 2 ^ 31 by omega), m9 a (by omega), m9 b (by omega), pk_mul]
        exact fin _ (by omega) (by rw [if_neg e])
  -- one symbol
  have L92s : ∀ (a f : Nat), a < 2 ^ N → f < 5 → ∀ (U : Nat → Nat) (k55 : Int32 → Int32 → CS → Prop) (n : Nat) (y : CS), E10 y z → AC (2 ^ N) (y 10) U → (∀ y', E10 y' z → AC (2 ^ N) (y' 10) (fun s => U s + perF N c r m f a s) → qX7_steps_92 post k55 n (nI (2 ^ N)) (nI a) (nI (f + 1)) y') → qX7_steps_92 post k55 (n + 1) (nI (2 ^ N)) (nI a) (nI f) y := by
    intro a f ha hf U k55 n y hE hA hk
    have m9 : ∀ s, s < 64 → y 9 s = nI (m s) := fun s hs => by rw [hE 9 (by decide)]; exact hm s hs
    have hRy : RN (y 7) c r := by rw [hE 7 (by decide)]; exact hR
    have b1 := hm2 a
    show qX7_steps_92b post k55 (qX7_steps_92 post k55 n) _ _ _ _
    refine pk_le 5 f (fun h => absurd h (by omega)) (fun _ => ?_)
    show qX7_leads _ (nI f) (nI a) (nI a) (bI true) y
    refine s7_leads hN hV hRy hf true ⟨vp_in_nI (by omega) (by decide), ?_⟩
    rw [nI_clamp (by omega), m9 a (by omega)]
    refine s7_puts hA64 (hll _ _ _ _) (by omega) hA (fun y1 h1 hA1 => ⟨2 ^ N + 1, ?_⟩)
    refine L118 a f ha hf _ _ _ (fun y2 hE2 hA2 => hk y2 hE2 (hA2.congr (fun s _ => ?_))) (2 ^ N) 0 y1 (by omega) (E10.tr h1 hE) (hA1.congr (fun s _ => rfl))
    show U s + ind (lead c r f a a true) s * m a + _ = U s + perF N c r m f a s
    unfold perF
    omega
  have L55 : ∀ d a (y : CS), a + d = 2 ^ N → E10 y z → AC (2 ^ N) (y 10) (fun s => (ind (lead c r 0 0 0 true) s + ind (lead c r 1 0 0 true) s) + sm a (fun a => perA N c r m a s)) → qX7_steps_55 post (d + 1) (nI (2 ^ N)) (nI a) y := by
    intro d
    induction d with
    | zero =>
      intro a y ha hE hA
      show qX7_steps_55b post _ _ _ _
      refine pk_le (2 ^ N) a (fun _ => ⟨2 ^ N + 1, ?_⟩) (fun h => absurd h (by omega))
      refine L206 (2 ^ N) 0 y false (by omega) (fun q _ h10 => hE q h10) ?_ (fun s hs => absurd hs (by omega)) (fun s _ hs => by rw [hE 9 (by decide)]; exact hm s hs) ⟨(fun q => by cases q), (fun ⟨s, hs, _⟩ => absurd hs (by omega))⟩
      rw [show a = 2 ^ N by omega] at hA
      exact hA
    | succ d ih =>
      intro a y ha hE hA
      have m9 : ∀ s, s < 64 → y 9 s = nI (m s) := fun s hs => by rw [hE 9 (by decide)]; exact hm s hs
      have hRy : RN (y 7) c r := by rw [hE 7 (by decide)]; exact hR
      have b1 := hm2 a
      show qX7_steps_55b post (qX7_steps_55 post (d + 1)) _ _ _
      refine pk_le (2 ^ N) a (fun h => absurd h (by omega)) (fun _ => ⟨vp_in_nI (by omega) (by decide), ?_⟩)
      rw [nI_clamp (by omega), m9 a (by omega)]
      refine pk_eq (m a) 0 (fun h0 => ?_) (fun h0 => ?_) rfl rfl
      · show qX7_steps_55 post (d + 1) _ (_ + _) _
        rw [nI_1]
        refine ih (a + 1) y (by omega) hE (hA.congr (fun s _ => ?_))
        have : perA N c r m a s = 0 := by
          unfold perA perF
          rw [h0, sm_zero _ (fun b _ => by by_cases e : a = b <;> simp [e]), sm_zero _ (fun b _ => by by_cases e : a = b <;> simp [e])]
          simp
        show _ = (ind (lead c r 0 0 0 true) s + ind (lead c r 1 0 0 true) s) + (sm a _ + perA N c r m a s)
        rw [this]
        rfl
      · show qX7_leads _ (nI 2) (nI a) (nI 0) (bI true) y
        refine s7_leads hN hV hRy (by omega) true ⟨vp_in_nI (by omega) (by decide), ?_⟩
        refine s7_puts hA64 (hll _ _ _ _) (by omega) hA (fun y1 h1 hA1 => ⟨3, ?_⟩)
        refine L92s a 3 (by omega) (by omega) _ _ 2 y1 (E10.tr h1 hE) hA1 (fun y2 hE2 hA2 => ?_)
        refine L92s a 4 (by omega) (by omega) _ _ 1 y2 hE2 hA2 (fun y3 hE3 hA3 => ?_)
        show qX7_steps_92b post _ _ _ _ (nI 5) _
        refine pk_le 5 5 (fun _ => ?_) (fun h => absurd h (by omega))
        show qX7_steps_55 post (d + 1) _ (_ + _) _
        rw [nI_1]
        refine ih (a + 1) y3 (by omega) hE3 (hA3.congr (fun s _ => ?_))
        show _ = (ind (lead c r 0 0 0 true) s + ind (lead c r 1 0 0 true) s) + (sm a _ + perA N c r m a s)
        unfold perA
        omega
  have L9 : ∀ d i (y : CS), i + d = 2 ^ N → E10 y z → (∀ s, s < i → y 10 s = nI 0) → qX7_steps_9 post (d + 1) (nI (2 ^ N)) (nI i) y := by
    intro d
    induction d with
    | zero =>
      intro i y hi hE hz
      have hRy : RN (y 7) c r := by rw [hE 7 (by decide)]; exact hR
      show qX7_steps_9b post _ _ _ _
      refine pk_le (2 ^ N) i (fun _ => ?_) (fun h => absurd h (by omega))
      have hA0 : AC (2 ^ N) (y 10) (fun _ => 0) := fun s hs => by rw [hz s (by omega)]; rfl
      show qX7_leads _ (nI 0) (nI 0) (nI 0) (bI true) y
      refine s7_leads hN hV hRy (by omega) true ?_
      refine s7_puts (n := 1) hA64 (hll _ _ _ _) (by omega) hA0 (fun y1 h1 hA1 => ?_)
      have hRy1 : RN (y1 7) c r := by rw [h1 7 (by decide)]; exact hRy
      show qX7_leads _ (nI 1) (nI 0) (nI 0) (bI true) y1
      refine s7_leads hN hV hRy1 (by omega) true ?_
      refine s7_puts (n := 1) hA64 (hll _ _ _ _) (by omega) hA1 (fun y2 h2 hA2 => ⟨2 ^ N + 1, ?_⟩)
      refine L55 (2 ^ N) 0 y2 (by omega) (E10.tr h2 (E10.tr h1 hE)) (hA2.congr (fun s _ => ?_))
      show 0 + ind (lead c r 0 0 0 true) s * 1 + ind (lead c r 1 0 0 true) s * 1 = (ind (lead c r 0 0 0 true) s + ind (lead c r 1 0 0 true) s) + 0
      omega
    | succ d ih =>
      intro i y hi hE hz
      show qX7_steps_9b post (qX7_steps_9 post (d + 1)) _ _ _
      refine pk_le (2 ^ N) i (fun h => absurd h (by omega)) (fun _ => ⟨vp_in_nI (by omega) (by decide), ?_⟩)
      rw [nI_clamp (by omega), nI_1]
      refine ih (i + 1) _ (by omega) (fun q hq => by rw [st_n _ _ _ hq]; exact hE q hq) (fun s hs => ?_)
      rw [st_s]
      by_cases hsi : s = i
      · subst hsi; exact pk_us
      · rw [pk_un hsi]; exact hz s (by omega)
  refine ⟨2 ^ N + 1, ?_⟩
  rw [hNs, n1s N (by omega)]
  exact L9 (2 ^ N) 0 z (by omega) E10.rf (fun s hs => absurd hs (by omega))
theorem s7_starts {z : CS} {post : CS → Prop} (h : ∀ z', (∀ k, k ≠ 9 → z' k = z k) → (∀ s, s < 64 → z' 9 s = nI 0) → post z') : qX7_starts post z := by
  have key : ∀ d i (y : CS), i + d = 64 → (∀ k, k ≠ 9 → y k = z k) → (∀ s, s < i → y 9 s = nI 0) → qX7_starts_2 post (d + 1) (nI i) y := by
    intro d
    induction d with
    | zero =>
      intro i y hi hE hz
      show qX7_starts_2b post _ _ _
      exact pk_le 64 i (fun _ => h y hE (fun s hs => hz s (by omega))) (fun h => absurd h (by omega))
    | succ d ih =>
      intro i y hi hE hz
      show qX7_starts_2b post (qX7_starts_2 post (d + 1)) _ _
      refine pk_le 64 i (fun h => absurd h (by omega)) (fun _ => ⟨vp_in_nI (by omega) (by decide), ?_⟩)
      rw [nI_clamp (by omega), nI_1]
      refine ih (i + 1) _ (by omega) (fun q hq => by rw [st_n _ _ _ hq]; exact hE q hq) (fun s hs => ?_)
      rw [st_s]
      by_cases hsi : s = i
      · subst hsi; exact pk_us
      · rw [pk_un hsi]; exact hz s (by omega)
  exact ⟨65, key 64 0 z (by omega) (fun _ _ => rfl) (fun s hs => absurd hs (by omega))⟩
theorem s7_counts {N c : Nat} {r : Nat → Nat → Nat} (hN : N ≤ 6) (hV : VB N c r) {z : CS} (hR : RN (z 7) c r) (hNs : z 11 1 = nI N) {post : CS → Prop}
    (h : ∀ z' k, E910 z' z → FIX N c r k → (∀ s, s < 64 → z' 9 s = nI (MM N c r k s)) → post z') : qX7_counts post z := by
  have key : ∀ d k (y : CS) (g : Bool), E910 y z → (∀ s, s < 64 → y 9 s = nI (MM N c r k s)) → (g = true → 129 ≤ sm 64 (MM N c r k) + d) → (g = false → FIX N c r k) → qX7_counts_6 post (d + 1) (bI g) y := by
    intro d
    induction d with
    | zero =>
      intro k y g hE e9 g1 g2
      have := SS_le (N := N) (c := c) (r := r) k
      cases g with
      | true => exact absurd (g1 rfl) (by omega)
      | false => exact br_t rfl (h y k hE (g2 rfl) e9)
    | succ d ih =>
      intro k y g hE e9 g1 g2
      show qX7_counts_6b post (qX7_counts_6 post (d + 1)) _ _
      cases g with
      | false => exact br_t rfl (h y k hE (g2 rfl) e9)
      | true =>
        refine br_f (by decide) ?_
        refine s7_steps hN hV (by rw [hE 7 (by decide) (by decide)]; exact hR) (by rw [hE 11 (by decide) (by decide)]; exact hNs) e9 (fun y' g' hE' e9' hg' => ?_)
        refine ih (k + 1) y' g' (fun q h9 h10 => (hE' q h9 h10).trans (hE q h9 h10)) e9' (fun hg => ?_) (fun hg => ?_)
        · obtain ⟨s, hs, hne⟩ := hg'.mp hg
          have := SS_grow (N := N) (c := c) (r := r) (k := k) ⟨s, by have := n64 hN; omega, hne⟩
          have := g1 rfl
          omega
        · refine FIX_succ hN (fun s hs => ?_)
          by_cases hsA : s < 2 ^ N
          · by_cases e : MM N c r (k + 1) s = MM N c r k s
            · exact e
            · have := hg'.mpr ⟨s, hsA, e⟩
              rw [hg] at this
              cases this
          · rw [MM_out hV (by omega), MM_out hV (by omega)]
  refine s7_starts (fun z1 h1 h2 => ⟨130, ?_⟩)
  exact key 129 0 z1 true (fun q h9 _ => h1 q h9) h2 (fun _ => by omega) (fun q => by cases q)
