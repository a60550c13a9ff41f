/-! ===== the class's census: growth, rounds ===== -/
theorem FIX_succ {N c : Nat} {r : Nat → Nat → Nat} (hN : N ≤ 6) {k : Nat} (h : FIX N c r k) : FIX N c r (k + 1) := fun s hs => by
  have h2 := FIX_on hN h 2 s hs
  have h1 := FIX_on hN h 1 s hs
  rw [show k + 1 + 1 = k + 2 by omega, h2, h1]
theorem s0_note {N : Nat} (hN : N ≤ 6) {k : Nat} (hk : k < 2 ^ 31) {m m' : Nat → Nat} (hm : ∀ s, m s ≤ 2) (hm' : ∀ s, m' s ≤ 2) {z : CS} (h0 : ∀ s, s < 64 → z 0 s = nI (m' s)) (h1 : ∀ s, s < 64 → z 1 s = nI (m s)) {post : Int32 → CS → Prop}
    (h : ∀ z' g, z' 0 = z 0 → z' 1 = z 1 → (∀ s, s < 2 ^ N → z' 2 s = (if m s = 0 ∧ m' s ≠ 0 then nI k else z 2 s)) → (∀ s, 2 ^ N ≤ s → z' 2 s = z 2 s) → (g = true ↔ ∃ s, s < 2 ^ N ∧ m' s ≠ m s) → post (bI g) z') : qX0_noteGrowth post (nI k) (nI (2 ^ N)) z := by
  have hA64 := n64 hN
  have key : ∀ d i (y : CS) (g : Bool), i + d = 2 ^ N → y 0 = z 0 → y 1 = z 1 → (∀ s, s < i → y 2 s = (if m s = 0 ∧ m' s ≠ 0 then nI k else z 2 s)) → (∀ s, i ≤ s → y 2 s = z 2 s) → (g = true ↔ ∃ s, s < i ∧ m' s ≠ m s) → qX0_noteGrowth_5 post (nI k) (nI (2 ^ N)) (d + 1) (bI g) (nI i) y := by
    intro d
    induction d with
    | zero =>
      intro i y g hi e0 e1 e2 e3 eg
      show qX0_noteGrowth_5b post _ _ _ _ _ _
      refine pk_le (2 ^ N) i (fun _ => ⟨by cases g <;> rfl, ?_⟩) (fun h => absurd h (by omega))
      rw [show i = 2 ^ N by omega] at e2 e3 eg
      exact h y g e0 e1 e2 e3 eg
    | succ d ih =>
      intro i y g hi e0 e1 e2 e3 eg
      have ii : vp_in (nI i) 64 := vp_in_nI (by omega) (by decide)
      have a1 := hm i
      have a2 := hm' i
      show qX0_noteGrowth_5b post _ _ (qX0_noteGrowth_5 post (nI k) (nI (2 ^ N)) (d + 1)) _ _ _
      refine pk_le (2 ^ N) i (fun h => absurd h (by omega)) (fun _ => ⟨ii, ii, ?_⟩)
      rw [nI_clamp (by omega), e0, e1, h0 i (by omega), h1 i (by omega)]
      refine pk_eq (m' i) (m i) (fun he => ?_) (fun he => ⟨ii, pk_eq (m i) 0 (fun hz => ⟨ii, ?_⟩) (fun hz => ?_) rfl rfl⟩)
      · show qX0_noteGrowth_5 post _ _ (d + 1) _ (_ + _) _
        rw [nI_1]
        refine ih (i + 1) y g (by omega) e0 e1 (fun s hs => ?_) (fun s hs => e3 s (by omega)) ?_
        · by_cases hsi : s = i
          · subst hsi
            rw [e3 s (Nat.le_refl s), if_neg (fun q => by omega)]
          · exact e2 s (by omega)
        · rw [eg]
          constructor
          · rintro ⟨s, hs, hne⟩; exact ⟨s, by omega, hne⟩
          · rintro ⟨s, hs, hne⟩
            by_cases hsi : s = i
            · subst hsi; exact absurd he hne
            · exact ⟨s, by omega, hne⟩
      · show qX0_noteGrowth_5 post _ _ (d + 1) (bI true) (_ + _) _
        rw [nI_1]
        refine ih (i + 1) _ true (by omega) ((st_n _ _ _ (by decide)).trans e0) ((st_n _ _ _ (by decide)).trans e1) (fun s hs => ?_) (fun s hs => ?_) ⟨fun _ => ⟨i, by omega, he⟩, fun _ => rfl⟩
        · rw [st_s]
          by_cases hsi : s = i
          · subst hsi
            rw [pk_us, if_pos ⟨hz, by omega⟩]
          · rw [pk_un hsi]
            exact e2 s (by omega)
        · rw [st_s, pk_un (by omega)]
          exact e3 s (by omega)
      · show qX0_noteGrowth_5 post _ _ (d + 1) (bI true) (_ + _) _
        rw [nI_1]
        refine ih (i + 1) y true (by omega) e0 e1 (fun s hs => ?_) (fun s hs => e3 s (by omega)) ⟨fun _ => ⟨i, by omega, he⟩, fun _ => rfl⟩
        by_cases hsi : s = i
        · subst hsi
          rw [e3 s (Nat.le_refl s), if_neg (fun q => hz q.1)]
        · exact e2 s (by omega)
  exact ⟨2 ^ N + 1, key (2 ^ N) 0 z false (by omega) rfl rfl (fun s hs => absurd hs (by omega)) (fun s _ => rfl) ⟨(fun q => by cases q), (fun ⟨s, hs, _⟩ => absurd hs (by omega))⟩⟩
/-- what a census knows -/
def CENS (N c : Nat) (r : Nat → Nat → Nat) (z : CS) : Prop := ∃ k, FIX N c r k ∧ (∀ s, s < 64 → z 0 s = nI (MM N c r k s)) ∧ ∀ s, s < 64 → 0 < MM N c r k s → ∃ h, h < 200 ∧ z 2 s = nI h ∧ 0 < MM N c r (h + 1) s ∧ MM N c r h s = 0
theorem s0_take {N c : Nat} {r : Nat → Nat → Nat} {zM : CS} (hN : N ≤ 6) (hV : VB N c r) (hM : RM c r zM) {z : CS} {post : CS → Prop} (h : ∀ z', CENS N c r z' → post z') : qX0_take post (nI (2 ^ N)) zM z := by
  have hA64 := n64 hN
  have key : ∀ d k (y : CS) (g : Bool), k + d = 129 → (∀ s, s < 64 → y 0 s = nI (MM N c r k s)) → (∀ s, s < 64 → 0 < MM N c r k s → ∃ h, h < k ∧ y 2 s = nI h ∧ 0 < MM N c r (h + 1) s ∧ MM N c r h s = 0) → (g = true → k ≤ sm 64 (MM N c r k)) → (g = false → ∃ k0, k = k0 + 1 ∧ FIX N c r k0) → qX0_take_13 post (nI (2 ^ N)) zM (d + 1) (bI g) (nI k) y := by
    intro d
    induction d with
    | zero =>
      intro k y g hk e0 e2 g1 g2
      show qX0_take_13b post _ zM _ _ _ _
      refine pk_le 129 k (fun _ => h y ?_) (fun h => absurd h (by omega))
      cases g with
      | true =>
        have h1 := g1 rfl
        have h2 := SS_le (N := N) (c := c) (r := r) k
        exact absurd h1 (by omega)
      | false =>
        obtain ⟨k0, rfl, hF⟩ := g2 rfl
        exact ⟨k0 + 1, FIX_succ hN hF, e0, fun s hs hp => by obtain ⟨q, q1, q2⟩ := e2 s hs hp; exact ⟨q, by omega, q2⟩⟩
    | succ d ih =>
      intro k y g hk e0 e2 g1 g2
      show qX0_take_13b post _ zM (qX0_take_13 post (nI (2 ^ N)) zM (d + 1)) _ _ _
      refine pk_le 129 k (fun h => absurd h (by omega)) (fun _ => ?_)
      cases g with
      | false =>
        refine br_t rfl (h y ?_)
        obtain ⟨k0, rfl, hF⟩ := g2 rfl
        exact ⟨k0 + 1, FIX_succ hN hF, e0, fun s hs hp => by obtain ⟨q, q1, q2⟩ := e2 s hs hp; exact ⟨q, by omega, q2⟩⟩
      | true =>
        have g1 := g1 rfl
        refine br_f (by decide) (sJ_fill (by omega) (fun u hu => ?_))
        have hm1 : ∀ a, a < 64 → (sr (sr y 1 (va_cpy (y 0) (y 1) 0 0 64)) 0 u) 1 a = nI (MM N c r k a) := fun a ha => by
          rw [sr_n _ _ (show (1 : Nat) ≠ 0 by decide), sr_s, pk_cpy_in (by omega) (by omega), show 0 + (a - 0) = a by omega]
          exact e0 a ha
        have h2' : (sr (sr y 1 (va_cpy (y 0) (y 1) 0 0 64)) 0 u) 2 = y 2 := by rw [sr_n _ _ (show (2 : Nat) ≠ 0 by decide), sr_n _ _ (show (2 : Nat) ≠ 1 by decide)]
        have hA0 : AC 64 ((sr (sr y 1 (va_cpy (y 0) (y 1) 0 0 64)) 0 u) 0) (fun _ => 0) := fun s hs => by
          rw [sr_s, hu s hs]
          rfl
        generalize sr (sr y 1 (va_cpy (y 0) (y 1) 0 0 64)) 0 u = w at hm1 h2' hA0 ⊢
        refine s0_const hN hV hM hA0 (fun w1 hE1 hA1 => ?_)
        have hm2 : ∀ a, a < 64 → w1 1 a = nI (MM N c r k a) := fun a ha => by rw [hE1 1 (by decide)]; exact hm1 a ha
        refine s0_unary hN hV hM hm2 (MM_le2 k) hA1 (fun w2 hE2 hA2 => ?_)
        have hm3 : ∀ a, a < 64 → w2 1 a = nI (MM N c r k a) := fun a ha => by rw [hE2 1 (by decide)]; exact hm2 a ha
        refine s0_binary hN hV hM hm3 (MM_le2 k) hA2 (fun w3 hE3 hA3 => ?_)
        have hm4 : ∀ a, a < 64 → w3 1 a = nI (MM N c r k a) := fun a ha => by rw [hE3 1 (by decide)]; exact hm3 a ha
        have hn : ∀ s, s < 64 → w3 0 s = nI (MM N c r (k + 1) s) := fun s hs => by
          rw [hA3 s hs]
          show _ = nI (min 2 (tot N c r (MM N c r k) s))
          rw [← tot_class]
          congr 2
          dsimp only
          omega
        have h22 : w3 2 = y 2 := by rw [hE3 2 (by decide), hE2 2 (by decide), hE1 2 (by decide), h2']
        refine s0_note hN (by omega) (MM_le2 k) (MM_le2 (k + 1)) hn hm4 (fun w4 g' f0 f1 f2 f3 fg => ?_)
        rw [nI_1]
        refine ih (k + 1) w4 g' (by omega) (fun s hs => by rw [f0]; exact hn s hs) (fun s hs hp => ?_) (fun hg => ?_) (fun hg => ?_)
        · by_cases hsA : s < 2 ^ N
          · rw [f2 s hsA]
            by_cases hz : MM N c r k s = 0
            · refine ⟨k, by omega, ?_, hp, hz⟩
              rw [if_pos ⟨hz, by omega⟩]
            · obtain ⟨q, q1, q2, q3⟩ := e2 s hs (by omega)
              refine ⟨q, by omega, ?_, q3⟩
              rw [if_neg (fun e => hz e.1), h22]
              exact q2
          · rw [MM_out hV (by omega)] at hp
            exact absurd hp (by omega)
        · obtain ⟨s, hs, hne⟩ := fg.mp hg
          have := SS_grow (N := N) (c := c) (r := r) (k := k) ⟨s, by omega, hne⟩
          omega
        · refine ⟨k, rfl, fun s hs => ?_⟩
          by_cases hsA : s < 2 ^ N
          · by_cases e : MM N c r (k + 1) s = MM N c r k s
            · exact e
            · have := fg.mpr ⟨s, hsA, e⟩
              rw [hg] at this
              cases this
          · rw [MM_out hV (by omega), MM_out hV (by omega)]
  refine sJ_fill (by omega) (fun u hu => ⟨130, ?_⟩)
  refine key 129 0 _ true (by omega) (fun s hs => ?_) (fun s hs hp => absurd hp (by show ¬ 0 < 0; omega)) (fun _ => Nat.zero_le _) (fun q => by cases q)
  rw [sr_s, hu s hs]
  rfl
