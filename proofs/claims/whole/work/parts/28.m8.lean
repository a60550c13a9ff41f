/-! ===== the class's census ===== -/
def E0 (z z0 : CS) : Prop := ∀ k, k ≠ 0 → z k = z0 k
theorem E0.rf {z : CS} : E0 z z := fun _ _ => rfl
theorem E0.tr {a b c : CS} (h : E0 a b) (h2 : E0 b c) : E0 a c := fun k hk => (h k hk).trans (h2 k hk)
section CEN
variable {N c : Nat} {r : Nat → Nat → Nat} {zM : CS}
theorem s0_const (hN : N ≤ 6) (hV : VB N c r) (hM : RM c r zM) {T : Nat → Nat} {z : CS} (hA : AC 64 (z 0) T) {post : CS → Prop} (h : ∀ z', E0 z' z → AC 64 (z' 0) (fun s => T s + (ind (lead c r 0 0 0 true) s + ind (lead c r 1 0 0 true) s)) → post z') : qX0_countConstants post zM z := by
  have hl : ∀ f a b same, lead c r f a b same < 64 := fun f a b same => Nat.lt_of_lt_of_le (lead_lt hV f a b same) (n64 hN)
  refine ⟨3, ?_⟩
  show qX0_countConstants_2b post zM (qX0_countConstants_2 post zM 2) (nI 0) z
  refine pk_le 2 0 (fun h => absurd h (by omega)) (fun _ => ?_)
  show qX3_step _ (nI 0) (nI 0) (nI 0) (bI true) zM
  refine s3_step hN hV hM (by omega) (by omega) (by omega) true ?_
  refine s0_raise (n := 1) (hl _ _ _ _) (by omega) hA (fun z1 h1 hA1 => ?_)
  show qX0_countConstants_2b post zM (qX0_countConstants_2 post zM 1) (nI 1) z1
  refine pk_le 2 1 (fun h => absurd h (by omega)) (fun _ => ?_)
  show qX3_step _ (nI 1) (nI 0) (nI 0) (bI true) zM
  refine s3_step hN hV hM (by omega) (by omega) (by omega) true ?_
  refine s0_raise (n := 1) (hl _ _ _ _) (by omega) hA1 (fun z2 h2 hA2 => ?_)
  show qX0_countConstants_2b post zM (qX0_countConstants_2 post zM 0) (nI 2) z2
  refine pk_le 2 2 (fun _ => ?_) (fun h => absurd h (by omega))
  exact h z2 (E0.tr h2 h1) (hA2.congr (fun s _ => by omega))
theorem s0_unary (hN : N ≤ 6) (hV : VB N c r) (hM : RM c r zM) {T m : Nat → Nat} {z : CS} (hm : ∀ a, a < 64 → z 1 a = nI (m a)) (hm2 : ∀ a, m a ≤ 2) (hA : AC 64 (z 0) T) {post : CS → Prop} (h : ∀ z', E0 z' z → AC 64 (z' 0) (fun s => T s + sm (2 ^ N) (fun a => ind (lead c r 2 a 0 true) s * m a)) → post z') : qX0_countUnary post (nI (2 ^ N)) zM z := by
  have hA64 := n64 hN
  have hl : ∀ f a b same, lead c r f a b same < 64 := fun f a b same => Nat.lt_of_lt_of_le (lead_lt hV f a b same) (n64 hN)
  have key : ∀ d a (y : CS), a + d = 2 ^ N → E0 y z → AC 64 (y 0) (fun s => T s + sm a (fun a => ind (lead c r 2 a 0 true) s * m a)) → qX0_countUnary_2 post (nI (2 ^ N)) zM (d + 1) (nI a) y := by
    intro d
    induction d with
    | zero =>
      intro a y ha hE hA
      show qX0_countUnary_2b post _ zM _ _ _
      refine pk_le (2 ^ N) a (fun _ => h y hE ?_) (fun h => absurd h (by omega))
      rw [show 2 ^ N = a by omega]
      exact hA
    | succ d ih =>
      intro a y ha hE hA
      have ma : y 1 a = nI (m a) := by rw [hE 1 (by decide)]; exact hm a (by omega)
      have h2 := hm2 a
      have ia : vp_in (nI a) 64 := vp_in_nI (by omega) (by decide)
      show qX0_countUnary_2b post _ zM (qX0_countUnary_2 post (nI (2 ^ N)) zM (d + 1)) _ _
      refine pk_le (2 ^ N) a (fun h => absurd h (by omega)) (fun _ => ?_)
      rw [nI_clamp (by omega), ma]
      refine ⟨ia, pk_le (m a) 0 (fun h0 => ?_) (fun h0 => ?_) rfl rfl⟩
      · show qX0_countUnary_2 post _ zM (d + 1) (_ + _) _
        rw [nI_1]
        refine ih (a + 1) y (by omega) hE (hA.congr (fun s _ => ?_))
        show _ = T s + (sm a _ + ind (lead c r 2 a 0 true) s * m a)
        rw [show m a = 0 by omega]
        simp
      · show qX3_step _ (nI 2) (nI a) (nI 0) (bI true) zM
        refine s3_step hN hV hM (by omega) (by omega) (by omega) true ⟨ia, ?_⟩
        refine s0_raise (hl _ _ _ _) (by omega) hA (fun z1 h1 hA1 => ?_)
        show qX0_countUnary_2 post _ zM (d + 1) (_ + _) _
        rw [nI_1]
        refine ih (a + 1) z1 (by omega) (E0.tr h1 hE) (hA1.congr (fun s _ => ?_))
        show _ = T s + (sm a _ + ind (lead c r 2 a 0 true) s * m a)
        omega
  exact ⟨2 ^ N + 1, key (2 ^ N) 0 z (by omega) E0.rf (hA.congr (fun s _ => rfl))⟩
theorem s0_pairs (hN : N ≤ 6) (hV : VB N c r) (hM : RM c r zM) {T m : Nat → Nat} {z : CS} (hm : ∀ a, a < 64 → z 1 a = nI (m a)) (hm2 : ∀ a, m a ≤ 2) (hA : AC 64 (z 0) T) {f a b : Nat} (hf : f < 5) (ha : a < 64) (hb : b < 64) (hma : 0 < m a) {post : CS → Prop} (h : ∀ z', E0 z' z → AC 64 (z' 0) (fun s => T s + pr2 c r m f a b s) → post z') : qX0_countPairs post (nI f) (nI a) (nI b) zM z := by
  have hl : ∀ f a b same, lead c r f a b same < 64 := fun f a b same => Nat.lt_of_lt_of_le (lead_lt hV f a b same) (n64 hN)
  have ia : vp_in (nI a) 64 := vp_in_nI ha (by decide)
  have ib : vp_in (nI b) 64 := vp_in_nI hb (by decide)
  have ca : (nI a).toNatClampNeg = a := nI_clamp (by omega)
  have cb : (nI b).toNatClampNeg = b := nI_clamp (by omega)
  have h2a := hm2 a
  have h2b := hm2 b
  have hmul : m a * m b ≤ 2 * 2 := Nat.mul_le_mul h2a h2b
  have fin : ∀ (x : Nat) (y : CS) (T' : Nat → Nat), x ≤ 4 → E0 y z → AC 64 (y 0) T' → (∀ s, T' s + ind (lead c r f a b false) s * x = T s + pr2 c r m f a b s) → qX0_countPairs_52 post (nI f) (nI a) (nI b) zM (nI x) y := by
    intro x y T' hx hE hA' hT'
    refine pk_le x 0 (fun h0 => h y hE (hA'.congr (fun s _ => ?_))) (fun h0 => ?_) rfl rfl
    · have e := hT' s
      rw [show x = 0 by omega, Nat.mul_zero, Nat.add_zero] at e
      exact e
    · show qX3_step _ (nI f) (nI a) (nI b) (bI false) zM
      refine s3_step hN hV hM hf ha hb false ?_
      exact s0_raise (hl _ _ _ _) hx hA' (fun z1 h1 hA1 => h z1 (E0.tr h1 hE) (hA1.congr (fun s _ => hT' s)))
  unfold qX0_countPairs
  simp only [ca, cb]
  rw [hm a ha, hm b hb, pk_mul]
  refine ⟨ia, ib, pk_eq a b (fun e => ?_) (fun e => ?_)⟩
  · subst e
    show qX3_step _ (nI f) (nI a) (nI a) (bI true) zM
    refine s3_step hN hV hM hf ha ha true ⟨ia, ?_⟩
    refine s0_raise (hl _ _ _ _) (by omega) hA (fun z1 h1 hA1 => ⟨ia, ?_⟩)
    rw [h1 1 (by decide), hm a ha, pk_sub (Nat.le_mul_of_pos_left _ hma)]
    refine fin _ z1 _ (by omega) h1 hA1 (fun s => ?_)
    show T s + ind (lead c r f a a true) s * m a + _ = _
    unfold pr2
    rw [if_pos rfl, if_pos rfl]
    omega
  · refine fin _ z T (by omega) E0.rf hA (fun s => ?_)
    unfold pr2
    rw [if_neg e, if_neg e, Nat.sub_zero]
    omega
theorem s0_binary (hN : N ≤ 6) (hV : VB N c r) (hM : RM c r zM) {T m : Nat → Nat} {z : CS} (hm : ∀ a, a < 64 → z 1 a = nI (m a)) (hm2 : ∀ a, m a ≤ 2) (hA : AC 64 (z 0) T) {post : CS → Prop} (h : ∀ z', E0 z' z → AC 64 (z' 0) (fun s => T s + sm (2 ^ N) (fun a => sm (2 ^ N) (fun b => pr2 c r m 3 a b s + pr2 c r m 4 a b s))) → post z') : qX0_countBinary post (nI (2 ^ N)) zM z := by
  have hA64 := n64 hN
  have z0 : ∀ f a b s, m a = 0 → pr2 c r m f a b s = 0 := by
    intro f a b s h0
    unfold pr2
    rw [h0]
    by_cases e : a = b <;> simp [e]
  have z1 : ∀ f a b s, a ≠ b → m b = 0 → pr2 c r m f a b s = 0 := by
    intro f a b s hne h0
    unfold pr2
    rw [h0, if_neg hne, if_neg hne]
    simp
  have inner : ∀ (a : Nat), a < 2 ^ N → ∀ (U : Nat → Nat) (k2 : Int32 → CS → Prop), (∀ y, E0 y z → AC 64 (y 0) (fun s => U s + sm (2 ^ N) (fun b => pr2 c r m 3 a b s + pr2 c r m 4 a b s)) → k2 (nI (a + 1)) y) →
      ∀ d b (y : CS), b + d = 2 ^ N → E0 y z → AC 64 (y 0) (fun s => U s + sm b (fun b => pr2 c r m 3 a b s + pr2 c r m 4 a b s)) → qX0_countBinary_10 post (nI (2 ^ N)) zM k2 (d + 1) (nI a) (nI b) y := by
    intro a ha U k2 hk2 d
    induction d with
    | zero =>
      intro b y hb hE hA
      show qX0_countBinary_10b post _ zM _ _ _ _ _
      refine pk_le (2 ^ N) b (fun _ => ?_) (fun h => absurd h (by omega))
      show k2 (_ + _) _
      rw [nI_1]
      refine hk2 y hE ?_
      rw [show 2 ^ N = b by omega]
      exact hA
    | succ d ih =>
      intro b y hb hE hA
      have ma : y 1 a = nI (m a) := by rw [hE 1 (by decide)]; exact hm a (by omega)
      have mb : y 1 b = nI (m b) := by rw [hE 1 (by decide)]; exact hm b (by omega)
      have h2a := hm2 a
      have h2b := hm2 b
      show qX0_countBinary_10b post _ zM _ (qX0_countBinary_10 post (nI (2 ^ N)) zM k2 (d + 1)) _ _ _
      refine pk_le (2 ^ N) b (fun h => absurd h (by omega)) (fun _ => ?_)
      rw [nI_clamp (show a < 2 ^ 31 by omega), nI_clamp (show b < 2 ^ 31 by omega), ma, mb]
      refine ⟨vp_in_nI (by omega) (by decide), pk_le (m a) 0 (fun h0 => ?_) (fun h0 => ⟨vp_in_nI (by omega) (by decide), pk_le (m b) 0 (fun h1 => ?_) (fun h1 => ?_) rfl rfl⟩) rfl rfl⟩
      · show k2 (_ + _) _
        rw [nI_1]
        refine hk2 y hE (hA.congr (fun s _ => ?_))
        have e : ∀ n, sm n (fun b => pr2 c r m 3 a b s + pr2 c r m 4 a b s) = 0 := fun n => sm_zero n (fun i _ => by rw [z0 _ _ _ _ (by omega), z0 _ _ _ _ (by omega)])
        show U s + sm b _ = U s + sm (2 ^ N) _
        rw [e, e]
      · show qX0_countBinary_10 post _ zM k2 (d + 1) _ (_ + _) _
        rw [nI_1]
        have hne : a ≠ b := fun e => by rw [e] at h0; omega
        refine ih (b + 1) y (by omega) hE (hA.congr (fun s _ => ?_))
        show _ = U s + (sm b _ + (pr2 c r m 3 a b s + pr2 c r m 4 a b s))
        rw [z1 _ _ _ _ hne (by omega), z1 _ _ _ _ hne (by omega)]
        rfl
      · have hmy : ∀ a, a < 64 → y 1 a = nI (m a) := fun a ha => by rw [hE 1 (by decide)]; exact hm a ha
        refine s0_pairs (f := 3) hN hV hM hmy hm2 hA (by omega) (by omega) (by omega) (by omega) (fun y1 hE1 hA1 => ?_)
        have hmy1 : ∀ a, a < 64 → y1 1 a = nI (m a) := fun a ha => by rw [hE1 1 (by decide)]; exact hmy a ha
        refine s0_pairs (f := 4) hN hV hM hmy1 hm2 hA1 (by omega) (by omega) (by omega) (by omega) (fun y2 hE2 hA2 => ?_)
        show qX0_countBinary_10 post _ zM k2 (d + 1) _ (_ + _) _
        rw [nI_1]
        refine ih (b + 1) y2 (by omega) (E0.tr hE2 (E0.tr hE1 hE)) (hA2.congr (fun s _ => ?_))
        show _ = U s + (sm b _ + (pr2 c r m 3 a b s + pr2 c r m 4 a b s))
        omega
  have outer : ∀ d a (y : CS), a + d = 2 ^ N → E0 y z → AC 64 (y 0) (fun s => T s + sm a (fun a => sm (2 ^ N) (fun b => pr2 c r m 3 a b s + pr2 c r m 4 a b s))) → qX0_countBinary_2 post (nI (2 ^ N)) zM (d + 1) (nI a) y := by
    intro d
    induction d with
    | zero =>
      intro a y ha hE hA
      show qX0_countBinary_2b post _ zM _ _ _
      refine pk_le (2 ^ N) a (fun _ => h y hE ?_) (fun h => absurd h (by omega))
      rw [show a = 2 ^ N by omega] at hA
      exact hA
    | succ d ih =>
      intro a y ha hE hA
      show qX0_countBinary_2b post _ zM (qX0_countBinary_2 post (nI (2 ^ N)) zM (d + 1)) _ _
      refine pk_le (2 ^ N) a (fun h => absurd h (by omega)) (fun _ => ⟨2 ^ N + 1, ?_⟩)
      refine inner a (by omega) _ _ (fun y1 hE1 hA1 => ih (a + 1) y1 (by omega) hE1 (hA1.congr (fun s _ => ?_))) (2 ^ N) 0 y (by omega) hE (hA.congr (fun s _ => rfl))
      show T s + sm a _ + _ = T s + (sm a _ + sm (2 ^ N) (fun b => pr2 c r m 3 a b s + pr2 c r m 4 a b s))
      omega
  exact ⟨2 ^ N + 1, outer (2 ^ N) 0 z (by omega) E0.rf (hA.congr (fun s _ => rfl))⟩
end CEN
