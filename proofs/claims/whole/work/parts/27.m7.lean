/-! ===== the subset construction: how many trees, step by step ===== -/
theorem sm_add {f g : Nat → Nat} : ∀ n, sm n (fun i => f i + g i) = sm n f + sm n g
  | 0 => rfl
  | n + 1 => by
    show sm n (fun i => f i + g i) + (f n + g n) = (sm n f + f n) + (sm n g + g n)
    rw [sm_add n]
    omega
theorem sm_mono {f g : Nat → Nat} : ∀ n, (∀ i, i < n → f i ≤ g i) → sm n f ≤ sm n g
  | 0, _ => Nat.le_refl _
  | n + 1, h => Nat.add_le_add (sm_mono n (fun i hi => h i (by omega))) (h n (by omega))
theorem sm_lt {f g : Nat → Nat} : ∀ n, (∀ i, i < n → f i ≤ g i) → (∃ i, i < n ∧ f i ≠ g i) → sm n f < sm n g
  | 0, _, h => by obtain ⟨i, hi, -⟩ := h; exact absurd hi (by omega)
  | n + 1, h, h2 => by
    show sm n f + f n < sm n g + g n
    have h0 := sm_mono n (fun i hi => h i (by omega))
    have hn := h n (by omega)
    obtain ⟨i, hi, hne⟩ := h2
    by_cases e : i = n
    · subst e; omega
    · have := sm_lt n (fun i hi => h i (by omega)) ⟨i, by omega, hne⟩
      omega
theorem sm_zero {f : Nat → Nat} : ∀ n, (∀ i, i < n → f i = 0) → sm n f = 0
  | 0, _ => rfl
  | n + 1, h => by
    show sm n f + f n = 0
    rw [sm_zero n (fun i hi => h i (by omega)), h n (by omega)]
theorem sm_one {a x : Nat} : ∀ n, a < n → sm n (fun b => if a = b then x else 0) = x
  | 0, h => absurd h (by omega)
  | n + 1, h => by
    show sm n (fun b => if a = b then x else 0) + (if a = n then x else 0) = x
    by_cases e : a = n
    · rw [if_pos e, sm_zero n (fun i hi => if_neg (by omega))]
      omega
    · rw [if_neg e, sm_one n (by omega)]
      omega
def ind (x s : Nat) : Nat := if x = s then 1 else 0
def perF (N c : Nat) (r : Nat → Nat → Nat) (m : Nat → Nat) (f a s : Nat) : Nat :=
  ind (lead c r f a a true) s * m a + sm (2 ^ N) (fun b => ind (lead c r f a b false) s * (if a = b then m a * (m a - 1) else m a * m b))
def perA (N c : Nat) (r : Nat → Nat → Nat) (m : Nat → Nat) (a s : Nat) : Nat :=
  ind (lead c r 2 a 0 true) s * m a + (perF N c r m 3 a s + perF N c r m 4 a s)
def tot (N c : Nat) (r : Nat → Nat → Nat) (m : Nat → Nat) (s : Nat) : Nat :=
  (ind (lead c r 0 0 0 true) s + ind (lead c r 1 0 0 true) s) + sm (2 ^ N) (fun a => perA N c r m a s)
def pr2 (c : Nat) (r : Nat → Nat → Nat) (m : Nat → Nat) (f a b s : Nat) : Nat :=
  (if a = b then ind (lead c r f a b true) s * m a else 0) + ind (lead c r f a b false) s * (m a * m b - (if a = b then m a else 0))
theorem pr2_sum {N c : Nat} {r : Nat → Nat → Nat} {m : Nat → Nat} {f a s : Nat} (ha : a < 2 ^ N) : sm (2 ^ N) (fun b => pr2 c r m f a b s) = perF N c r m f a s := by
  unfold pr2 perF
  rw [sm_add]
  congr 1
  · rw [← sm_one (a := a) (x := ind (lead c r f a a true) s * m a) (2 ^ N) ha]
    exact sm_congr _ (fun b _ => by by_cases e : a = b <;> simp [e])
  · refine sm_congr _ (fun b _ => ?_)
    by_cases e : a = b
    · subst e
      simp [Nat.mul_sub_one]
    · simp [e]
theorem tot_class {N c : Nat} {r : Nat → Nat → Nat} {m : Nat → Nat} {s : Nat} :
    ((ind (lead c r 0 0 0 true) s + ind (lead c r 1 0 0 true) s) + sm (2 ^ N) (fun a => ind (lead c r 2 a 0 true) s * m a)) + sm (2 ^ N) (fun a => sm (2 ^ N) (fun b => pr2 c r m 3 a b s + pr2 c r m 4 a b s)) = tot N c r m s := by
  unfold tot perA
  rw [sm_add, Nat.add_assoc]
  congr 2
  exact sm_congr _ (fun a ha => by rw [sm_add, pr2_sum ha, pr2_sum ha])
def FST (N c : Nat) (r : Nat → Nat → Nat) (m : Nat → Nat) (s : Nat) : Nat := min 2 (tot N c r m s)
def MM (N c : Nat) (r : Nat → Nat → Nat) : Nat → Nat → Nat
  | 0, _ => 0
  | k + 1, s => FST N c r (MM N c r k) s
theorem tot_mono {N c : Nat} {r : Nat → Nat → Nat} {m m' : Nat → Nat} (h : ∀ a, a < 2 ^ N → m a ≤ m' a) (s : Nat) : tot N c r m s ≤ tot N c r m' s := by
  unfold tot perA perF
  refine Nat.add_le_add_left (sm_mono _ (fun a ha => ?_)) _
  have ha' := h a ha
  have pf : ∀ f, ind (lead c r f a a true) s * m a + sm (2 ^ N) (fun b => ind (lead c r f a b false) s * (if a = b then m a * (m a - 1) else m a * m b)) ≤ ind (lead c r f a a true) s * m' a + sm (2 ^ N) (fun b => ind (lead c r f a b false) s * (if a = b then m' a * (m' a - 1) else m' a * m' b)) := by
    intro f
    refine Nat.add_le_add (Nat.mul_le_mul_left _ ha') (sm_mono _ (fun b hb => Nat.mul_le_mul_left _ ?_))
    by_cases e : a = b
    · simp only [e, if_true]
      rw [e] at ha'
      exact Nat.mul_le_mul ha' (Nat.sub_le_sub_right ha' 1)
    · simp only [e, if_false]
      exact Nat.mul_le_mul ha' (h b hb)
  exact Nat.add_le_add (Nat.mul_le_mul_left _ ha') (Nat.add_le_add (pf 3) (pf 4))
theorem MM_le2 {N c : Nat} {r : Nat → Nat → Nat} : ∀ k s, MM N c r k s ≤ 2
  | 0, _ => Nat.zero_le _
  | k + 1, s => Nat.min_le_left _ _
theorem MM_mono1 {N c : Nat} {r : Nat → Nat → Nat} : ∀ k s, MM N c r k s ≤ MM N c r (k + 1) s
  | 0, _ => Nat.zero_le _
  | k + 1, s => by
    show min 2 _ ≤ min 2 _
    have := tot_mono (N := N) (c := c) (r := r) (m := MM N c r k) (m' := MM N c r (k + 1)) (fun a _ => MM_mono1 k a) s
    omega
theorem MM_mono {N c : Nat} {r : Nat → Nat → Nat} (k s : Nat) : ∀ d, MM N c r k s ≤ MM N c r (k + d) s
  | 0 => Nat.le_refl _
  | d + 1 => Nat.le_trans (MM_mono k s d) (MM_mono1 (k + d) s)
def FIX (N c : Nat) (r : Nat → Nat → Nat) (k : Nat) : Prop := ∀ s, s < 64 → MM N c r (k + 1) s = MM N c r k s
theorem tot_congr {N c : Nat} {r : Nat → Nat → Nat} {m m' : Nat → Nat} (h : ∀ a, a < 2 ^ N → m a = m' a) (s : Nat) : tot N c r m s = tot N c r m' s :=
  Nat.le_antisymm (tot_mono (fun a ha => Nat.le_of_eq (h a ha)) s) (tot_mono (fun a ha => Nat.le_of_eq (h a ha).symm) s)
theorem FIX_on {N c : Nat} {r : Nat → Nat → Nat} (hN : N ≤ 6) {k : Nat} (h : FIX N c r k) : ∀ d s, s < 64 → MM N c r (k + d) s = MM N c r k s
  | 0, _, _ => rfl
  | d + 1, s, hs => by
    rw [← h s hs]
    show min 2 (tot N c r (MM N c r (k + d)) s) = min 2 (tot N c r (MM N c r k) s)
    have := n64 hN
    rw [tot_congr (fun a ha => FIX_on hN h d a (by omega)) s]
theorem FIX_eq {N c : Nat} {r : Nat → Nat → Nat} (hN : N ≤ 6) {k k' : Nat} (h : FIX N c r k) (h' : FIX N c r k') {s : Nat} (hs : s < 64) : MM N c r k s = MM N c r k' s := by
  rcases Nat.le_total k k' with e | e
  · obtain ⟨d, rfl⟩ := Nat.exists_eq_add_of_le e
    exact (FIX_on hN h d s hs).symm
  · obtain ⟨d, rfl⟩ := Nat.exists_eq_add_of_le e
    exact FIX_on hN h' d s hs
theorem SS_le {N c : Nat} {r : Nat → Nat → Nat} (k : Nat) : sm 64 (MM N c r k) ≤ 128 := sm_le 64 (fun i _ => MM_le2 k i)
theorem SS_grow {N c : Nat} {r : Nat → Nat → Nat} {k : Nat} (h : ∃ s, s < 64 ∧ MM N c r (k + 1) s ≠ MM N c r k s) : sm 64 (MM N c r k) < sm 64 (MM N c r (k + 1)) := by
  obtain ⟨s, hs, hne⟩ := h
  exact sm_lt 64 (fun i _ => MM_mono1 k i) ⟨s, hs, fun e => hne e.symm⟩
theorem ind_ne {x s : Nat} (h : x ≠ s) : ind x s = 0 := if_neg h
theorem tot_out {N c : Nat} {r : Nat → Nat → Nat} (hV : VB N c r) {m : Nat → Nat} {s : Nat} (hs : 2 ^ N ≤ s) : tot N c r m s = 0 := by
  have z : ∀ f a b same, ind (lead c r f a b same) s = 0 := fun f a b same => ind_ne (by have := lead_lt hV f a b same; omega)
  have h1 : ∀ a, perA N c r m a s = 0 := by
    intro a
    unfold perA perF
    rw [z, z, z, sm_zero _ (fun b _ => by rw [z]; simp), sm_zero _ (fun b _ => by rw [z]; simp)]
    simp
  unfold tot
  rw [z, z, sm_zero _ (fun a _ => h1 a)]
theorem MM_out {N c : Nat} {r : Nat → Nat → Nat} (hV : VB N c r) {s : Nat} (hs : 2 ^ N ≤ s) : ∀ k, MM N c r k s = 0
  | 0 => rfl
  | k + 1 => by
    show min 2 (tot _ _ _ _ s) = 0
    rw [tot_out hV hs]
    rfl
/-- numbers that are counted up to two -/
def AC (L : Nat) (g : Nat → Int32) (T : Nat → Nat) : Prop := ∀ s, s < L → g s = nI (min 2 (T s))
theorem AC.congr {L : Nat} {g : Nat → Int32} {T T' : Nat → Nat} (h : AC L g T) (e : ∀ s, s < L → T s = T' s) : AC L g T' := fun s hs => by rw [h s hs, e s hs]
theorem AC.add {L : Nat} {g : Nat → Int32} {T : Nat → Nat} (h : AC L g T) {x n : Nat} : AC L (upd g x (nI (min 2 (min 2 (T x) + n)))) (fun s => T s + ind x s * n) := by
  intro s hs
  by_cases e : s = x
  · subst e
    rw [pk_us]
    show nI _ = nI (min 2 (T s + ind s s * n))
    rw [show ind s s = 1 from if_pos rfl]
    congr 1
    omega
  · rw [pk_un e, h s hs]
    show nI _ = nI (min 2 (T s + ind x s * n))
    rw [ind_ne (fun q => e q.symm)]
    simp
theorem s0_raise {T : Nat → Nat} {x n : Nat} {z : CS} (hx : x < 64) (hn : n ≤ 4) (hA : AC 64 (z 0) T) {post : CS → Prop} (h : ∀ z', (∀ k, k ≠ 0 → z' k = z k) → AC 64 (z' 0) (fun s => T s + ind x s * n) → post z') : qX0_raise post (nI x) (nI n) z := by
  have ix : vp_in (nI x) 64 := vp_in_nI hx (by decide)
  refine ⟨ix, ix, ?_⟩
  rw [nI_clamp (by omega), hA x hx, nI_add]
  have e : (if (2 : Int32) < nI (min 2 (T x) + n) then (2 : Int32) else nI (min 2 (T x) + n)) = nI (min 2 (min 2 (T x) + n)) := by
    by_cases q : 2 < min 2 (T x) + n
    · rw [if_pos (show (2 : Int32) < _ from nI_lt (a := 2) (b := min 2 (T x) + n) q (by omega)), Nat.min_eq_left (by omega : 2 ≤ min 2 (T x) + n)]
      rfl
    · rw [if_neg (show ¬ (2 : Int32) < _ from nI_nlt (a := 2) (b := min 2 (T x) + n) (by omega) (by omega)), Nat.min_eq_right (by omega : min 2 (T x) + n ≤ 2)]
  rw [e]
  refine h _ (fun k hk => st_n _ _ _ hk) ?_
  rw [st_s]
  exact hA.add
theorem s7_puts {L : Nat} {T : Nat → Nat} {x n : Nat} {z : CS} (hL : L ≤ 64) (hx : x < L) (hn : n ≤ 4) (hA : AC L (z 10) T) {post : CS → Prop} (h : ∀ z', (∀ k, k ≠ 10 → z' k = z k) → AC L (z' 10) (fun s => T s + ind x s * n) → post z') : qX7_puts post (nI x) (nI n) z := by
  have ix : vp_in (nI x) 64 := vp_in_nI (by omega) (by decide)
  refine ⟨ix, ?_⟩
  rw [nI_clamp (by omega), hA x hx, nI_add]
  have fin : ∀ v, v = nI (min 2 (min 2 (T x) + n)) → qX7_puts_29 post (nI x) (nI n) (nI x) v z := by
    intro v hv
    refine ⟨ix, ?_⟩
    rw [nI_clamp (by omega), hv]
    refine h _ (fun k hk => st_n _ _ _ hk) ?_
    rw [st_s]
    exact hA.add
  refine pk_le (min 2 (T x) + n) 2 (fun q => ⟨ix, fin _ ?_⟩) (fun q => fin _ ?_) rfl rfl
  · rw [Nat.min_eq_right (by omega : min 2 (T x) + n ≤ 2)]
  · rw [Nat.min_eq_left (by omega : 2 ≤ min 2 (T x) + n)]
    rfl
