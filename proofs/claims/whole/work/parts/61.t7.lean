/-! ===== the reference's table of trees ===== -/
theorem TZ_of {t k : Nat} (ht : t < 2278) (h1 : 1 ≤ k) (h7 : k ≤ 7) (a : SA k ≤ t) (b : t < SA (k + 1)) : TZ t = k := by
  obtain ⟨-, -, -, z1, z7, s1, s2, -⟩ := tabF ht
  rcases Nat.lt_trichotomy (TZ t) k with q | q | q
  · have := SA_mono (TZ t + 1) (by omega) k (by omega) (by omega); omega
  · exact q
  · have := SA_mono (k + 1) (by omega) (TZ t) (by omega) (by omega); omega
def FRN (z : CS) : Prop := (∀ j, 6 ≤ j → j ≠ 11 → z j = z0 j) ∧ z 11 1 = nI 2 ∧ z 11 2 = nI 0
def TN (z : CS) (m q : Nat) : Prop := z 11 0 = nI m ∧ (∀ t, t < m → z 0 t = nI (TS t) ∧ z 1 t = nI (TA t) ∧ z 2 t = nI (TB t) ∧ z 3 t = nI (TZ t) ∧ z 4 t = nI (TH t)) ∧ (∀ k, k < q → z 5 k = nI (SA k)) ∧ FRN z
theorem e7_lays {z : CS} {m : Nat} (hz : z 11 0 = nI m) (hm : m < 2278) {x1 x2 x3 x4 x5 : Int32} {post : CS → Prop} (h : post (st (st (st (st (st (st z 0 m x1) 1 m x2) 2 m x3) 3 m x4) 4 m x5) 11 0 (nI (m + 1)))) : qX7_lays post x1 x2 x3 x4 x5 z := by
  have n0 : ∀ (b : CS) (i : Nat) (x : Int32), st b 0 i x 11 = b 11 := fun b i x => st_n b i x (by decide)
  have n1 : ∀ (b : CS) (i : Nat) (x : Int32), st b 1 i x 11 = b 11 := fun b i x => st_n b i x (by decide)
  have n2 : ∀ (b : CS) (i : Nat) (x : Int32), st b 2 i x 11 = b 11 := fun b i x => st_n b i x (by decide)
  have n3 : ∀ (b : CS) (i : Nat) (x : Int32), st b 3 i x 11 = b 11 := fun b i x => st_n b i x (by decide)
  have n4 : ∀ (b : CS) (i : Nat) (x : Int32), st b 4 i x 11 = b 11 := fun b i x => st_n b i x (by decide)
  have hc : (nI m).toNatClampNeg = m := nI_clamp (by omega)
  have hv : vp_in (nI m) 2278 := vp_in_nI hm (by decide)
  unfold qX7_lays
  simp only [n0, n1, n2, n3, n4, hz, hc, nI_1]
  exact ⟨hv, hv, hv, hv, hv, h⟩
theorem s7_lays {z : CS} {m q : Nat} (hT : TN z m q) (hm : m < 2278) {post : CS → Prop} (h : ∀ z', TN z' (m + 1) q → post z') : qX7_lays post (nI (TS m)) (nI (TA m)) (nI (TB m)) (nI (TZ m)) (nI (TH m)) z := by
  refine e7_lays hT.1 hm (h _ ⟨?_, fun t ht => ⟨?_, ?_, ?_, ?_, ?_⟩, fun k hk => ?_, ?_, ?_, ?_⟩)
  · rw [st_s]; exact pk_us
  · rw [st_n _ _ _ (by decide), st_n _ _ _ (by decide), st_n _ _ _ (by decide), st_n _ _ _ (by decide), st_n _ _ _ (by decide), st_s]
    by_cases e : t = m
    · subst e; exact pk_us
    · rw [pk_un e]; exact (hT.2.1 t (by omega)).1
  · rw [st_n _ _ _ (by decide), st_n _ _ _ (by decide), st_n _ _ _ (by decide), st_n _ _ _ (by decide), st_s, st_n _ _ _ (by decide)]
    by_cases e : t = m
    · subst e; exact pk_us
    · rw [pk_un e]; exact (hT.2.1 t (by omega)).2.1
  · rw [st_n _ _ _ (by decide), st_n _ _ _ (by decide), st_n _ _ _ (by decide), st_s, st_n _ _ _ (by decide), st_n _ _ _ (by decide)]
    by_cases e : t = m
    · subst e; exact pk_us
    · rw [pk_un e]; exact (hT.2.1 t (by omega)).2.2.1
  · rw [st_n _ _ _ (by decide), st_n _ _ _ (by decide), st_s, st_n _ _ _ (by decide), st_n _ _ _ (by decide), st_n _ _ _ (by decide)]
    by_cases e : t = m
    · subst e; exact pk_us
    · rw [pk_un e]; exact (hT.2.1 t (by omega)).2.2.2.1
  · rw [st_n _ _ _ (by decide), st_s, st_n _ _ _ (by decide), st_n _ _ _ (by decide), st_n _ _ _ (by decide), st_n _ _ _ (by decide)]
    by_cases e : t = m
    · subst e; exact pk_us
    · rw [pk_un e]; exact (hT.2.1 t (by omega)).2.2.2.2
  · rw [st_n _ _ _ (by decide), st_n _ _ _ (by decide), st_n _ _ _ (by decide), st_n _ _ _ (by decide), st_n _ _ _ (by decide), st_n _ _ _ (by decide)]
    exact hT.2.2.1 k hk
  · intro j h6 h11
    rw [st_n _ _ _ h11, st_n _ _ _ (by omega), st_n _ _ _ (by omega), st_n _ _ _ (by omega), st_n _ _ _ (by omega), st_n _ _ _ (by omega)]
    exact hT.2.2.2.1 j h6 h11
  · rw [st_s, pk_un (by decide), st_n _ _ _ (by decide), st_n _ _ _ (by decide), st_n _ _ _ (by decide), st_n _ _ _ (by decide), st_n _ _ _ (by decide)]
    exact hT.2.2.2.2.1
  · rw [st_s, pk_un (by decide), st_n _ _ _ (by decide), st_n _ _ _ (by decide), st_n _ _ _ (by decide), st_n _ _ _ (by decide), st_n _ _ _ (by decide)]
    exact hT.2.2.2.2.2
theorem TN.beg {z : CS} {m q : Nat} (hT : TN z m q) (hm : m = SA q) : TN (st z 5 q (z 11 0)) m (q + 1) := by
  obtain ⟨h1, h2, h3, h4, h5, h6⟩ := hT
  refine ⟨by rw [st_n _ _ _ (by decide)]; exact h1, fun t ht => ?_, fun k hk => ?_, fun j j6 j11 => ?_, by rw [st_n _ _ _ (by decide)]; exact h5, by rw [st_n _ _ _ (by decide)]; exact h6⟩
  · rw [st_n _ _ _ (by decide), st_n _ _ _ (by decide), st_n _ _ _ (by decide), st_n _ _ _ (by decide), st_n _ _ _ (by decide)]
    exact h2 t ht
  · rw [st_s]
    by_cases e : k = q
    · subst e; rw [pk_us, h1, hm]
    · rw [pk_un e]; exact h3 k (by omega)
  · rw [st_n _ _ _ (by omega)]; exact h4 j j6 j11
theorem s7_grows {z : CS} {n : Nat} (h2 : 2 ≤ n) (h7 : n ≤ 7) (hu : uck n = true) (he : SA (n - 1) + cnS (n - 1) = SA n) (hl : SA n + cnS (n - 1) ≤ 2278) (hb3 : bck n 3 (mid n) (SA (n - 1)) 0 (SA n + cnS (n - 1)) = true) (hb4 : bck n 4 (SA (n + 1)) (SA (n - 1)) 0 (mid n) = true) (hT : TN z (SA n) (n + 1)) {post : CS → Prop} (h : ∀ z', TN z' (SA (n + 1)) (n + 1) → post z') : qX7_grows post (nI n) z := by
  have s2 := SA_lt n (by omega)
  have e1 : nI n - 1 = nI (n - 1) := pk_sub (b := 1) (by omega)
  -- one symbol's trees
  have bin : ∀ (f ee : Nat) (k43 : Int32 → Int32 → CS → Prop), arN f = 2 → (∀ z', TN z' ee (n + 1) → k43 (nI (SA n)) (nI (f + 1)) z') → ∀ d a m (z : CS), bck n f ee d a m = true → SA n ≤ m → TN z m (n + 1) → qX7_grows_51 post (nI n) k43 (d + (SA n - SA (n - 1)) + 1) (nI (SA n)) (nI f) (nI a) z := by
    intro f ee k43 hf hk43 d
    induction d with
    | zero =>
      intro a m z hk hSm hT
      unfold bck at hk
      simp only [Bool.and_eq_true, decide_eq_true_eq] at hk
      obtain ⟨k1, k2⟩ := hk
      -- those of the size before: nothing is left for a second child
      have skip : ∀ d' a, a + d' = SA n → SA (n - 1) ≤ a → qX7_grows_51 post (nI n) k43 (d' + 1) (nI (SA n)) (nI f) (nI a) z := by
        intro d'
        induction d' with
        | zero =>
          intro a ha hge
          show qX7_grows_51b post (nI n) k43 (qX7_grows_51 post (nI n) k43 0) (nI (SA n)) (nI f) (nI a) z
          unfold qX7_grows_51b
          refine pk_le (SA n) a (fun _ => ?_) (fun q => absurd q (by omega)) rfl rfl
          rw [nI_1]
          exact hk43 z (by rw [← k2]; exact hT)
        | succ d' ih' =>
          intro a ha hge
          show qX7_grows_51b post (nI n) k43 (qX7_grows_51 post (nI n) k43 (d' + 1)) (nI (SA n)) (nI f) (nI a) z
          unfold qX7_grows_51b
          refine pk_le (SA n) a (fun q => absurd q (by omega)) (fun _ => ?_) rfl rfl
          have tz : TZ a = n - 1 := TZ_of (by omega) (by omega) (by omega) hge (by rw [show n - 1 + 1 = n by omega]; omega)
          rw [nI_clamp (by omega), (hT.2.1 a (by omega)).2.2.2.1, tz, e1, pk_sub (Nat.le_refl _), Nat.sub_self]
          refine ⟨vp_in_nI (by omega) (by decide), br_t (by decide) ⟨1, ?_⟩⟩
          show qX7_grows_88b post (nI n) k43 (qX7_grows_51 post (nI n) k43 (d' + 1)) (qX7_grows_88 post (nI n) k43 (qX7_grows_51 post (nI n) k43 (d' + 1)) 0) (nI (SA n)) (nI f) (nI a) (nI 0) (nI (SA n)) z
          unfold qX7_grows_88b qX7_grows_158
          rw [show nI a + 1 = nI (a + 1) from nI_1 a]
          exact br_t (Int32.le_refl _) (ih' (a + 1) (by omega) (by omega))
      have := skip (SA n - SA (n - 1)) (SA (n - 1)) (by omega) (Nat.le_refl _)
      rw [k1, Nat.zero_add]
      exact this
    | succ d ih =>
      intro a m z hk hSm hT
      unfold bck at hk
      simp only [Bool.and_eq_true, decide_eq_true_eq] at hk
      obtain ⟨⟨k1, k2, k3, k4⟩, k5⟩ := hk
      rw [List.all_eq_true] at k4
      obtain ⟨-, -, -, z1, -⟩ := tabF (show a < 2278 by omega)
      have sm1 := SA_mono (n - 1 - TZ a) (by omega) (n - 1 - TZ a + 1) (by omega) (by omega)
      have sm2 := SA_mono (n - 1 - TZ a + 1) (by omega) (n - 1) (by omega) (by omega)
      have hc : cnS (n - 1 - TZ a) = SA (n - 1 - TZ a + 1) - SA (n - 1 - TZ a) := rfl
      rw [show d + 1 + (SA n - SA (n - 1)) + 1 = (d + (SA n - SA (n - 1)) + 1) + 1 by omega]
      show qX7_grows_51b post (nI n) k43 (qX7_grows_51 post (nI n) k43 (d + (SA n - SA (n - 1)) + 1)) (nI (SA n)) (nI f) (nI a) z
      unfold qX7_grows_51b
      refine pk_le (SA n) a (fun q => absurd q (by omega)) (fun _ => ?_) rfl rfl
      rw [nI_clamp (by omega), (hT.2.1 a (by omega)).2.2.2.1, e1, pk_sub (by omega)]
      refine ⟨vp_in_nI (by omega) (by decide), br_f (nI_nle (by omega) (by omega)) ⟨vp_in_nI (by omega) (by decide), ?_⟩⟩
      rw [nI_clamp (by omega), hT.2.2.1 (n - 1 - TZ a) (by omega)]
      refine ⟨cnS (n - 1 - TZ a) + 1, ?_⟩
      have inner : ∀ d' b (z : CS), b + d' = cnS (n - 1 - TZ a) → TN z (m + b) (n + 1) → qX7_grows_88 post (nI n) k43 (qX7_grows_51 post (nI n) k43 (d + (SA n - SA (n - 1)) + 1)) (d' + 1) (nI (SA n)) (nI f) (nI a) (nI (n - 1 - TZ a)) (nI (SA (n - 1 - TZ a) + b)) z := by
        intro d'
        induction d' with
        | zero =>
          intro b z hd hT
          show qX7_grows_88b post (nI n) k43 (qX7_grows_51 post (nI n) k43 (d + (SA n - SA (n - 1)) + 1)) (qX7_grows_88 post (nI n) k43 (qX7_grows_51 post (nI n) k43 (d + (SA n - SA (n - 1)) + 1)) 0) (nI (SA n)) (nI f) (nI a) (nI (n - 1 - TZ a)) (nI (SA (n - 1 - TZ a) + b)) z
          have go : qX7_grows_51 post (nI n) k43 (d + (SA n - SA (n - 1)) + 1) (nI (SA n)) (nI f) (nI (a + 1)) z := ih (a + 1) (m + cnS (n - 1 - TZ a)) z k5 (by omega) (by rw [show cnS (n - 1 - TZ a) = b by omega]; exact hT)
          unfold qX7_grows_88b qX7_grows_158
          rw [show nI a + 1 = nI (a + 1) from nI_1 a]
          refine pk_le (SA n) (SA (n - 1 - TZ a) + b) (fun _ => go) (fun q => ⟨vp_in_nI (by omega) (by decide), ?_⟩) rfl rfl
          obtain ⟨-, -, -, -, w7, w1, w2, -⟩ := tabF (show SA (n - 1 - TZ a) + b < 2278 by omega)
          rw [nI_clamp (by omega), (hT.2.1 (SA (n - 1 - TZ a) + b) (by omega)).2.2.2.1]
          refine pk_eq (TZ (SA (n - 1 - TZ a) + b)) (n - 1 - TZ a) (fun q2 => ?_) (fun _ => go) rfl rfl
          rw [q2] at w2
          omega
        | succ d' ih' =>
          intro b z hd hT
          show qX7_grows_88b post (nI n) k43 (qX7_grows_51 post (nI n) k43 (d + (SA n - SA (n - 1)) + 1)) (qX7_grows_88 post (nI n) k43 (qX7_grows_51 post (nI n) k43 (d + (SA n - SA (n - 1)) + 1)) (d' + 1)) (nI (SA n)) (nI f) (nI a) (nI (n - 1 - TZ a)) (nI (SA (n - 1 - TZ a) + b)) z
          have tb : TZ (SA (n - 1 - TZ a) + b) = n - 1 - TZ a := TZ_of (by omega) (by omega) (by omega) (by omega) (by omega)
          have hb := k4 b (List.mem_range.mpr (by omega))
          simp only [Bool.and_eq_true, decide_eq_true_eq] at hb
          obtain ⟨b1, b2, b3⟩ := hb
          have hm : m + b < 2278 := by omega
          obtain ⟨-, -, -, -, -, -, -, -, g⟩ := tabF hm
          have ta := (tabF (show a < 2278 by omega)).2.2.2.2.2.2.2.1
          have tbb := (tabF (show SA (n - 1 - TZ a) + b < 2278 by omega)).2.2.2.2.2.2.2.1
          rw [b1, b2, b3] at g
          have hg : TZ (m + b) = n ∧ TH (m + b) = 1 + (if TH a < TH (SA (n - 1 - TZ a) + b) then TH (SA (n - 1 - TZ a) + b) else TH a) := by
            rcases g with g | g | g
            · exact absurd g.1 (by rw [hf]; decide)
            · exact absurd g.1 (by rw [hf]; decide)
            · exact ⟨by rw [g.2.2.2.1, tb]; omega, g.2.2.2.2⟩
          have lay := fun (P : CS → Prop) hP => s7_lays (post := P) hT hm hP
          rw [b1, b2, b3, hg.1] at lay
          unfold qX7_grows_88b qX7_grows_158 qX7_grows_147
          refine pk_le (SA n) (SA (n - 1 - TZ a) + b) (fun q => absurd q (by omega)) (fun _ => ⟨vp_in_nI (by omega) (by decide), ?_⟩) rfl rfl
          rw [nI_clamp (show SA (n - 1 - TZ a) + b < 2 ^ 31 by omega), nI_clamp (show a < 2 ^ 31 by omega), (hT.2.1 (SA (n - 1 - TZ a) + b) (by omega)).2.2.2.1, (hT.2.1 (SA (n - 1 - TZ a) + b) (by omega)).2.2.2.2, (hT.2.1 a (by omega)).2.2.2.2, tb]
          refine br_t rfl ⟨vp_in_nI (by omega) (by decide), vp_in_nI (by omega) (by decide), pk_le (TH a) (TH (SA (n - 1 - TZ a) + b)) (fun q => ⟨vp_in_nI (by omega) (by decide), ?_⟩) (fun q => ⟨vp_in_nI (by omega) (by decide), ?_⟩) rfl rfl⟩
          · rw [show nI (TH (SA (n - 1 - TZ a) + b)) + 1 = nI (TH (m + b)) by rw [nI_1, hg.2]; congr 1; split <;> omega]
            refine lay _ (fun z' hT' => ?_)
            rw [nI_1]
            exact ih' (b + 1) z' (by omega) hT'
          · rw [show nI (TH a) + 1 = nI (TH (m + b)) by rw [nI_1, hg.2]; congr 1; split <;> omega]
            refine lay _ (fun z' hT' => ?_)
            rw [nI_1]
            exact ih' (b + 1) z' (by omega) hT'
      exact inner (cnS (n - 1 - TZ a)) 0 z (by omega) hT
  -- the symbols 3 and 4
  have sym : ∀ z, TN z (SA n + cnS (n - 1)) (n + 1) → qX7_grows_43 post (nI n) 3 (nI (SA n)) (nI 3) z := by
    intro z hT
    show qX7_grows_43b post (nI n) (qX7_grows_43 post (nI n) 2) (nI (SA n)) (nI 3) z
    refine br_f (by decide) ⟨SA (n - 1) + (SA n - SA (n - 1)) + 1, ?_⟩
    refine bin 3 (mid n) _ rfl (fun z' hT' => ?_) (SA (n - 1)) 0 _ z hb3 (by omega) hT
    show qX7_grows_43b post (nI n) (qX7_grows_43 post (nI n) 1) (nI (SA n)) (nI 4) z'
    refine br_f (by decide) ⟨SA (n - 1) + (SA n - SA (n - 1)) + 1, ?_⟩
    refine bin 4 (SA (n + 1)) _ rfl (fun z'' hT'' => ?_) (SA (n - 1)) 0 _ z' hb4 (by unfold mid; omega) hT'
    show qX7_grows_43b post (nI n) (qX7_grows_43 post (nI n) 0) (nI (SA n)) (nI 5) z''
    exact br_t (by decide) (h z'' hT'')
  -- the unary ones
  unfold uck at hu
  rw [List.all_eq_true] at hu
  have key : ∀ d b (z : CS), b + d = cnS (n - 1) → TN z (SA n + b) (n + 1) → qX7_grows_14 post (nI n) (d + 1) (nI (SA n)) (nI (SA (n - 1) + b)) z := by
    intro d
    induction d with
    | zero =>
      intro b z hd hT
      show qX7_grows_14b post (nI n) (qX7_grows_14 post (nI n) 0) (nI (SA n)) (nI (SA (n - 1) + b)) z
      unfold qX7_grows_14b
      refine pk_le (SA n) (SA (n - 1) + b) (fun _ => ⟨3, sym z ?_⟩) (fun q => absurd q (by omega)) rfl rfl
      rw [show cnS (n - 1) = b by omega]; exact hT
    | succ d ih =>
      intro b z hd hT
      show qX7_grows_14b post (nI n) (qX7_grows_14 post (nI n) (d + 1)) (nI (SA n)) (nI (SA (n - 1) + b)) z
      unfold qX7_grows_14b
      refine pk_le (SA n) (SA (n - 1) + b) (fun q => absurd q (by omega)) (fun _ => ⟨vp_in_nI (by omega) (by decide), ?_⟩) rfl rfl
      have hb := hu b (List.mem_range.mpr (by omega))
      simp only [Bool.and_eq_true, decide_eq_true_eq] at hb
      obtain ⟨b1, b2, b3⟩ := hb
      have hm : SA n + b < 2278 := by omega
      obtain ⟨-, -, -, -, -, -, -, -, g⟩ := tabF hm
      have tz : TZ (SA (n - 1) + b) = n - 1 := TZ_of (by omega) (by omega) (by omega) (by omega) (by rw [show n - 1 + 1 = n by omega]; omega)
      rw [b1, b2, b3] at g
      have hg : TZ (SA n + b) = n ∧ TH (SA n + b) = 1 + TH (SA (n - 1) + b) := by
        rcases g with g | g | g
        · exact absurd g.1 (by decide)
        · exact ⟨by rw [g.2.2.2.1, tz]; omega, g.2.2.2.2⟩
        · exact absurd g.1 (by decide)
      have lay := fun (P : CS → Prop) hP => s7_lays (post := P) hT hm hP
      rw [b1, b2, b3, hg.1] at lay
      rw [nI_clamp (by omega), (hT.2.1 (SA (n - 1) + b) (by omega)).2.2.2.2, show nI (TH (SA (n - 1) + b)) + 1 = nI (TH (SA n + b)) by rw [nI_1, hg.2, Nat.add_comm]]
      refine lay _ (fun z' hT' => ?_)
      rw [nI_1]
      exact ih (b + 1) z' (by omega) hT'
  unfold qX7_grows
  rw [e1, nI_clamp (by omega), hT.1, hT.2.2.1 (n - 1) (by omega)]
  exact ⟨vp_in_nI (by omega) (by decide), cnS (n - 1) + 1, key (cnS (n - 1)) 0 z (by omega) hT⟩
theorem s7_init {post : CS → Prop} (h : ∀ z, RTN z → FRN z → post z) : qX7_init post (st z0 11 1 2) := by
  have key : ∀ d n (z : CS), 2 ≤ n → n + d = 8 → TN z (SA n) n → qX7_init_106 post (d + 1) (nI n) z := by
    intro d
    induction d with
    | zero =>
      intro n z h2 hd hT
      have e : n = 8 := by omega
      subst e
      have hB := hT.beg rfl
      exact br_t (by decide) ⟨vp_in_nI (n := 8) (by omega) (by decide), h _ ⟨fun t ht => hB.2.1 t ht, fun k hk => hB.2.2.1 k hk⟩ hB.2.2.2⟩
    | succ d ih =>
      intro n z h2 hd hT
      have ck := List.all_eq_true.mp ck_all n (List.mem_range.mpr (by omega))
      simp only [Bool.and_eq_true, Bool.or_eq_true, decide_eq_true_eq] at ck
      rcases ck with ck | ⟨k1, k2, k3, k4, k5⟩
      · omega
      · show qX7_init_106b post (qX7_init_106 post (d + 1)) (nI n) z
        unfold qX7_init_106b
        refine br_f (show ¬ (8 : Int32) ≤ nI n from nI_ge (b := 8) (by omega) (by decide)) ⟨vp_in_nI (by omega) (by decide), pk_eq n 1 (fun q => absurd q (by omega)) (fun _ => ?_) rfl rfl⟩
        rw [nI_clamp (by omega)]
        refine s7_grows h2 (by omega) k1 k2 k3 k4 k5 (hT.beg rfl) (fun z' hT' => ?_)
        unfold qX7_init_153
        rw [nI_1]
        exact ih (n + 1) z' (by omega) (by omega) hT'
  refine ⟨8, ?_⟩
  show qX7_init_106b post (qX7_init_106 post 7) 1 (st z0 11 1 2)
  have t0 : TN (st z0 11 1 2) 0 1 := by
    refine ⟨rfl, fun t ht => absurd ht (by omega), fun k hk => ?_, fun j j6 j11 => st_n _ _ _ j11, rfl, rfl⟩
    have e : k = 0 := by omega
    subst e; rfl
  refine br_f (by decide) ⟨vp_in_nI (n := 1) (by omega) (by decide), br_t rfl ?_⟩
  have t1 := t0.beg rfl
  have m0 := fun (P : CS → Prop) hP => s7_lays (post := P) t1 (by omega) hP
  rw [show TS 0 = 0 by decide, show TA 0 = 0 by decide, show TB 0 = 0 by decide, show TZ 0 = 1 by decide, show TH 0 = 0 by decide] at m0
  refine m0 _ (fun z1 t2 => ?_)
  have m1 := fun (P : CS → Prop) hP => s7_lays (post := P) t2 (by omega) hP
  rw [show TS (0 + 1) = 1 by decide, show TA (0 + 1) = 0 by decide, show TB (0 + 1) = 0 by decide, show TZ (0 + 1) = 1 by decide, show TH (0 + 1) = 0 by decide] at m1
  refine m1 _ (fun z2 t3 => ?_)
  exact key 6 2 z2 (by omega) (by omega) t3
