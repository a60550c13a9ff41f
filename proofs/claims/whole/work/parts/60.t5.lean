/-! ===== the class's table of trees ===== -/
def TI (z : CS) (m : Nat) : Prop := z 2 0 = nI m ∧ ∀ t, t < m → z 0 t = nI (CN t) ∧ z 1 t = nI (TH t)
theorem s5_make {z : CS} {m : Nat} (hT : TI z m) (hm : m < 2278) {post : CS → Prop} (h : ∀ z', TI z' (m + 1) → post z') : qX5_make post (nI (TS m)) (nI (TA m)) (nI (TB m)) z := by
  obtain ⟨f1, f2, f3, -, -, -, -, f8, f9⟩ := tabF hm
  unfold qX5_make
  rw [hT.1, s5_content f1 (by omega) (by omega), nI_clamp (show m < 2 ^ 31 by omega)]
  refine br_f (show ¬ (2278 : Int32) ≤ nI m from nI_ge hm (by decide)) ⟨vp_in_nI hm (by decide), vp_in_nI f1 (by decide), ?_⟩
  rw [st_n z m _ (show 2 ≠ 0 by decide), hT.1, st_n z m _ (show 1 ≠ 0 by decide), xar_nI _ f1]
  have key : ∀ w, w = nI (TH m) → qX5_make_62 post (nI (TS m)) (nI (TA m)) (nI (TB m)) (nI m) w (st z 0 m (nI ((TS m * 1024 + TA m) * 1024 + TB m))) := by
    intro w hw
    refine ⟨vp_in_nI hm (by decide), h _ ⟨?_, fun t ht => ⟨?_, ?_⟩⟩⟩
    · rw [st_s, pk_us, st_n _ _ _ (by decide), st_n _ _ _ (by decide), hT.1, nI_1]
    · rw [st_n _ _ _ (by decide), st_n _ _ _ (by decide), st_s]
      by_cases e : t = m
      · subst e; exact pk_us
      · rw [pk_un e]; exact (hT.2 t (by omega)).1
    · rw [st_n _ _ _ (by decide), st_s, st_n _ _ _ (by decide), nI_clamp (by omega), hw]
      by_cases e : t = m
      · subst e; exact pk_us
      · rw [pk_un e]; exact (hT.2 t (by omega)).2
  refine pk_eq (arN (TS m)) 0 (fun q => ?_) (fun q => ?_) rfl rfl (by have := arN_le (TS m); omega) (by omega)
  · rcases f9 with f9 | f9 | f9
    · exact key _ (by rw [f9.2.2.2.2]; rfl)
    · omega
    · omega
  · refine ⟨vp_in_nI (by omega) (by decide), vp_in_nI (by omega) (by decide), key _ ?_⟩
    rw [nI_clamp (by omega), nI_clamp (by omega)]
    rcases f9 with f9 | f9 | f9
    · omega
    · obtain ⟨-, g1, g2, -, g4⟩ := f9
      have b := (tabF (show TA m < 2278 by omega)).2.2.2.2.2.2.2.1
      rw [g2, (hT.2 (TA m) g1).2, (hT.2 0 (by omega)).2, show TH 0 = 0 by decide, if_neg (nI_nlt (Nat.zero_le _) (by omega)), show (1 : Int32) + nI (TH (TA m)) = nI (1 + TH (TA m)) from nI_add 1 _, g4]
    · obtain ⟨-, g1, g2, -, g4⟩ := f9
      have b1 := (tabF (show TA m < 2278 by omega)).2.2.2.2.2.2.2.1
      have b2 := (tabF (show TB m < 2278 by omega)).2.2.2.2.2.2.2.1
      rw [(hT.2 (TA m) g1).2, (hT.2 (TB m) g2).2, g4]
      by_cases e : TH (TA m) < TH (TB m)
      · rw [if_pos (nI_lt e (by omega)), if_pos e]; exact nI_add 1 _
      · rw [if_neg (nI_nlt (by omega) (by omega)), if_neg e]; exact nI_add 1 _
/-- what the loops lay, in their order -/
def uck (n : Nat) : Bool := (List.range (cnS (n - 1))).all (fun b => decide (TS (SA n + b) = 2) && (decide (TA (SA n + b) = SA (n - 1) + b) && decide (TB (SA n + b) = 0)))
def bck (n f e : Nat) : Nat → Nat → Nat → Bool
  | 0, a, m => decide (a = SA (n - 1)) && decide (m = e)
  | d + 1, a, m => (decide (a < SA (n - 1)) && (decide (m + cnS (n - 1 - TZ a) ≤ 2278) && (decide (TZ a ≤ n - 2) && (List.range (cnS (n - 1 - TZ a))).all (fun b => decide (TS (m + b) = f) && (decide (TA (m + b) = a) && decide (TB (m + b) = SA (n - 1 - TZ a) + b)))))) && bck n f e d (a + 1) (m + cnS (n - 1 - TZ a))
def mid (n : Nat) : Nat := SA n + cnS (n - 1) + (SA (n + 1) - SA n - cnS (n - 1)) / 2
theorem ck_all : ((List.range 8).all (fun n => decide (n < 2) || (uck n && (decide (SA (n - 1) + cnS (n - 1) = SA n) && (decide (SA n + cnS (n - 1) ≤ 2278) && (bck n 3 (mid n) (SA (n - 1)) 0 (SA n + cnS (n - 1)) && bck n 4 (SA (n + 1)) (SA (n - 1)) 0 (mid n))))))) = true := by decide +kernel
theorem s5_makeUnary {z : CS} {n : Nat} (h2 : 2 ≤ n) (h7 : n ≤ 7) (hu : uck n = true) (he : SA (n - 1) + cnS (n - 1) = SA n) (hl : SA n + cnS (n - 1) ≤ 2278) (hT : TI z (SA n)) {post : CS → Prop} (h : ∀ z', TI z' (SA n + cnS (n - 1)) → post z') : qX5_makeUnary post (nI n) z := by
  have s2 := SA_lt n (by omega)
  unfold uck at hu
  rw [List.all_eq_true] at hu
  have key : ∀ d b (z : CS), b + d = cnS (n - 1) → TI z (SA n + b) → qX5_makeUnary_8 post (nI n) (d + 1) (nI (SA (n - 1) + b)) z := by
    intro d
    induction d with
    | zero =>
      intro b z hd hT
      show qX5_makeUnary_8b post (nI n) (qX5_makeUnary_8 post (nI n) 0) (nI (SA (n - 1) + b)) z
      unfold qX5_makeUnary_8b
      rw [xst_nI _ (by omega)]
      refine ⟨vp_in_nI (by omega) (by decide), pk_le (SA n) (SA (n - 1) + b) (fun _ => h z ?_) (fun q => absurd q (by omega)) rfl rfl⟩
      rw [show cnS (n - 1) = b by omega]; exact hT
    | succ d ih =>
      intro b z hd hT
      show qX5_makeUnary_8b post (nI n) (qX5_makeUnary_8 post (nI n) (d + 1)) (nI (SA (n - 1) + b)) z
      unfold qX5_makeUnary_8b
      rw [xst_nI _ (by omega)]
      refine ⟨vp_in_nI (by omega) (by decide), pk_le (SA n) (SA (n - 1) + b) (fun q => absurd q (by omega)) (fun _ => ?_) rfl rfl⟩
      have hb := hu b (List.mem_range.mpr (by omega))
      simp only [Bool.and_eq_true, decide_eq_true_eq] at hb
      obtain ⟨b1, b2, b3⟩ := hb
      have mk := fun (P : CS → Prop) hP => s5_make (post := P) hT (by omega) hP
      rw [b1, b2, b3] at mk
      refine mk _ (fun z' hT' => ?_)
      rw [nI_1]
      exact ih (b + 1) z' (by omega) hT'
  unfold qX5_makeUnary
  rw [show nI n - 1 = nI (n - 1) from pk_sub (b := 1) (by omega), xst_nI _ (by omega)]
  exact ⟨vp_in_nI (by omega) (by decide), cnS (n - 1) + 1, key (cnS (n - 1)) 0 z (by omega) hT⟩
theorem s5_makeBinary {z : CS} {n f e m : Nat} (h2 : 2 ≤ n) (h7 : n ≤ 7) (hf : f < 5) (hk : bck n f e (SA (n - 1)) 0 m = true) (hT : TI z m) {post : CS → Prop} (h : ∀ z', TI z' e → post z') : qX5_makeBinary post (nI f) (nI n) z := by
  have s2 := SA_lt (n - 1) (by omega)
  have key : ∀ d a m (z : CS), bck n f e d a m = true → TI z m → qX5_makeBinary_2 post (nI f) (nI n) (d + 1) (nI a) z := by
    intro d
    induction d with
    | zero =>
      intro a m z hk hT
      show qX5_makeBinary_2b post (nI f) (nI n) (qX5_makeBinary_2 post (nI f) (nI n) 0) (nI a) z
      unfold bck at hk
      simp only [Bool.and_eq_true, decide_eq_true_eq] at hk
      obtain ⟨k1, k2⟩ := hk
      unfold qX5_makeBinary_2b
      rw [show nI n - 1 = nI (n - 1) from pk_sub (b := 1) (by omega), xst_nI _ (by omega)]
      refine ⟨vp_in_nI (by omega) (by decide), pk_le (SA (n - 1)) a (fun _ => h z ?_) (fun q => absurd q (by omega)) rfl rfl⟩
      rw [← k2]; exact hT
    | succ d ih =>
      intro a m z hk hT
      show qX5_makeBinary_2b post (nI f) (nI n) (qX5_makeBinary_2 post (nI f) (nI n) (d + 1)) (nI a) z
      unfold bck at hk
      simp only [Bool.and_eq_true, decide_eq_true_eq] at hk
      obtain ⟨⟨k1, k2, k3, k4⟩, k5⟩ := hk
      rw [List.all_eq_true] at k4
      obtain ⟨-, -, -, z1, -⟩ := tabF (show a < 2278 by omega)
      have sm1 := SA_mono (n - 1 - TZ a) (by omega) (n - 1 - TZ a + 1) (by omega) (by omega)
      have sl1 := SA_lt (n - 1 - TZ a + 1) (by omega)
      have hc : cnS (n - 1 - TZ a) = SA (n - 1 - TZ a + 1) - SA (n - 1 - TZ a) := rfl
      unfold qX5_makeBinary_2b
      rw [show nI n - 1 = nI (n - 1) from pk_sub (b := 1) (by omega), xst_nI _ (by omega)]
      refine ⟨vp_in_nI (by omega) (by decide), pk_le (SA (n - 1)) a (fun q => absurd q (by omega)) (fun _ => s6_sizeAt (by omega) ?_) rfl rfl⟩
      rw [pk_sub (by omega), xst_nI _ (by omega)]
      refine ⟨vp_in_nI (by omega) (by decide), cnS (n - 1 - TZ a) + 1, ?_⟩
      have inner : ∀ d' b (z : CS), b + d' = cnS (n - 1 - TZ a) → TI z (m + b) → qX5_makeBinary_31 post (nI f) (nI n) (qX5_makeBinary_2 post (nI f) (nI n) (d + 1)) (d' + 1) (nI a) (nI (n - 1 - TZ a)) (nI (SA (n - 1 - TZ a) + b)) z := by
        intro d'
        induction d' with
        | zero =>
          intro b z hd hT
          show qX5_makeBinary_31b post (nI f) (nI n) (qX5_makeBinary_2 post (nI f) (nI n) (d + 1)) (qX5_makeBinary_31 post (nI f) (nI n) (qX5_makeBinary_2 post (nI f) (nI n) (d + 1)) 0) (nI a) (nI (n - 1 - TZ a)) (nI (SA (n - 1 - TZ a) + b)) z
          unfold qX5_makeBinary_31b
          rw [nI_1, xst_nI _ (by omega)]
          refine ⟨vp_in_nI (by omega) (by decide), pk_le (SA (n - 1 - TZ a + 1)) (SA (n - 1 - TZ a) + b) (fun _ => ?_) (fun q => absurd q (by omega)) rfl rfl⟩
          rw [nI_1]
          exact ih (a + 1) (m + cnS (n - 1 - TZ a)) z k5 (by rw [show cnS (n - 1 - TZ a) = b by omega]; exact hT)
        | succ d' ih' =>
          intro b z hd hT
          show qX5_makeBinary_31b post (nI f) (nI n) (qX5_makeBinary_2 post (nI f) (nI n) (d + 1)) (qX5_makeBinary_31 post (nI f) (nI n) (qX5_makeBinary_2 post (nI f) (nI n) (d + 1)) (d' + 1)) (nI a) (nI (n - 1 - TZ a)) (nI (SA (n - 1 - TZ a) + b)) z
          unfold qX5_makeBinary_31b
          rw [nI_1, xst_nI _ (by omega)]
          refine ⟨vp_in_nI (by omega) (by decide), pk_le (SA (n - 1 - TZ a + 1)) (SA (n - 1 - TZ a) + b) (fun q => absurd q (by omega)) (fun _ => ?_) rfl rfl⟩
          have hb := k4 b (List.mem_range.mpr (by omega))
          simp only [Bool.and_eq_true, decide_eq_true_eq] at hb
          obtain ⟨b1, b2, b3⟩ := hb
          have mk := fun (P : CS → Prop) hP => s5_make (post := P) hT (by omega) hP
          rw [b1, b2, b3] at mk
          refine mk _ (fun z' hT' => ?_)
          rw [nI_1]
          exact ih' (b + 1) z' (by omega) hT'
      exact inner (cnS (n - 1 - TZ a)) 0 z (by omega) hT
  exact ⟨SA (n - 1) + 1, key (SA (n - 1)) 0 m z hk hT⟩
theorem s5_init {post : CS → Prop} (h : ∀ z, RT z → post z) : qX5_init post z0 := by
  have key : ∀ d n (z : CS), 2 ≤ n → n + d = 8 → TI z (SA n) → qX5_init_43 post (d + 1) (nI n) z := by
    intro d
    induction d with
    | zero =>
      intro n z h2 hd hT
      have e : n = 8 := by omega
      subst e
      exact br_t (by decide) (h z (fun t ht => hT.2 t ht))
    | succ d ih =>
      intro n z h2 hd hT
      have ck := List.all_eq_true.mp ck_all n (List.mem_range.mpr (by omega))
      simp only [Bool.and_eq_true, Bool.or_eq_true, decide_eq_true_eq] at ck
      rcases ck with ck | ⟨k1, k2, k3, k4, k5⟩
      · omega
      · show qX5_init_43b post (qX5_init_43 post (d + 1)) (nI n) z
        refine br_f (show ¬ (7 : Int32) < nI n from nI_nlt (a := 7) (by omega) (by decide)) ?_
        refine s5_makeUnary h2 (by omega) k1 k2 k3 hT (fun z1 hT1 => ?_)
        refine s5_makeBinary (f := 3) h2 (by omega) (by omega) k4 hT1 (fun z2 hT2 => ?_)
        refine s5_makeBinary (f := 4) h2 (by omega) (by omega) k5 hT2 (fun z3 hT3 => ?_)
        rw [nI_1]
        exact ih (n + 1) z3 (by omega) (by omega) hT3
  have t0 : TI z0 0 := ⟨rfl, fun t ht => absurd ht (by omega)⟩
  have m0 := fun (P : CS → Prop) hP => s5_make (post := P) t0 (by omega) hP
  rw [show TS 0 = 0 by decide, show TA 0 = 0 by decide, show TB 0 = 0 by decide] at m0
  refine m0 _ (fun z1 t1 => ?_)
  have m1 := fun (P : CS → Prop) hP => s5_make (post := P) t1 (by omega) hP
  rw [show TS (0 + 1) = 1 by decide, show TA (0 + 1) = 0 by decide, show TB (0 + 1) = 0 by decide] at m1
  refine m1 _ (fun z2 t2 => ⟨7, ?_⟩)
  exact key 6 2 z2 (by omega) (by omega) t2
