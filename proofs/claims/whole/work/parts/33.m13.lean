/-! ===== numbers of trees: sizeAt, find, treeOf ===== -/
theorem xst_nI : ∀ k, k < 9 → xst (nI k).toNatClampNeg = nI (SA k) := by decide +kernel
theorem SA_mono : ∀ a, a < 9 → ∀ b, b < 9 → a ≤ b → SA a ≤ SA b := by decide +kernel
theorem SA_lt : ∀ a, a < 9 → SA a ≤ 2278 := by decide +kernel
theorem s6_sizeAt {t : Nat} (ht : t < 2278) {post : Int32 → Unit → Prop} (h : post (nI (TZ t)) ()) : qX6_sizeAt post (nI t) := by
  obtain ⟨-, -, -, z1, z7, s1, s2, -⟩ := tabF ht
  have key : ∀ d k, k + d = TZ t → 1 ≤ k → qX6_sizeAt_2 post (nI t) (d + 1) (nI k) := by
    intro d
    induction d with
    | zero =>
      intro k hk h1
      show qX6_sizeAt_2b post (nI t) (qX6_sizeAt_2 post (nI t) 0) (nI k)
      have e : k = TZ t := by omega
      refine pk_le 7 k (fun _ => ?_) (fun h7 => ?_)
      · show post _ ()
        rw [e]; exact h
      · rw [nI_1, xst_nI _ (by omega)]
        refine ⟨vp_in_nI (by omega) (by decide), pk_lt t (SA (k + 1)) (fun _ => ?_) (fun hge => ?_) rfl rfl (by omega) (by have := SA_lt (k + 1) (by omega); omega)⟩
        · show post _ ()
          rw [e]; exact h
        · rw [e] at hge
          exact absurd hge (by omega)
    | succ d ih =>
      intro k hk h1
      have hm := SA_mono (k + 1) (by omega) (TZ t) (by omega) (by omega)
      show qX6_sizeAt_2b post (nI t) (qX6_sizeAt_2 post (nI t) (d + 1)) (nI k)
      refine pk_le 7 k (fun h => absurd h (by omega)) (fun _ => ?_)
      rw [nI_1, xst_nI _ (by omega)]
      refine ⟨vp_in_nI (by omega) (by decide), pk_lt t (SA (k + 1)) (fun hlt => absurd hlt (by omega)) (fun _ => ?_) rfl rfl (by omega) (by omega)⟩
      exact ih (k + 1) (by omega) (by omega)
  exact ⟨TZ t - 1 + 1, key (TZ t - 1) 1 (by omega) (by omega)⟩
def cnS (k : Nat) : Nat := SA (k + 1) - SA k
/-- the place of a tree in the order -/
def offB (n sa : Nat) : Nat := sm sa (fun s => cnS s * (if s = 0 then 0 else cnS (n - 1 - s)))
def ixB (f a b : Nat) : Nat :=
  (SA (1 + TZ a + TZ b) + cnS (TZ a + TZ b)) + ((if f = 4 then sm (TZ a + TZ b) (fun s => if s = 0 then 0 else cnS s * cnS (TZ a + TZ b - s)) else 0) + (sm (TZ a) (fun s => if s = 0 then 0 else cnS s * cnS (TZ a + TZ b - s)) + ((a - SA (TZ a)) * cnS (TZ b) + (b - SA (TZ b)))))
def okU (a : Nat) : Bool := decide (TS (SA (1 + TZ a) + (a - SA (TZ a))) = 2) && (decide (TA (SA (1 + TZ a) + (a - SA (TZ a))) = a) && (decide (TB (SA (1 + TZ a) + (a - SA (TZ a))) = 0) && decide (SA (1 + TZ a) + (a - SA (TZ a)) < 2278)))
theorem okU_all : (List.range 556).all okU = true := by decide +kernel
def okB (a : Nat) : Bool := (List.range (SA (7 - TZ a))).all (fun b => (decide (TS (ixB 3 a b) = 3) && (decide (TA (ixB 3 a b) = a) && decide (TB (ixB 3 a b) = b))) && ((decide (TS (ixB 4 a b) = 4) && (decide (TA (ixB 4 a b) = a) && decide (TB (ixB 4 a b) = b))) && (decide (ixB 3 a b < 2278) && decide (ixB 4 a b < 2278))))
theorem okB_all : (List.range 556).all okB = true := by decide +kernel
