/-! ===== counting runs at the nodes ===== -/
theorem s4_ways {N c : Nat} {r : Nat → Nat → Nat} {zB zC : CS} (hN : N ≤ 6) (hV : VB N c r) (hB : RB zB c r) {i p v fpp : Nat} (hi : i < c) (hp : p < 7) (h0 : r i 0 = TS v) (hfp : fpp < 8) (efp : zC 1 p = nI fpp)
    {x y : Nat} (hA : 0 < arN (TS v) → fpp < 7 ∧ zC 2 (6 * fpp + r i 1) = nI x) (hx : ¬ 0 < arN (TS v) → x = 1) (hB2 : 1 < arN (TS v) → fpp + 1 < 7 ∧ zC 2 (6 * (fpp + 1) + r i 2) = nI y) (hy : ¬ 1 < arN (TS v) → y = 1) {post : Int32 → Unit → Prop} (h : post (nI (x * y)) ()) : qX4_waysBelow post (nI i) (nI p) zB zC := by
  have hc := hV.1
  obtain ⟨v0, v1, v2, v3, v4, v5⟩ := hV.2 i hi
  have ci : (nI i).toNatClampNeg = i := nI_clamp (by omega)
  have cp : (nI p).toNatClampNeg = p := nI_clamp (by omega)
  have ii : vp_in (nI i) 16 := vp_in_nI (by omega) (by decide)
  have e0 : zB 0 i = nI (r i 0) := hB.2 i hi 0 (by omega)
  have e1 : zB 1 i = nI (r i 1) := hB.2 i hi 1 (by omega)
  have e2 : zB 2 i = nI (r i 2) := hB.2 i hi 2 (by omega)
  have ks : (nI (r i 0)).toNatClampNeg = r i 0 := nI_clamp (by omega)
  have xr : xar (r i 0) = nI (arN (TS v)) := by have := xar_nI _ v0; rw [ks, h0] at this; rw [h0]; exact this
  have hle := arN_le (TS v)
  have m6 : nI fpp * (6 : Int32) = nI (fpp * 6) := pk_mul fpp 6
  have last : ∀ x', x' = x → qX4_waysBelow_47 post (nI i) (nI p) zB zC (nI (arN (TS v))) (nI (fpp * 6)) (nI x') := by
    intro x' hx'
    subst hx'
    unfold qX4_waysBelow_47
    refine pk_le (arN (TS v)) 1 (fun ha => ?_) (fun ha => ⟨ii, ?_⟩) rfl rfl
    · show post _ ()
      rw [hy (by omega), Nat.mul_one] at h
      exact h
    · obtain ⟨q1, q2⟩ := hB2 ha
      rw [ci, e2, show nI (fpp * 6) + (6 : Int32) = nI (fpp * 6 + 6) from nI_add _ 6, nI_add, nI_clamp (by omega), show fpp * 6 + 6 + r i 2 = 6 * (fpp + 1) + r i 2 by omega, q2]
      refine ⟨vp_in_nI (by omega) (by decide), ?_⟩
      show post (_ * _) ()
      rw [pk_mul]
      exact h
  unfold qX4_waysBelow
  rw [ci, cp, e0, ks, xr, efp, m6]
  refine ⟨ii, vp_in_nI v0 (by decide), vp_in_nI hp (by decide), pk_le (arN (TS v)) 0 (fun ha => ?_) (fun ha => ⟨ii, ?_⟩) rfl rfl⟩
  · exact last 1 (hx (by omega)).symm
  · obtain ⟨q1, q2⟩ := hA ha
    rw [e1, nI_add, nI_clamp (by omega), show fpp * 6 + r i 1 = 6 * fpp + r i 1 by omega, q2]
    exact ⟨vp_in_nI (by omega) (by decide), last x rfl⟩
def E2 (z z0 : CS) : Prop := ∀ k, k ≠ 2 → z k = z0 k
theorem s4_countAt {N c : Nat} {r : Nat → Nat → Nat} {zT zB zC : CS} (hN : N ≤ 6) (hV : VB N c r) (hB : RB zB c r) (hT : RT zT) {t u p : Nat} {nd fp : Nat → Nat} (hL : LY t u nd fp zC) (hp : p < u) (h1 : ∀ q, p < q → q < u → ∀ s, s < 6 → zC 2 (6 * q + s) = nI (RUN c r (nd q) s)) (h2 : ∀ q, q ≤ p → ∀ s, s < 6 → zC 2 (6 * q + s) = nI 0) {post : CS → Prop}
    (h : ∀ z, E2 z zC → (∀ q, p ≤ q → q < u → ∀ s, s < 6 → z 2 (6 * q + s) = nI (RUN c r (nd q) s)) → (∀ q, q < p → ∀ s, s < 6 → z 2 (6 * q + s) = nI 0) → post z) : qX4_countAt post (nI p) zT zB zC := by
  have hc := hV.1
  obtain ⟨l1, l7, l0, lq⟩ := hL
  obtain ⟨n0, n1, n2, n3, n4⟩ := lq p hp
  have cp : (nI p).toNatClampNeg = p := nI_clamp (by omega)
  have mA := (tabF n1).2.1
  have mB := (tabF n1).2.2.1
  have mS := (tabF n1).1
  have key : ∀ (same : Bool), (TA (nd p) == TB (nd p)) = same → ∀ d i (z : CS), i + d = c → E2 z zC → (∀ q, p < q → q < u → ∀ s, s < 6 → z 2 (6 * q + s) = nI (RUN c r (nd q) s)) → (∀ q, q < p → ∀ s, s < 6 → z 2 (6 * q + s) = nI 0) → (∀ s, s < 6 → z 2 (6 * p + s) = nI (sm i (tm r (RUN c r) (nd p) s))) → qX4_countAt_41 post (nI p) zT zB (d + 1) (nI (nd p)) (nI (TS (nd p))) (if same then 2 else 1) (nI i) z := by
    intro same hsame d
    induction d with
    | zero =>
      intro i z hi hE k1 k2 k3
      show qX4_countAt_41b post _ zT zB _ _ _ _ _ _
      refine pk_le c i (fun _ => h z hE (fun q hq1 hq2 s hs => ?_) k2) (fun h => absurd h (by omega)) hB.1 rfl
      by_cases hqp : q = p
      · subst hqp
        rw [k3 s hs, show i = c by omega, ← RUN_eq c r n1]
      · exact k1 q (by omega) hq2 s hs
    | succ d ih =>
      intro i z hi hE k1 k2 k3
      have hic : i < c := by omega
      obtain ⟨v0, v1, v2, v3, v4, v5⟩ := hV.2 i hic
      have ci : (nI i).toNatClampNeg = i := nI_clamp (by omega)
      have ii : vp_in (nI i) 16 := vp_in_nI (by omega) (by decide)
      have e0 : zB 0 i = nI (r i 0) := hB.2 i hic 0 (by omega)
      have e3 : zB 3 i = nI (r i 3) := hB.2 i hic 3 (by omega)
      have e4 : zB 4 i = nI (r i 4) := hB.2 i hic 4 (by omega)
      have skip : (∀ s, tm r (RUN c r) (nd p) s i = 0) → qX4_countAt_102 post (nI p) zT zB (qX4_countAt_41 post (nI p) zT zB (d + 1)) (nI (nd p)) (nI (TS (nd p))) (if same then 2 else 1) (nI i) z := by
        intro hz
        show qX4_countAt_41 post _ zT zB (d + 1) _ _ _ (_ + _) _
        rw [nI_1]
        refine ih (i + 1) z (by omega) hE k1 k2 (fun s hs => ?_)
        show _ = nI (sm i _ + tm r (RUN c r) (nd p) s i)
        rw [hz s]
        exact k3 s hs
      show qX4_countAt_41b post _ zT zB (qX4_countAt_41 post (nI p) zT zB (d + 1)) _ _ _ _ _
      refine pk_le c i (fun h => absurd h (by omega)) (fun _ => ⟨ii, ?_⟩) hB.1 rfl
      rw [ci, e0, e3, e4]
      refine pk_eq (r i 0) (TS (nd p)) (fun q0 => ⟨ii, ?_⟩) (fun q0 => skip (fun s => by unfold tm; rw [if_neg (fun e => q0 e.1)]))
      have hful : (r i 3 = (if same then 2 else 1)) ↔ ful (r i 3) same = false := by
        rcases (show r i 3 = 0 ∨ r i 3 = 1 ∨ r i 3 = 2 by omega) with e | e | e <;> rw [e] <;> cases same <;> simp [ful]
      refine pk_eq (r i 3) (if same then 2 else 1) (fun q3 => skip (fun s => ?_)) (fun q3 => ⟨ii, ?_⟩) rfl (by cases same <;> rfl) (by omega) (by cases same <;> decide)
      · unfold tm
        rw [if_neg (fun e => by rw [hsame, hful.mp q3] at e; exact absurd e.2.2 (by decide))]
      · have hf : ful (r i 3) same = true := by
          cases hq : ful (r i 3) same with
          | true => rfl
          | false => exact absurd (hful.mpr hq) q3
        rw [show nI p * (6 : Int32) = nI (p * 6) from pk_mul p 6, nI_add, show p * 6 + r i 4 = 6 * p + r i 4 by omega, nI_clamp (by omega), k3 (r i 4) (by omega)]
        refine ⟨vp_in_nI (by omega) (by decide), ?_⟩
        have hval : tm r (RUN c r) (nd p) (r i 4) i = (if 0 < arN (TS (nd p)) then RUN c r (TA (nd p)) (r i 1) else 1) * (if 1 < arN (TS (nd p)) then RUN c r (TB (nd p)) (r i 2) else 1) := by
          unfold tm
          rw [hsame, if_pos ⟨q0, rfl, hf⟩]
        refine s4_ways (fpp := fp p) (x := (if 0 < arN (TS (nd p)) then RUN c r (TA (nd p)) (r i 1) else 1)) (y := (if 1 < arN (TS (nd p)) then RUN c r (TB (nd p)) (r i 2) else 1)) hN hV hB hic (by omega) q0 n2.2 (by rw [hE 1 (by decide)]; exact n2.1) (fun ha => ?_) (fun ha => if_neg ha) (fun ha => ?_) (fun ha => if_neg ha) ⟨vp_in_nI (by omega) (by decide), ?_⟩
        · obtain ⟨g1, g2, g3⟩ := n3 ha
          rw [if_pos ha, k1 (fp p) g1 g2 (r i 1) (by omega), g3]
          exact ⟨by omega, rfl⟩
        · obtain ⟨g1, g2, g3⟩ := n3 (by omega)
          obtain ⟨g4, g5⟩ := n4 ha
          rw [if_pos ha, k1 (fp p + 1) (by omega) g4 (r i 2) (by omega), g5]
          exact ⟨by omega, rfl⟩
        · show qX4_countAt_41 post _ zT zB (d + 1) _ _ _ (_ + _) _
          rw [nI_1, nI_add, ← hval]
          refine ih (i + 1) _ (by omega) (fun k hk => by rw [st_n _ _ _ hk]; exact hE k hk) (fun q hq1 hq2 s hs => ?_) (fun q hq s hs => ?_) (fun s hs => ?_)
          · rw [st_s, pk_un (by omega)]; exact k1 q hq1 hq2 s hs
          · rw [st_s, pk_un (by omega)]; exact k2 q hq s hs
          · rw [st_s]
            show _ = nI (sm i _ + tm r (RUN c r) (nd p) s i)
            by_cases hs4 : s = r i 4
            · rw [hs4, pk_us]
            · rw [pk_un (by omega), k3 s hs]
              have : tm r (RUN c r) (nd p) s i = 0 := by
                unfold tm
                rw [if_neg (fun e => hs4 e.2.1.symm)]
              rw [this]
              rfl
  unfold qX4_countAt
  rw [cp, n0, e5_symbolAt hT n1, e5_firstAt hT n1, e5_secondAt hT n1]
  refine ⟨vp_in_nI (by omega) (by decide), pk_eq (TA (nd p)) (TB (nd p)) (fun e => ⟨c + 1, ?_⟩) (fun e => ⟨c + 1, ?_⟩)⟩
  · exact key true (by rw [e]; exact beq_self_eq_true _) c 0 zC (by omega) (fun _ _ => rfl) h1 (fun q hq => h2 q (by omega)) (fun s hs => h2 p (Nat.le_refl p) s hs)
  · exact key false (beq_eq_false_iff_ne.mpr e) c 0 zC (by omega) (fun _ _ => rfl) h1 (fun q hq => h2 q (by omega)) (fun s hs => h2 p (Nat.le_refl p) s hs)
theorem s4_count {N c : Nat} {r : Nat → Nat → Nat} {zT zB zC : CS} (hN : N ≤ 6) (hV : VB N c r) (hB : RB zB c r) (hT : RT zT) {t q : Nat} (ht : t < 2278) (hq : q < 6) {post : Int32 → CS → Prop} (h : ∀ z, post (nI (RUN c r t q)) z) : qX4_count post (nI t) (nI q) zT zB zC := by
  refine s4_layOut hT ht (fun z u nd fp hL => ?_)
  refine sJ_fill (by omega) (fun g hg => ⟨u + 1, ?_⟩)
  have hu1 := hL.1
  have hu7 := hL.2.1
  have key : ∀ d (y : CS), d ≤ u → E2 y z → (∀ p, d ≤ p → p < u → ∀ s, s < 6 → y 2 (6 * p + s) = nI (RUN c r (nd p) s)) → (∀ p, p < d → ∀ s, s < 6 → y 2 (6 * p + s) = nI 0) → qX4_count_22 post (nI t) (nI q) zT zB (d + 1) (nI u) (nI d - 1) y := by
    intro d
    induction d with
    | zero =>
      intro y hd hE h1 h2
      show qX4_count_22b post (nI t) (nI q) zT zB (qX4_count_22 post (nI t) (nI q) zT zB 0) (nI u) (nI 0 - 1) y
      refine br_t (by decide) ⟨vp_in_nI (by omega) (by decide), ?_⟩
      have e := h1 0 (by omega) (by omega) q hq
      rw [show 6 * 0 + q = q by omega, hL.2.2.1] at e
      rw [nI_clamp (by omega), e]
      exact h y
    | succ d ih =>
      intro y hd hE h1 h2
      rw [nI_pred]
      show qX4_count_22b post (nI t) (nI q) zT zB (qX4_count_22 post (nI t) (nI q) zT zB (d + 1)) (nI u) (nI d) y
      refine br_f (nI_pos (by omega)) ?_
      have hLy : LY t u nd fp y := ⟨hu1, hu7, hL.2.2.1, fun p hp => by
        rw [hE 0 (by decide), hE 1 (by decide)]
        exact hL.2.2.2 p hp⟩
      refine s4_countAt hN hV hB hT hLy (by omega) (fun p hp1 hp2 => h1 p (by omega) hp2) (fun p hp => h2 p (by omega)) (fun y' hE' h1' h2' => ?_)
      rw [show nI d + (-1 : Int32) = nI d - 1 from (Int32.sub_eq_add_neg _ _).symm]
      exact ih y' (by omega) (fun k hk => (hE' k hk).trans (hE k hk)) h1' h2'
  refine key u _ (Nat.le_refl u) (fun k hk => sr_n _ _ hk) (fun p hp1 hp2 => absurd hp2 (by omega)) (fun p hp s hs => ?_)
  rw [sr_s]
  exact hg _ (by omega)
