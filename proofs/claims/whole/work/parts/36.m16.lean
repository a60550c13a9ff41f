/-! ===== sets of final states ===== -/
def bcE (x0 : Int32) : Int32 := ((((((((x0 - (((x0.toUInt32 >>> ((1 : Int32).toUInt32 &&& Int32.toUInt32 31)).toInt32) &&& (1431655765 : Int32))) &&& (858993459 : Int32)) + ((((x0 - (((x0.toUInt32 >>> ((1 : Int32).toUInt32 &&& Int32.toUInt32 31)).toInt32) &&& (1431655765 : Int32))).toUInt32 >>> ((2 : Int32).toUInt32 &&& Int32.toUInt32 31)).toInt32) &&& (858993459 : Int32))) + (((((x0 - (((x0.toUInt32 >>> ((1 : Int32).toUInt32 &&& Int32.toUInt32 31)).toInt32) &&& (1431655765 : Int32))) &&& (858993459 : Int32)) + ((((x0 - (((x0.toUInt32 >>> ((1 : Int32).toUInt32 &&& Int32.toUInt32 31)).toInt32) &&& (1431655765 : Int32))).toUInt32 >>> ((2 : Int32).toUInt32 &&& Int32.toUInt32 31)).toInt32) &&& (858993459 : Int32))).toUInt32 >>> ((4 : Int32).toUInt32 &&& Int32.toUInt32 31)).toInt32)) &&& (252645135 : Int32)) + (((((((x0 - (((x0.toUInt32 >>> ((1 : Int32).toUInt32 &&& Int32.toUInt32 31)).toInt32) &&& (1431655765 : Int32))) &&& (858993459 : Int32)) + ((((x0 - (((x0.toUInt32 >>> ((1 : Int32).toUInt32 &&& Int32.toUInt32 31)).toInt32) &&& (1431655765 : Int32))).toUInt32 >>> ((2 : Int32).toUInt32 &&& Int32.toUInt32 31)).toInt32) &&& (858993459 : Int32))) + (((((x0 - (((x0.toUInt32 >>> ((1 : Int32).toUInt32 &&& Int32.toUInt32 31)).toInt32) &&& (1431655765 : Int32))) &&& (858993459 : Int32)) + ((((x0 - (((x0.toUInt32 >>> ((1 : Int32).toUInt32 &&& Int32.toUInt32 31)).toInt32) &&& (1431655765 : Int32))).toUInt32 >>> ((2 : Int32).toUInt32 &&& Int32.toUInt32 31)).toInt32) &&& (858993459 : Int32))).toUInt32 >>> ((4 : Int32).toUInt32 &&& Int32.toUInt32 31)).toInt32)) &&& (252645135 : Int32)).toUInt32 >>> ((8 : Int32).toUInt32 &&& Int32.toUInt32 31)).toInt32)) + ((((((((x0 - (((x0.toUInt32 >>> ((1 : Int32).toUInt32 &&& Int32.toUInt32 31)).toInt32) &&& (1431655765 : Int32))) &&& (858993459 : Int32)) + ((((x0 - (((x0.toUInt32 >>> ((1 : Int32).toUInt32 &&& Int32.toUInt32 31)).toInt32) &&& (1431655765 : Int32))).toUInt32 >>> ((2 : Int32).toUInt32 &&& Int32.toUInt32 31)).toInt32) &&& (858993459 : Int32))) + (((((x0 - (((x0.toUInt32 >>> ((1 : Int32).toUInt32 &&& Int32.toUInt32 31)).toInt32) &&& (1431655765 : Int32))) &&& (858993459 : Int32)) + ((((x0 - (((x0.toUInt32 >>> ((1 : Int32).toUInt32 &&& Int32.toUInt32 31)).toInt32) &&& (1431655765 : Int32))).toUInt32 >>> ((2 : Int32).toUInt32 &&& Int32.toUInt32 31)).toInt32) &&& (858993459 : Int32))).toUInt32 >>> ((4 : Int32).toUInt32 &&& Int32.toUInt32 31)).toInt32)) &&& (252645135 : Int32)) + (((((((x0 - (((x0.toUInt32 >>> ((1 : Int32).toUInt32 &&& Int32.toUInt32 31)).toInt32) &&& (1431655765 : Int32))) &&& (858993459 : Int32)) + ((((x0 - (((x0.toUInt32 >>> ((1 : Int32).toUInt32 &&& Int32.toUInt32 31)).toInt32) &&& (1431655765 : Int32))).toUInt32 >>> ((2 : Int32).toUInt32 &&& Int32.toUInt32 31)).toInt32) &&& (858993459 : Int32))) + (((((x0 - (((x0.toUInt32 >>> ((1 : Int32).toUInt32 &&& Int32.toUInt32 31)).toInt32) &&& (1431655765 : Int32))) &&& (858993459 : Int32)) + ((((x0 - (((x0.toUInt32 >>> ((1 : Int32).toUInt32 &&& Int32.toUInt32 31)).toInt32) &&& (1431655765 : Int32))).toUInt32 >>> ((2 : Int32).toUInt32 &&& Int32.toUInt32 31)).toInt32) &&& (858993459 : Int32))).toUInt32 >>> ((4 : Int32).toUInt32 &&& Int32.toUInt32 31)).toInt32)) &&& (252645135 : Int32)).toUInt32 >>> ((8 : Int32).toUInt32 &&& Int32.toUInt32 31)).toInt32)).toUInt32 >>> ((16 : Int32).toUInt32 &&& Int32.toUInt32 31)).toInt32)) &&& (63 : Int32))
def bc6 (F : Nat) : Nat := sm 6 (fun k => if F.testBit k then 1 else 0)
theorem eJ_bit (post : Int32 → Unit → Prop) (x : Int32) : qJ6_bitCount_0f7a4 post x = post (bcE x) () := rfl
theorem bcE_nI : ∀ F, F < 64 → bcE (nI F) = nI (bc6 F) := by decide +kernel
def setb (F q : Nat) (b : Bool) : Nat := if b then F ||| 2 ^ q else F &&& (63 ^^^ 2 ^ q)
theorem mf1 : ∀ F, F < 64 → ∀ q, q < 6 → (nI F ||| ((1 : Int32) <<< (nI q &&& 31))) = nI (setb F q true) := by decide +kernel
theorem mf0 : ∀ F, F < 64 → ∀ q, q < 6 → (nI F &&& (((1 : Int32) <<< (nI q &&& 31)) ^^^ (-1 : Int32))) = nI (setb F q false) := by decide +kernel
theorem ms1 : ∀ F, F < 64 → ∀ q, q < 6 → ((nI F &&& (((1 : Int32) <<< (nI q &&& 31)) ^^^ (-1 : Int32))) ||| ((1 : Int32) <<< (nI q &&& 31))) = nI (setb F q true) := by decide +kernel
theorem setb_lt : ∀ N, N < 7 → ∀ F, F < 64 → ∀ q, q < 6 → (¬ (F < 2 ^ N ∧ q < N) ∨ (setb F q true < 2 ^ N ∧ setb F q false < 2 ^ N)) := by decide +kernel
theorem setb_lt' {N F q : Nat} (hN : N ≤ 6) (hF : F < 2 ^ N) (hq : q < N) (b : Bool) : setb F q b < 2 ^ N := by
  have h := (setb_lt N (by omega) F (by have := n64 hN; omega) q (by omega)).resolve_left (fun q => q ⟨hF, hq⟩)
  cases b
  · exact h.2
  · exact h.1
theorem s2_mark {zB : CS} {c F q : Nat} {r : Nat → Nat → Nat} (hB : BKc zB (c, r, F)) (hF : F < 64) (hq : q < 6) (x : Int32) (b : Bool) (hb : b = true ↔ ¬ x = 0) {post : CS → Prop} (h : ∀ z, BKc z (c, r, setb F q b) → post z) : qX2_markFinal post (nI q) x zB := by
  have e : zB 5 1 = nI F := hB.2
  have fin : ∀ y, y = nI (setb F q b) → qX2_markFinal_26 post (nI q) x y zB := by
    intro y hy
    refine h _ ⟨⟨hB.1.1, fun i hi k hk => by rw [st_n _ _ _ (show k ≠ 5 by omega)]; exact hB.1.2 i hi k hk⟩, ?_⟩
    show y = _
    exact hy
  unfold qX2_markFinal
  rw [e]
  refine ⟨fun h0 => fin _ ?_, fun h0 => fin _ ?_⟩
  · rw [show b = false by cases b; rfl; exact absurd h0 (hb.mp rfl)]
    exact mf0 F hF q hq
  · rw [hb.mpr h0]
    exact mf1 F hF q hq
theorem sm_more {f : Nat → Nat} {N : Nat} : ∀ d, (∀ k, N ≤ k → f k = 0) → sm (N + d) f = sm N f
  | 0, _ => rfl
  | d + 1, h => by
    show sm (N + d) f + f (N + d) = _
    rw [sm_more d h, h (N + d) (by omega)]
    rfl
theorem bc6_N {N F : Nat} (hN : N ≤ 6) (hF : F < 2 ^ N) : bc6 F = sm N (fun k => if F.testBit k then 1 else 0) := by
  have h := sm_more (N := N) (f := fun k => if F.testBit k then 1 else 0) (6 - N) (fun k hk => by
    show (if F.testBit k then 1 else 0) = 0
    rw [Nat.testBit_lt_two_pow (Nat.lt_of_lt_of_le hF (Nat.pow_le_pow_right (by decide) hk))]
    rfl)
  rw [show N + (6 - N) = 6 by omega] at h
  exact h
/-! ===== the reference's history ===== -/
theorem NW.congr {g g' : Nat → Int32} {b : BKT} (hc : b.1 ≤ 16) (h : NW g b) (e : ∀ j, j < 82 → g' j = g j) : NW g' b :=
  ⟨⟨by rw [e 80 (by omega)]; exact h.1.1, fun i hi k hk => by rw [e _ (by omega)]; exact h.1.2 i hi k hk⟩, by rw [e 81 (by omega)]; exact h.2⟩
def E8 (z' z : CS) : Prop := (∀ k, k ≠ 8 → k ≠ 11 → z' k = z k) ∧ z' 11 0 = z 11 0 ∧ z' 11 1 = z 11 1
theorem s7_edit48 {z : CS} {m : Nat} (hm : m ≤ 4) (e2 : z 11 2 = nI m) {post : CS → Prop} (h : ∀ z', E8 z' z → z' 11 2 = nI (m + 1) → (∀ j, j < 82 → z' 8 (82 * m + j) = z 7 j) → (∀ j, j < 82 * m → z' 8 j = z 8 j) → post z') : qX7_edit_48 post z := by
  have key : ∀ d k (y : CS), k + d = 82 → (∀ i, i ≠ 8 → y i = z i) → (∀ j, j < k → y 8 (82 * m + j) = z 7 j) → (∀ j, j < 82 * m → y 8 j = z 8 j) → qX7_edit_50 post (d + 1) (nI k) y := by
    intro d
    induction d with
    | zero =>
      intro k y hk hE h1 h2
      show qX7_edit_50b post (qX7_edit_50 post 0) (nI k) y
      refine pk_le 82 k (fun _ => ?_) (fun h => absurd h (by omega))
      rw [hE 11 (by decide), e2, nI_1]
      refine h _ ⟨fun i h8 h11 => by rw [st_n _ _ _ h11]; exact hE i h8, ?_, ?_⟩ rfl (fun j hj => h1 j (by omega)) h2
      · show y 11 0 = _
        rw [hE 11 (by decide)]
      · show y 11 1 = _
        rw [hE 11 (by decide)]
    | succ d ih =>
      intro k y hk hE h1 h2
      show qX7_edit_50b post (qX7_edit_50 post (d + 1)) (nI k) y
      refine pk_le 82 k (fun h => absurd h (by omega)) (fun _ => ?_)
      rw [hE 11 (by decide), e2, show (82 : Int32) * nI m + nI k = nI (82 * m + k) by rw [show (82 : Int32) * nI m = nI (82 * m) from pk_mul 82 m, nI_add], nI_clamp (show 82 * m + k < 2 ^ 31 by omega), nI_clamp (show k < 2 ^ 31 by omega), nI_1, hE 7 (by decide)]
      refine ⟨vp_in_nI (by omega) (by decide), vp_in_nI (by omega) (by decide), ih (k + 1) _ (by omega) (fun i hi => by rw [st_n _ _ _ hi]; exact hE i hi) (fun j hj => ?_) (fun j hj => ?_)⟩
      · rw [st_s]
        by_cases hjk : j = k
        · subst hjk; exact pk_us
        · rw [pk_un (by omega)]; exact h1 j (by omega)
      · rw [st_s, pk_un (by omega)]; exact h2 j hj
  exact ⟨83, key 82 0 z (by omega) (fun _ _ => rfl) (fun j hj => absurd hj (by omega)) (fun _ _ => rfl)⟩
theorem s7_edit {N e : Nat} {hb : Nat → BKT} {z : CS} {b : BKT} (hV : HV N e hb) (hM : HM e hb z) (hB : NW (z 7) b) (hc : b.1 ≤ 16) {post : CS → Prop} (h : ∀ z', E8 z' z → HM (pushE e) (pushB e hb b) z' → post z') : qX7_edit post z := by
  obtain ⟨h5, hv⟩ := hV
  obtain ⟨e2, eb⟩ := hM
  unfold qX7_edit
  refine pk_eq e 5 (fun he => ?_) (fun he => ?_) e2 rfl
  · subst he
    have key : ∀ d k (y : CS), k + d = 328 → (∀ i, i ≠ 8 → y i = z i) → (∀ j, j < k → y 8 j = z 8 (j + 82)) → (∀ j, k ≤ j → y 8 j = z 8 j) → qX7_edit_10 post (d + 1) (nI k) y := by
      intro d
      induction d with
      | zero =>
        intro k y hk hE h1 h2
        show qX7_edit_10b post (qX7_edit_10 post 0) (nI k) y
        refine pk_le 328 k (fun _ => ?_) (fun h => absurd h (by omega))
        rw [hE 11 (by decide), e2, show nI 5 - (1 : Int32) = nI 4 from rfl]
        refine s7_edit48 (m := 4) (by omega) rfl (fun z' hE' g1 g2 g3 => ?_)
        have hE8 : E8 z' z := by
          refine ⟨fun i h8 h11 => ?_, ?_, ?_⟩
          · rw [hE'.1 i h8 h11, st_n _ _ _ h11]; exact hE i h8
          · rw [hE'.2.1]
            show y 11 0 = _
            rw [hE 11 (by decide)]
          · rw [hE'.2.2]
            show y 11 1 = _
            rw [hE 11 (by decide)]
        refine h z' hE8 ⟨g1, fun j hj => ?_⟩
        have hj5 : j < 5 := hj
        unfold pushB
        rw [if_neg (by omega)]
        by_cases hj4 : j = 4
        · rw [if_pos hj4]
          subst hj4
          refine hB.congr hc (fun i hi => ?_)
          rw [g2 i hi, st_n _ _ _ (show (7 : Nat) ≠ 11 by decide), hE 7 (by decide)]
        · rw [if_neg hj4]
          refine (eb (j + 1) (by omega)).congr (hv (j + 1) (by omega)).1.1 (fun i hi => ?_)
          rw [g3 _ (by omega), st_n _ _ _ (show (8 : Nat) ≠ 11 by decide), h1 _ (by omega)]
          show z 8 (82 * j + i + 82) = z 8 (82 * (j + 1) + i)
          congr 1
          omega
      | succ d ih =>
        intro k y hk hE h1 h2
        show qX7_edit_10b post (qX7_edit_10 post (d + 1)) (nI k) y
        refine pk_le 328 k (fun h => absurd h (by omega)) (fun _ => ?_)
        rw [show nI k + (82 : Int32) = nI (k + 82) from nI_add k 82, nI_clamp (show k + 82 < 2 ^ 31 by omega), nI_clamp (show k < 2 ^ 31 by omega), nI_1]
        refine ⟨vp_in_nI (by omega) (by decide), vp_in_nI (by omega) (by decide), ih (k + 1) _ (by omega) (fun i hi => by rw [st_n _ _ _ hi]; exact hE i hi) (fun j hj => ?_) (fun j hj => ?_)⟩
        · rw [st_s]
          by_cases hjk : j = k
          · subst hjk
            rw [pk_us]; exact h2 _ (by omega)
          · rw [pk_un hjk]; exact h1 j (by omega)
        · rw [st_s, pk_un (by omega)]; exact h2 j (by omega)
    exact ⟨329, key 328 0 z (by omega) (fun _ _ => rfl) (fun j hj => absurd hj (by omega)) (fun _ _ => rfl)⟩
  · refine s7_edit48 (m := e) (by omega) e2 (fun z' hE' g1 g2 g3 => h z' hE' ?_)
    unfold pushE
    rw [if_pos (by omega)]
    refine ⟨g1, fun j hj => ?_⟩
    unfold pushB
    rw [if_pos (by omega)]
    by_cases hje : j = e
    · rw [if_pos hje]
      subst hje
      exact hB.congr hc (fun i hi => g2 i hi)
    · rw [if_neg hje]
      exact (eb j (by omega)).congr (hv j (by omega)).1.1 (fun i hi => g3 _ (by omega))
def E7 (z' z : CS) : Prop := ∀ k, k ≠ 7 → z' k = z k
theorem s7_undoL {e : Nat} {z : CS} {b : BKT} (he : e ≤ 4) (e2 : z 11 2 = nI e) (hb : NW (fun j => z 8 (82 * e + j)) b) (hc : b.1 ≤ 16) {post : Int32 → CS → Prop} (h : ∀ z', E7 z' z → NW (z' 7) b → post (nI e) z') : ∃ n, qX7_undo_22 post n 0 z := by
  have key : ∀ d k (y : CS), k + d = 82 → E7 y z → (∀ j, j < k → y 7 j = z 8 (82 * e + j)) → qX7_undo_22 post (d + 1) (nI k) y := by
    intro d
    induction d with
    | zero =>
      intro k y hk hE h1
      show qX7_undo_22b post (qX7_undo_22 post 0) (nI k) y
      refine pk_le 82 k (fun _ => ?_) (fun h => absurd h (by omega))
      rw [hE 11 (by decide), e2]
      exact h y hE (hb.congr hc (fun j hj => h1 j (by omega)))
    | succ d ih =>
      intro k y hk hE h1
      show qX7_undo_22b post (qX7_undo_22 post (d + 1)) (nI k) y
      refine pk_le 82 k (fun h => absurd h (by omega)) (fun _ => ?_)
      rw [hE 11 (by decide), e2, show (82 : Int32) * nI e + nI k = nI (82 * e + k) by rw [show (82 : Int32) * nI e = nI (82 * e) from pk_mul 82 e, nI_add], nI_clamp (show 82 * e + k < 2 ^ 31 by omega), nI_clamp (show k < 2 ^ 31 by omega), nI_1, hE 8 (by decide)]
      refine ⟨vp_in_nI (by omega) (by decide), vp_in_nI (by omega) (by decide), ih (k + 1) _ (by omega) (fun i hi => by rw [st_n _ _ _ hi]; exact hE i hi) (fun j hj => ?_)⟩
      rw [st_s]
      by_cases hjk : j = k
      · subst hjk; exact pk_us
      · rw [pk_un hjk]; exact h1 j (by omega)
  exact ⟨83, key 82 0 z (by omega) (fun _ _ => rfl) (fun j hj => absurd hj (by omega))⟩
theorem s7_delL {z : CS} {c F i0 : Nat} {r : Nat → Nat → Nat} (hc : c ≤ 16) (hB : NW (z 7) (c, r, F)) (hi : i0 < c) {post : Int32 → CS → Prop} (h : ∀ z', E7 z' z → NW (z' 7) (c - 1, delR i0 r, F) → post (nI (c - 1)) z') (x1 : Int32) : ∃ n, qX7_removeRule_38 post x1 n (nI (5 * i0)) (st z 7 80 (nI (c - 1))) := by
  have key : ∀ d k (y : CS), k + d = 5 * (c - 1) → 5 * i0 ≤ k → E7 y z → y 7 80 = nI (c - 1) → y 7 81 = nI F → (∀ j, j < k → y 7 j = if j < 5 * i0 then z 7 j else z 7 (j + 5)) → (∀ j, k ≤ j → j < 80 → y 7 j = z 7 j) → qX7_removeRule_38 post x1 (d + 1) (nI k) y := by
    intro d
    induction d with
    | zero =>
      intro k y hk h0 hE g0 g1 h1 h2
      show qX7_removeRule_38b post x1 (qX7_removeRule_38 post x1 0) (nI k) y
      unfold qX7_removeRule_38b
      rw [lt8, g0, show (5 : Int32) * nI (c - 1) = nI (5 * (c - 1)) from pk_mul 5 _]
      refine ⟨pk_in 80 82 (by omega), pk_le (5 * (c - 1)) k (fun _ => ⟨pk_in 80 82 (by omega), h y hE ⟨⟨g0, fun i hi1 q hq => ?_⟩, g1⟩⟩) (fun h => absurd h (by omega)) rfl rfl⟩
      have hi2 : i < c - 1 := hi1
      rw [h1 _ (by omega)]
      show _ = nI (delR i0 r i q)
      unfold delR
      by_cases hlt : i < i0
      · rw [if_pos (by omega), if_pos hlt]
        exact hB.1.2 i (by show i < c; omega) q hq
      · rw [if_neg (by omega), if_neg hlt, show 5 * i + q + 5 = 5 * (i + 1) + q by omega]
        exact hB.1.2 (i + 1) (by show i + 1 < c; omega) q hq
    | succ d ih =>
      intro k y hk h0 hE g0 g1 h1 h2
      show qX7_removeRule_38b post x1 (qX7_removeRule_38 post x1 (d + 1)) (nI k) y
      unfold qX7_removeRule_38b
      rw [lt8, g0, show (5 : Int32) * nI (c - 1) = nI (5 * (c - 1)) from pk_mul 5 _, show nI k + (5 : Int32) = nI (k + 5) from nI_add k 5, nI_clamp (show k + 5 < 2 ^ 31 by omega), nI_clamp (show k < 2 ^ 31 by omega), nI_1]
      refine ⟨pk_in 80 82 (by omega), pk_le (5 * (c - 1)) k (fun h => absurd h (by omega)) (fun _ => ⟨vp_in_nI (by omega) (by decide), vp_in_nI (by omega) (by decide), ?_⟩) rfl rfl⟩
      refine ih (k + 1) _ (by omega) (by omega) (fun i hi => by rw [st_n _ _ _ hi]; exact hE i hi) ?_ ?_ (fun j hj => ?_) (fun j hj hj2 => ?_)
      · rw [st_s, pk_un (by omega)]; exact g0
      · rw [st_s, pk_un (by omega)]; exact g1
      · rw [st_s]
        by_cases hjk : j = k
        · subst hjk
          rw [pk_us, if_neg (by omega), h2 _ (by omega) (by omega)]
        · rw [pk_un hjk]; exact h1 j (by omega)
      · rw [st_s, pk_un (by omega)]; exact h2 j (by omega) hj2
  refine ⟨5 * (c - 1) - 5 * i0 + 1, key _ (5 * i0) _ (by omega) (Nat.le_refl _) (fun i hi => st_n _ _ _ hi) ?_ ?_ (fun j hj => ?_) (fun j hj hj2 => ?_)⟩
  · rw [st_s]; exact pk_us
  · rw [st_s, pk_un (by decide)]; exact hB.2
  · rw [st_s, pk_un (by omega), if_pos hj]
  · rw [st_s, pk_un (by omega)]
