/-! ===== books and their history: the class ===== -/
abbrev BKT : Type := Nat × (Nat → Nat → Nat) × Nat
def BKc (z : CS) (b : BKT) : Prop := RB z b.1 b.2.1 ∧ z 5 1 = nI b.2.2
def NW (g : Nat → Int32) (b : BKT) : Prop := RN g b.1 b.2.1 ∧ g 81 = nI b.2.2
def VBF (N : Nat) (b : BKT) : Prop := VB N b.1 b.2.1 ∧ b.2.2 < 2 ^ N
theorem s2_copy {zB zO : CS} {b : BKT} (hc : b.1 ≤ 16) (h0 : BKc zO b) {post : CS → Prop} (h : ∀ z, BKc z b → post z) : qX2_copyFrom post zB zO := by
  refine h _ ⟨⟨h0.1.1, fun i hi k hk => ?_⟩, h0.2⟩
  have hr := h0.1.2 i hi
  rcases (show k = 0 ∨ k = 1 ∨ k = 2 ∨ k = 3 ∨ k = 4 by omega) with rfl | rfl | rfl | rfl | rfl
  · show va_cpy (zO 0) _ 0 0 16 i = _
    rw [pk_cpy_in (by omega) (by omega), show 0 + (i - 0) = i by omega]
    exact hr 0 (by omega)
  · show va_cpy (zO 1) _ 0 0 16 i = _
    rw [pk_cpy_in (by omega) (by omega), show 0 + (i - 0) = i by omega]
    exact hr 1 (by omega)
  · show va_cpy (zO 2) _ 0 0 16 i = _
    rw [pk_cpy_in (by omega) (by omega), show 0 + (i - 0) = i by omega]
    exact hr 2 (by omega)
  · show va_cpy (zO 3) _ 0 0 16 i = _
    rw [pk_cpy_in (by omega) (by omega), show 0 + (i - 0) = i by omega]
    exact hr 3 (by omega)
  · show va_cpy (zO 4) _ 0 0 16 i = _
    rw [pk_cpy_in (by omega) (by omega), show 0 + (i - 0) = i by omega]
    exact hr 4 (by omega)
def HC (e : Nat) (hb : Nat → BKT) (zH : CS) (zR : Nat → CS) : Prop := ∃ nx, nx < 5 ∧ zH 0 0 = nI nx ∧ zH 0 1 = nI e ∧ ∀ k, k < e → BKc (zR ((nx + 5 - e + k) % 5)) (hb k)
def HM (e : Nat) (hb : Nat → BKT) (z : CS) : Prop := z 11 2 = nI e ∧ ∀ k, k < e → NW (fun j => z 8 (82 * k + j)) (hb k)
def HV (N e : Nat) (hb : Nat → BKT) : Prop := e ≤ 5 ∧ ∀ k, k < e → VBF N (hb k)
def pushE (e : Nat) : Nat := if e < 5 then e + 1 else 5
def pushB (e : Nat) (hb : Nat → BKT) (b : BKT) (k : Nat) : BKT := if e < 5 then (if k = e then b else hb k) else (if k = 4 then b else hb (k + 1))
theorem HV.push {N e : Nat} {hb : Nat → BKT} {b : BKT} (h : HV N e hb) (hv : VBF N b) : HV N (pushE e) (pushB e hb b) := by
  unfold pushE
  obtain ⟨h1, h2⟩ := h
  by_cases he : e < 5
  · rw [if_pos he]
    refine ⟨by omega, fun k hk => ?_⟩
    unfold pushB
    rw [if_pos he]
    by_cases hke : k = e
    · rw [if_pos hke]; exact hv
    · rw [if_neg hke]; exact h2 k (by omega)
  · rw [if_neg he]
    refine ⟨by omega, fun k hk => ?_⟩
    unfold pushB
    rw [if_neg he]
    by_cases hke : k = 4
    · rw [if_pos hke]; exact hv
    · rw [if_neg hke]; exact h2 (k + 1) (by omega)
theorem s1_keep {e : Nat} {hb : Nat → BKT} {zB zH : CS} {zR : Nat → CS} {b : BKT} (he : e ≤ 5) (hH : HC e hb zH zR) (hB : BKc zB b) (hc : b.1 ≤ 16) {post : CS × (Nat → CS) → Prop} (h : ∀ zH' zR', HC (pushE e) (pushB e hb b) zH' zR' → post (zH', zR')) : qX1_keep post zB zH zR := by
  obtain ⟨nx, n5, e0, e1, eb⟩ := hH
  unfold qX1_keep
  rw [e0, nI_clamp (by omega)]
  refine ⟨vp_in_nI n5 (by decide), s2_copy hc hB (fun z hz => ?_)⟩
  have fin : ∀ nx', nx' < 5 → nx' = (nx + 1) % 5 → qX1_keep_34 post zB (nI nx') zH (sR zR nx z) := by
    intro nx' h5 hnx
    unfold qX1_keep_34
    rw [show st zH 0 0 (nI nx') 0 1 = zH 0 1 from rfl, e1, nI_1]
    refine h _ _ ⟨nx', h5, rfl, ?_, fun k hk => ?_⟩
    · show (if (5 : Int32) < nI (e + 1) then (5 : Int32) else nI (e + 1)) = nI (pushE e)
      unfold pushE
      by_cases he5 : e < 5
      · rw [if_pos he5, if_neg (show ¬ (5 : Int32) < nI (e + 1) from nI_nlt (a := 5) (by omega) (by decide))]
      · rw [if_neg he5, if_pos (show (5 : Int32) < nI (e + 1) from nI_lt (a := 5) (by omega) (by omega))]
        rfl
    · unfold pushE at hk ⊢
      unfold pushB
      by_cases he5 : e < 5
      · rw [if_pos he5] at hk ⊢
        rw [if_pos he5]
        by_cases hke : k = e
        · rw [if_pos hke, show (nx' + 5 - (e + 1) + k) % 5 = nx by omega, sR_s]
          exact hz
        · rw [if_neg hke, show (nx' + 5 - (e + 1) + k) % 5 = (nx + 5 - e + k) % 5 by omega, sR_n _ _ (by omega)]
          exact eb k (by omega)
      · rw [if_neg he5] at hk ⊢
        rw [if_neg he5]
        by_cases hke : k = 4
        · rw [if_pos hke, show (nx' + 5 - 5 + k) % 5 = nx by omega, sR_s]
          exact hz
        · rw [if_neg hke, show (nx' + 5 - 5 + k) % 5 = (nx + 5 - e + (k + 1)) % 5 by omega, sR_n _ _ (by omega)]
          exact eb (k + 1) (by omega)
  rw [nI_1]
  refine pk_le 5 (nx + 1) (fun q => ?_) (fun q => ?_)
  · exact fin 0 (by omega) (by omega)
  · exact fin (nx + 1) (by omega) (by omega)
theorem s1_give {N e : Nat} {hb : Nat → BKT} {zB zH : CS} {zR : Nat → CS} (hV : HV N e hb) (he : 0 < e) (hH : HC e hb zH zR) {post : CS × CS → Prop} (h : ∀ zB' zH', BKc zB' (hb (e - 1)) → HC (e - 1) hb zH' zR → zH' 0 1 = nI (e - 1) → post (zB', zH')) : qX1_giveBack post zB zH zR := by
  obtain ⟨nx, n5, e0, e1, eb⟩ := hH
  have h5 := hV.1
  unfold qX1_giveBack
  rw [e1, e0]
  have fin : ∀ nx', nx' < 5 → nx' = (nx + 4) % 5 → qX1_giveBack_25 post zR (nI nx') zB zH := by
    intro nx' h5' hnx
    unfold qX1_giveBack_25
    rw [show st zH 0 0 (nI nx') 0 0 = nI nx' from rfl, nI_clamp (by omega), show st zH 0 0 (nI nx') 0 1 = zH 0 1 from rfl, e1]
    have hk := eb (e - 1) (by omega)
    rw [show (nx + 5 - e + (e - 1)) % 5 = nx' by omega] at hk
    refine ⟨vp_in_nI h5' (by decide), s2_copy (hV.2 (e - 1) (by omega)).1.1 hk (fun z hz => ?_)⟩
    rw [show nI e - (1 : Int32) = nI (e - 1) from pk_sub he]
    refine h z _ hz ⟨nx', h5', rfl, rfl, fun k hk => ?_⟩ rfl
    rw [show (nx' + 5 - (e - 1) + k) % 5 = (nx + 5 - e + k) % 5 by omega]
    exact eb k (by omega)
  refine pk_le e 0 (fun q => absurd q (by omega)) (fun _ => ?_) rfl rfl
  refine pk_le nx 0 (fun q => ?_) (fun q => ?_) rfl rfl
  · exact fin 4 (by omega) (by omega)
  · rw [show nI nx - (1 : Int32) = nI (nx - 1) from pk_sub q]
    exact fin (nx - 1) (by omega) (by omega)
theorem s1_forget {hb : Nat → BKT} {zH : CS} {zR : Nat → CS} {post : CS → Prop} (h : ∀ z, HC 0 hb z zR → post z) : qX1_forget post zH :=
  h _ ⟨0, by omega, rfl, rfl, fun k hk => absurd hk (by omega)⟩
theorem s2_clear {zB : CS} {r : Nat → Nat → Nat} {post : CS → Prop} (h : ∀ z, BKc z (0, r, 0) → post z) : qX2_clear post zB :=
  h _ ⟨⟨rfl, fun i hi => absurd hi (by omega)⟩, rfl⟩
def addR (c : Nat) (r : Nat → Nat → Nat) (v : Nat → Nat) : Nat → Nat → Nat := fun i k => if i = c then v k else r i k
theorem s2_append {zB : CS} {c F : Nat} {r : Nat → Nat → Nat} {v : Nat → Nat} (hB : BKc zB (c, r, F)) (hc : c < 16) {post : CS → Prop} (h : ∀ z, BKc z (c + 1, addR c r v, F) → post z) : qX2_append post (nI (v 0)) (nI (v 1)) (nI (v 2)) (nI (v 3)) (nI (v 4)) zB := by
  have e0 : zB 5 0 = nI c := hB.1.1
  unfold qX2_append
  refine pk_le 16 c (fun q => absurd q (by omega)) (fun _ => ?_) rfl e0
  have i0 : vp_in (zB 5 0) 16 := by rw [e0]; exact vp_in_nI hc (by decide)
  refine ⟨i0, i0, i0, i0, i0, h _ ⟨⟨?_, fun i hi k hk => ?_⟩, hB.2⟩⟩
  · show zB 5 0 + 1 = _
    rw [e0, nI_1]
  · have cl : (zB 5 0).toNatClampNeg = c := by rw [e0]; exact nI_clamp (by omega)
    have row : ∀ (g : Nat → Int32) (x : Int32), (∀ j, j < c → g j = nI (r j k)) → x = nI (v k) → upd g (zB 5 0).toNatClampNeg x i = nI (addR c r v i k) := by
      intro g x hg hx
      rw [cl]
      unfold addR
      by_cases hic : i = c
      · rw [if_pos hic, hic, pk_us]; exact hx
      · rw [if_neg hic, pk_un hic]; exact hg i (by have : i < c + 1 := hi; omega)
    rcases (show k = 0 ∨ k = 1 ∨ k = 2 ∨ k = 3 ∨ k = 4 by omega) with rfl | rfl | rfl | rfl | rfl
    · exact row (zB 0) _ (fun j hj => hB.1.2 j hj 0 (by omega)) rfl
    · exact row (zB 1) _ (fun j hj => hB.1.2 j hj 1 (by omega)) rfl
    · exact row (zB 2) _ (fun j hj => hB.1.2 j hj 2 (by omega)) rfl
    · exact row (zB 3) _ (fun j hj => hB.1.2 j hj 3 (by omega)) rfl
    · exact row (zB 4) _ (fun j hj => hB.1.2 j hj 4 (by omega)) rfl
def delR (i0 : Nat) (r : Nat → Nat → Nat) : Nat → Nat → Nat := fun i k => if i < i0 then r i k else r (i + 1) k
theorem s2_gap {z0 : CS} {c i0 : Nat} (hc : c < 16) (e0 : z0 5 0 = nI c) (hi : i0 ≤ c) {g : Nat → Int32} {post : (Nat → Int32) → Prop} (h : ∀ g', (∀ j, j < c → g' j = if j < i0 then g j else g (j + 1)) → post g') : qX2_closeGap post (nI i0) z0 g := by
  have key : ∀ d k (f : Nat → Int32), k + d = c → i0 ≤ k → (∀ j, j < k → f j = if j < i0 then g j else g (j + 1)) → (∀ j, k ≤ j → f j = g j) → qX2_closeGap_2 post (nI i0) z0 (d + 1) (nI k) f := by
    intro d
    induction d with
    | zero =>
      intro k f hk h0 h1 h2
      show qX2_closeGap_2b post (nI i0) z0 (qX2_closeGap_2 post (nI i0) z0 0) (nI k) f
      exact pk_le c k (fun _ => h f (fun j hj => h1 j (by omega))) (fun h => absurd h (by omega)) e0 rfl
    | succ d ih =>
      intro k f hk h0 h1 h2
      show qX2_closeGap_2b post (nI i0) z0 (qX2_closeGap_2 post (nI i0) z0 (d + 1)) (nI k) f
      refine pk_le c k (fun h => absurd h (by omega)) (fun _ => ?_) e0 rfl
      rw [nI_1, nI_clamp (show k + 1 < 2 ^ 31 by omega), nI_clamp (show k < 2 ^ 31 by omega)]
      refine ⟨vp_in_nI (by omega) (by decide), vp_in_nI (by omega) (by decide), ih (k + 1) _ (by omega) (by omega) (fun j hj => ?_) (fun j hj => ?_)⟩
      · by_cases hjk : j = k
        · subst hjk
          rw [pk_us, if_neg (by omega), h2 (j + 1) (by omega)]
        · rw [pk_un hjk]; exact h1 j (by omega)
      · rw [pk_un (by omega)]; exact h2 j (by omega)
  have hlt : ∀ j, j < i0 → g j = if j < i0 then g j else g (j + 1) := fun j hj => by rw [if_pos hj]
  exact ⟨c - i0 + 1, key (c - i0) i0 g (by omega) (Nat.le_refl _) hlt (fun j _ => rfl)⟩
theorem s2_delete {zB : CS} {c F i0 : Nat} {r : Nat → Nat → Nat} (hB : BKc zB (c, r, F)) (hc : c ≤ 16) (hi : i0 < c) {post : CS → Prop} (h : ∀ z, BKc z (c - 1, delR i0 r, F) → post z) : qX2_delete post (nI i0) zB := by
  have e0 : zB 5 0 = nI c := hB.1.1
  unfold qX2_delete
  refine pk_le c i0 (fun q => absurd q (by omega)) (fun _ => ?_) e0 rfl
  have ec : st zB 5 0 (zB 5 0 - 1) 5 0 = nI (c - 1) := by
    show zB 5 0 - 1 = _
    rw [e0]
    exact pk_sub (b := 1) (by omega)
  refine s2_gap (c := c - 1) (by omega) ec (by omega) (fun g0 h0 => ?_)
  refine s2_gap (c := c - 1) (by omega) ec (by omega) (fun g1 h1 => ?_)
  refine s2_gap (c := c - 1) (by omega) ec (by omega) (fun g2 h2 => ?_)
  refine s2_gap (c := c - 1) (by omega) ec (by omega) (fun g3 h3 => ?_)
  refine s2_gap (c := c - 1) (by omega) ec (by omega) (fun g4 h4 => ?_)
  refine h _ ⟨⟨ec, fun i hi1 k hk => ?_⟩, hB.2⟩
  have hi2 : i < c - 1 := hi1
  have row : ∀ (g' g : Nat → Int32), (∀ j, j < c - 1 → g' j = if j < i0 then g j else g (j + 1)) → (∀ j, j < c → g j = nI (r j k)) → g' i = nI (delR i0 r i k) := by
    intro g' g hg' hg
    rw [hg' i hi2]
    unfold delR
    by_cases hj : i < i0
    · rw [if_pos hj, if_pos hj]; exact hg i (by omega)
    · rw [if_neg hj, if_neg hj]; exact hg (i + 1) (by omega)
  rcases (show k = 0 ∨ k = 1 ∨ k = 2 ∨ k = 3 ∨ k = 4 by omega) with rfl | rfl | rfl | rfl | rfl
  · exact row g0 (zB 0) h0 (fun j hj => hB.1.2 j hj 0 (by omega))
  · exact row g1 (zB 1) h1 (fun j hj => hB.1.2 j hj 1 (by omega))
  · exact row g2 (zB 2) h2 (fun j hj => hB.1.2 j hj 2 (by omega))
  · exact row g3 (zB 3) h3 (fun j hj => hB.1.2 j hj 3 (by omega))
  · exact row g4 (zB 4) h4 (fun j hj => hB.1.2 j hj 4 (by omega))
