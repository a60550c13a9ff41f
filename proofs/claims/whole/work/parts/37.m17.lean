/-! ===== swapping two states ===== -/
def swp (q a b : Nat) : Nat := if q = a then b else if q = b then a else q
theorem swp_nI {q a b : Nat} (hq : q < 2 ^ 31) (ha : a < 2 ^ 31) (hb : b < 2 ^ 31) : (if nI q = nI a then nI b else if nI q = nI b then nI a else nI q) = nI (swp q a b) := by
  unfold swp
  by_cases h : q = a
  · rw [if_pos (by rw [h]), if_pos h]
  · rw [if_neg (fun e => h ((nI_eq hq ha).mp e)), if_neg h]
    by_cases h2 : q = b
    · rw [if_pos (by rw [h2]), if_pos h2]
    · rw [if_neg (fun e => h2 ((nI_eq hq hb).mp e)), if_neg h2]
theorem swp_lt {q a b N : Nat} (hq : q < N) (ha : a < N) (hb : b < N) : swp q a b < N := by
  unfold swp
  split
  · exact hb
  · split
    · exact ha
    · exact hq
def swR (r : Nat → Nat → Nat) (a b : Nat) : Nat → Nat → Nat := fun i k =>
  if k = 4 then swp (r i 4) a b else if k = 1 ∧ 0 < arN (r i 0) then swp (r i 1) a b else if k = 2 ∧ 1 < arN (r i 0) then swp (r i 2) a b else r i k
theorem swR_VB {N c a b : Nat} {r : Nat → Nat → Nat} (hV : VB N c r) (ha : a < N) (hb : b < N) : VB N c (swR r a b) := by
  refine ⟨hV.1, fun i hi => ?_⟩
  obtain ⟨v0, v1, v2, v3, v4, v5⟩ := hV.2 i hi
  refine ⟨v0, ?_, ?_, v3, swp_lt v4 ha hb, v5⟩
  · show (if 1 = 4 then _ else if 1 = 1 ∧ 0 < arN (r i 0) then swp (r i 1) a b else if 1 = 2 ∧ 1 < arN (r i 0) then _ else r i 1) < N
    by_cases h : 0 < arN (r i 0)
    · rw [if_neg (by decide), if_pos ⟨rfl, h⟩]; exact swp_lt v1 ha hb
    · rw [if_neg (by decide), if_neg (fun e => h e.2), if_neg (fun e => absurd e.1 (by decide))]; exact v1
  · show (if 2 = 4 then _ else if 2 = 1 ∧ 0 < arN (r i 0) then _ else if 2 = 2 ∧ 1 < arN (r i 0) then swp (r i 2) a b else r i 2) < N
    by_cases h : 1 < arN (r i 0)
    · rw [if_neg (by decide), if_neg (fun e => absurd e.1 (by decide)), if_pos ⟨rfl, h⟩]; exact swp_lt v2 ha hb
    · rw [if_neg (by decide), if_neg (fun e => absurd e.1 (by decide)), if_neg (fun e => h e.2)]; exact v2
/-- does a rule hold a state -/
def hs (r : Nat → Nat → Nat) (i q : Nat) : Bool := decide (r i 4 = q) || ((decide (0 < arN (r i 0)) && decide (r i 1 = q)) || (decide (1 < arN (r i 0)) && decide (r i 2 = q)))
def tch (r : Nat → Nat → Nat) (a b i : Nat) : Bool := hs r i a || hs r i b
def swF (F a b : Nat) : Nat := setb (setb F a (F.testBit b)) b (F.testBit a)
theorem swF_eq : ∀ F, F < 64 → ∀ a, a < 6 → ∀ b, b < 6 → ldTo (fun q => F.testBit q) (fun q => swp q a b) 6 = swF F a b := by decide +kernel
theorem e2_contains {N c : Nat} {r : Nat → Nat → Nat} {zB : CS} (hN : N ≤ 6) (hV : VB N c r) (hB : RB zB c r) {i q : Nat} (hi : i < c) (hq : q < N) (post : Int32 → Unit → Prop) (h : post (bI (hs r i q)) ()) : qX2_contains post (nI i) (nI q) zB := by
  have hc := hV.1
  obtain ⟨v0, v1, v2, v3, v4, v5⟩ := hV.2 i hi
  have ci : (nI i).toNatClampNeg = i := nI_clamp (by omega)
  have ii : vp_in (nI i) 16 := vp_in_nI (by omega) (by decide)
  have e0 : zB 0 i = nI (r i 0) := hB.2 i hi 0 (by omega)
  have e1 : zB 1 i = nI (r i 1) := hB.2 i hi 1 (by omega)
  have e2 : zB 2 i = nI (r i 2) := hB.2 i hi 2 (by omega)
  have e4 : zB 4 i = nI (r i 4) := hB.2 i hi 4 (by omega)
  have hle := arN_le (r i 0)
  have T : hs r i q = true → qX2_contains_50 post (nI i) (nI q) zB (nI (arN (r i 0))) := fun e => by rw [e] at h; exact h
  have Fa : hs r i q = false → qX2_contains_54 post (nI i) (nI q) zB (nI (arN (r i 0))) := fun e => by rw [e] at h; exact h
  have h35 : ¬ r i 4 = q → (¬ 0 < arN (r i 0) ∨ ¬ r i 1 = q) → qX2_contains_35 post (nI i) (nI q) zB (nI (arN (r i 0))) := by
    intro n4 n1
    unfold qX2_contains_35
    rw [ci, e2]
    refine pk_le (arN (r i 0)) 1 (fun ha => Fa ?_) (fun ha => ⟨ii, pk_eq (r i 2) q (fun he => T ?_) (fun he => Fa ?_)⟩) rfl rfl
    · unfold hs
      rcases n1 with n1 | n1 <;> simp [n4, n1, show ¬ 1 < arN (r i 0) by omega]
    · unfold hs
      simp [he, show 1 < arN (r i 0) by omega]
    · unfold hs
      rcases n1 with n1 | n1
      · exact absurd (show 0 < arN (r i 0) by omega) n1
      · simp [n4, n1, he]
  unfold qX2_contains
  rw [ci, e0, xar_nI _ v0, e1, e4]
  refine ⟨ii, vp_in_nI v0 (by decide), ii, pk_eq (r i 4) q (fun he => T ?_) (fun h4 => pk_le (arN (r i 0)) 0 (fun ha => h35 h4 (Or.inl (by omega))) (fun ha => ⟨ii, pk_eq (r i 1) q (fun he => T ?_) (fun he => h35 h4 (Or.inr he))⟩) rfl rfl)⟩
  · unfold hs
    simp [he]
  · unfold hs
    simp [he, ha]
theorem s2_with {N c : Nat} {r : Nat → Nat → Nat} {zB : CS} (hN : N ≤ 6) (hV : VB N c r) (hB : RB zB c r) {a b : Nat} (ha : a < N) (hb : b < N) {post : Int32 → Unit → Prop} (h : post (nI (sm c (fun i => if tch r a b i then 1 else 0))) ()) : qX2_rulesWith post (nI a) (nI b) zB := by
  have hc := hV.1
  have key : ∀ d i, i + d = c → qX2_rulesWith_5 post (nI a) (nI b) zB (d + 1) (nI (sm i (fun i => if tch r a b i then 1 else 0))) (nI i) := by
    intro d
    induction d with
    | zero =>
      intro i hi
      show qX2_rulesWith_5b post (nI a) (nI b) zB (qX2_rulesWith_5 post (nI a) (nI b) zB 0) _ _
      refine pk_le c i (fun _ => ?_) (fun h => absurd h (by omega)) hB.1 rfl
      rw [show i = c by omega]
      exact h
    | succ d ih =>
      intro i hi
      have hn := ih (i + 1) (by omega)
      have yes : tch r a b i = true → qX2_rulesWith_34 post (nI a) (nI b) zB (qX2_rulesWith_5 post (nI a) (nI b) zB (d + 1)) (nI (sm i (fun i => if tch r a b i then 1 else 0))) (nI i) := by
        intro ht
        show qX2_rulesWith_5 post (nI a) (nI b) zB (d + 1) (_ + _) (_ + _)
        rw [nI_1, nI_1]
        have e : sm (i + 1) (fun i => if tch r a b i then 1 else 0) = sm i (fun i => if tch r a b i then 1 else 0) + 1 := by
          show sm i _ + (if tch r a b i then 1 else 0) = _
          rw [ht]; rfl
        rw [e] at hn
        exact hn
      have no : tch r a b i = false → qX2_rulesWith_37 post (nI a) (nI b) zB (qX2_rulesWith_5 post (nI a) (nI b) zB (d + 1)) (nI (sm i (fun i => if tch r a b i then 1 else 0))) (nI i) := by
        intro ht
        show qX2_rulesWith_5 post (nI a) (nI b) zB (d + 1) _ (_ + _)
        rw [nI_1]
        have e : sm (i + 1) (fun i => if tch r a b i then 1 else 0) = sm i (fun i => if tch r a b i then 1 else 0) := by
          show sm i _ + (if tch r a b i then 1 else 0) = _
          rw [ht]; rfl
        rw [e] at hn
        exact hn
      show qX2_rulesWith_5b post (nI a) (nI b) zB (qX2_rulesWith_5 post (nI a) (nI b) zB (d + 1)) _ _
      refine pk_le c i (fun h => absurd h (by omega)) (fun _ => ?_) hB.1 rfl
      refine e2_contains hN hV hB (by omega) ha _ ?_
      cases h1 : hs r i a with
      | true => exact br_f (by decide) (yes (by unfold tch; rw [h1]; rfl))
      | false =>
        refine br_t rfl (e2_contains hN hV hB (by omega) hb _ ?_)
        cases h2 : hs r i b with
        | true => exact br_f (by decide) (yes (by unfold tch; rw [h1, h2]; rfl))
        | false => exact br_t rfl (no (by unfold tch; rw [h1, h2]; rfl))
  exact ⟨c + 1, key c 0 (by omega)⟩
theorem s2_exchange {N c F : Nat} {r : Nat → Nat → Nat} {zB : CS} (hN : N ≤ 6) (hV : VB N c r) (hB : BKc zB (c, r, F)) (hF : F < 2 ^ N) {a b : Nat} (ha : a < N) (hb : b < N) {post : CS → Prop} (h : ∀ z, BKc z (c, swR r a b, swF F a b) → post z) : qX2_exchange post (nI a) (nI b) zB := by
  have hc := hV.1
  have hF64 : F < 64 := by have := n64 hN; omega
  have key : ∀ d i (z : CS), i + d = c → z 5 0 = nI c → z 5 1 = nI F → (∀ j, j < c → ∀ k, k < 5 → z k j = nI (if j < i then swR r a b j k else r j k)) → qX2_exchange_2 post (nI a) (nI b) (d + 1) (nI i) z := by
    intro d
    induction d with
    | zero =>
      intro i z hi e0 e1 er
      have hBz : BKc z (c, swR r a b, F) := ⟨⟨e0, fun j hj k hk => by rw [er j hj k hk, if_pos (by have : j < c := hj; omega)]⟩, e1⟩
      have fin : ∀ (w : Int32) (wa : Bool), wa = F.testBit a → (wa = true ↔ ¬ w = 0) → qX2_exchange_106 post (nI a) (nI b) (nI i) w z := by
        intro w wa hwa hw
        have fin2 : ∀ (w2 : Int32) (wb : Bool), wb = F.testBit b → (wb = true ↔ ¬ w2 = 0) → qX2_exchange_123 post (nI a) (nI b) w w2 z := by
          intro w2 wb hwb hw2
          refine s2_mark hBz hF64 (by omega) w2 wb hw2 (fun z1 h1 => ?_)
          have hs64 : setb F a wb < 64 := by have := setb_lt' hN hF ha wb; have := n64 hN; omega
          refine s2_mark h1 hs64 (by omega) w wa hw (fun z2 h2 => h z2 ?_)
          rw [hwa, hwb] at h2
          exact h2
        unfold qX2_exchange_106
        rw [e1, has_bit _ (by omega), b_nI _ _ (by omega)]
        cases hbb : F.testBit b with
        | false => exact br_t (by simp) (fin2 0 false hbb.symm ⟨fun q => (by cases q), fun q => absurd rfl q⟩)
        | true => exact br_f (by simp) (fin2 1 true hbb.symm ⟨fun _ => by decide, fun _ => rfl⟩)
      show qX2_exchange_2b post (nI a) (nI b) (qX2_exchange_2 post (nI a) (nI b) 0) (nI i) z
      refine pk_le c i (fun _ => ?_) (fun h => absurd h (by omega)) e0 rfl
      rw [e1, has_bit _ (by omega), b_nI _ _ (by omega)]
      cases hba : F.testBit a with
      | false => exact br_t (by simp) (fin 0 false hba.symm ⟨fun q => (by cases q), fun q => absurd rfl q⟩)
      | true => exact br_f (by simp) (fin 1 true hba.symm ⟨fun _ => by decide, fun _ => rfl⟩)
    | succ d ih =>
      intro i z hi e0 e1 er
      have hic : i < c := by omega
      obtain ⟨v0, v1, v2, v3, v4, v5⟩ := hV.2 i hic
      have ci : (nI i).toNatClampNeg = i := nI_clamp (by omega)
      have ii : vp_in (nI i) 16 := vp_in_nI (by omega) (by decide)
      have f : ∀ k, k < 5 → z k i = nI (r i k) := fun k hk => by rw [er i hic k hk, if_neg (by omega)]
      have hle := arN_le (r i 0)
      -- behind the rule: which fields have been exchanged
      have nx : ∀ (z' : CS), z' 5 0 = nI c → z' 5 1 = nI F → (∀ j, j < c → j ≠ i → ∀ k, k < 5 → z' k j = z k j) → (∀ k, k < 5 → z' k i = nI (swR r a b i k)) → qX2_exchange_84 post (nI a) (nI b) (qX2_exchange_2 post (nI a) (nI b) (d + 1)) (nI i) (nI (arN (r i 0))) z' := by
        intro z' g0 g1 g2 g3
        show qX2_exchange_2 post (nI a) (nI b) (d + 1) (_ + _) _
        rw [nI_1]
        refine ih (i + 1) z' (by omega) g0 g1 (fun j hj k hk => ?_)
        by_cases hji : j = i
        · subst hji
          rw [if_pos (by omega)]; exact g3 k hk
        · rw [g2 j hj hji k hk, er j hj k hk]
          by_cases hlt : j < i
          · rw [if_pos hlt, if_pos (by omega)]
          · rw [if_neg hlt, if_neg (by omega)]
      have sw4 : swR r a b i 4 = swp (r i 4) a b := rfl
      have sw0 : swR r a b i 0 = r i 0 := rfl
      have sw3 : swR r a b i 3 = r i 3 := rfl
      show qX2_exchange_2b post (nI a) (nI b) (qX2_exchange_2 post (nI a) (nI b) (d + 1)) (nI i) z
      refine pk_le c i (fun h => absurd h (by omega)) (fun _ => ?_) e0 rfl
      rw [ci, f 0 (by omega), xar_nI _ v0, f 4 (by omega), e2_swapped, swp_nI (by omega) (by omega) (by omega)]
      refine ⟨ii, vp_in_nI v0 (by decide), ii, ii, ?_⟩
      refine pk_le (arN (r i 0)) 0 (fun h0 => ?_) (fun h0 => ⟨ii, ?_⟩) rfl rfl
      · refine pk_le (arN (r i 0)) 1 (fun _ => ?_) (fun h => absurd h (by omega)) rfl rfl
        refine nx _ e0 e1 (fun j hj hji k hk => ?_) (fun k hk => ?_)
        · by_cases hk4 : k = 4
          · subst hk4; rw [st_s, pk_un hji]
          · rw [st_n _ _ _ hk4]
        · rcases (show k = 0 ∨ k = 1 ∨ k = 2 ∨ k = 3 ∨ k = 4 by omega) with rfl | rfl | rfl | rfl | rfl
          · exact f 0 (by omega)
          · rw [show swR r a b i 1 = r i 1 by unfold swR; rw [if_neg (by decide), if_neg (fun e => absurd e.2 (by omega)), if_neg (fun e => absurd e.1 (by decide))]]; exact f 1 (by omega)
          · rw [show swR r a b i 2 = r i 2 by unfold swR; rw [if_neg (by decide), if_neg (fun e => absurd e.1 (by decide)), if_neg (fun e => absurd e.2 (by omega))]]; exact f 2 (by omega)
          · exact f 3 (by omega)
          · rw [st_s, pk_us]; rfl
      · have sw1 : swR r a b i 1 = swp (r i 1) a b := by unfold swR; rw [if_neg (by decide), if_pos ⟨rfl, h0⟩]
        rw [st_n _ _ _ (show (1 : Nat) ≠ 4 by decide), f 1 (by omega), e2_swapped, swp_nI (by omega) (by omega) (by omega)]
        refine ⟨ii, ?_⟩
        unfold qX2_exchange_61
        rw [ci, st_n _ _ _ (show (2 : Nat) ≠ 1 by decide), st_n _ _ _ (show (2 : Nat) ≠ 4 by decide), f 2 (by omega), e2_swapped, swp_nI (by omega) (by omega) (by omega)]
        refine pk_le (arN (r i 0)) 1 (fun h1 => ?_) (fun h1 => ⟨ii, ii, ?_⟩) rfl rfl
        · refine nx _ e0 e1 (fun j hj hji k hk => ?_) (fun k hk => ?_)
          · by_cases hk1 : k = 1
            · subst hk1; rw [st_s, pk_un hji]; rfl
            · rw [st_n _ _ _ hk1]
              by_cases hk4 : k = 4
              · subst hk4; rw [st_s, pk_un hji]
              · rw [st_n _ _ _ hk4]
          · rcases (show k = 0 ∨ k = 1 ∨ k = 2 ∨ k = 3 ∨ k = 4 by omega) with rfl | rfl | rfl | rfl | rfl
            · exact f 0 (by omega)
            · rw [st_s, pk_us, sw1]
            · rw [show swR r a b i 2 = r i 2 by unfold swR; rw [if_neg (by decide), if_neg (fun e => absurd e.1 (by decide)), if_neg (fun e => absurd e.2 (by omega))]]; exact f 2 (by omega)
            · exact f 3 (by omega)
            · show upd (z 4) i _ i = _
              rw [pk_us]; rfl
        · refine nx _ e0 e1 (fun j hj hji k hk => ?_) (fun k hk => ?_)
          · by_cases hk2 : k = 2
            · subst hk2; rw [st_s, pk_un hji]; rfl
            · rw [st_n _ _ _ hk2]
              by_cases hk1 : k = 1
              · subst hk1; rw [st_s, pk_un hji]; rfl
              · rw [st_n _ _ _ hk1]
                by_cases hk4 : k = 4
                · subst hk4; rw [st_s, pk_un hji]
                · rw [st_n _ _ _ hk4]
          · rcases (show k = 0 ∨ k = 1 ∨ k = 2 ∨ k = 3 ∨ k = 4 by omega) with rfl | rfl | rfl | rfl | rfl
            · exact f 0 (by omega)
            · show upd (z 1) i _ i = _
              rw [pk_us, sw1]
            · rw [st_s, pk_us, show swR r a b i 2 = swp (r i 2) a b by unfold swR; rw [if_neg (by decide), if_neg (fun e => absurd e.1 (by decide)), if_pos ⟨rfl, h1⟩]]
            · exact f 3 (by omega)
            · show upd (z 4) i _ i = _
              rw [pk_us]; rfl
  exact ⟨c + 1, key c 0 zB (by omega) hB.1.1 hB.2 (fun j hj k hk => by rw [if_neg (by omega)]; exact hB.1.2 j hj k hk)⟩
