/-! ===== Int32 by its bits: bt x i ===== -/
def bt (x : Int32) (i : Nat) : Bool := x.toBitVec.getLsbD i
theorem b_ext {x y : Int32} (h : ∀ i, i < 32 → bt x i = bt y i) : x = y := Int32.toBitVec_inj.mp (BitVec.eq_of_getLsbD_eq (fun i hi => h i hi))
theorem b_or (x y : Int32) (i : Nat) : bt (x ||| y) i = (bt x i || bt y i) := by unfold bt; rw [Int32.toBitVec_or, BitVec.getLsbD_or]
theorem b_and (x y : Int32) (i : Nat) : bt (x &&& y) i = (bt x i && bt y i) := by unfold bt; rw [Int32.toBitVec_and, BitVec.getLsbD_and]
theorem b_xor (x y : Int32) (i : Nat) : bt (x ^^^ y) i = (bt x i ^^ bt y i) := by unfold bt; rw [Int32.toBitVec_xor, BitVec.getLsbD_xor]
theorem b_big {x : Int32} {i : Nat} (h : 32 ≤ i) : bt x i = false := BitVec.getLsbD_of_ge _ _ h
theorem b_m1 : ∀ i, i < 32 → bt (-1) i = true := by decide +kernel
theorem b_0 (i : Nat) : bt 0 i = false := BitVec.getLsbD_zero
theorem s_l : ∀ n, n < 32 → ((nI n &&& 31).toBitVec.smod 32).toNat = n := by decide +kernel
theorem s_u : ∀ n, n < 32 → (((nI n).toUInt32 &&& Int32.toUInt32 31).toBitVec % 32).toNat = n := by decide +kernel
theorem b_shl (n : Nat) (hn : n < 32) (x : Int32) {i : Nat} (hi : i < 32) : bt (x <<< (nI n &&& 31)) i = (decide (n ≤ i) && bt x (i - n)) := by
  unfold bt
  rw [Int32.toBitVec_shiftLeft]
  show (x.toBitVec <<< ((nI n &&& 31).toBitVec.smod 32).toNat).getLsbD i = _
  rw [s_l n hn, BitVec.getLsbD_shiftLeft]
  rcases Nat.lt_or_ge i n with h | h
  · simp [h, Nat.not_le.mpr h]
  · simp [hi, h, Nat.not_lt.mpr h]
theorem b_ushr (n : Nat) (hn : n < 32) (x : Int32) (i : Nat) : bt ((x.toUInt32 >>> ((nI n).toUInt32 &&& Int32.toUInt32 31)).toInt32) i = bt x (n + i) := by
  show (x.toUInt32 >>> ((nI n).toUInt32 &&& Int32.toUInt32 31)).toBitVec.getLsbD i = x.toUInt32.toBitVec.getLsbD (n + i)
  rw [UInt32.toBitVec_shiftRight]
  show (x.toUInt32.toBitVec >>> (((nI n).toUInt32 &&& Int32.toUInt32 31).toBitVec % 32).toNat).getLsbD i = _
  rw [s_u n hn, BitVec.getLsbD_ushiftRight]
theorem b_sshr (n : Nat) (hn : n < 32) (x : Int32) {i : Nat} (hi : i < 32) : bt (x >>> (nI n &&& 31)) i = if n + i < 32 then bt x (n + i) else bt x 31 := by
  unfold bt
  rw [Int32.toBitVec_shiftRight]
  show (x.toBitVec.sshiftRight ((nI n &&& 31).toBitVec.smod 32).toNat).getLsbD i = _
  rw [s_l n hn, BitVec.getLsbD_sshiftRight, BitVec.msb_eq_getLsbD_last]
  simp [hi]
/-! ===== nI under and, xor, >>>, one bit, 65535 ===== -/
theorem nx_and (a b : Nat) : nI a &&& nI b = nI (a &&& b) := by
  apply Int32.toBitVec_inj.1
  show BitVec.ofNat 32 a &&& BitVec.ofNat 32 b = BitVec.ofNat 32 (a &&& b)
  apply BitVec.eq_of_getLsbD_eq
  intro i hi
  simp [hi]
theorem nx_or (a b : Nat) : nI a ||| nI b = nI (a ||| b) := by
  apply Int32.toBitVec_inj.1
  show BitVec.ofNat 32 a ||| BitVec.ofNat 32 b = BitVec.ofNat 32 (a ||| b)
  apply BitVec.eq_of_getLsbD_eq
  intro i hi
  simp [hi]
theorem b_nI (n i : Nat) (h : i < 32) : bt (nI n) i = n.testBit i := by
  show (BitVec.ofNat 32 n).getLsbD i = n.testBit i
  rw [BitVec.getLsbD_ofNat]
  simp [h]
/-! ===== own: what holds, by cases ===== -/
theorem brq {c A B : Prop} [Decidable c] : ((c → A) ∧ (¬ c → B)) = (if c then A else B) := by
  by_cases h : c <;> simp [h]
theorem vin {k N : Nat} (hk : k < 2 ^ 31) (hN : N < 2 ^ 31) : vp_in (nI k) N = (k < N) := by
  apply propext
  rw [vp_in_iff, nI_toInt hk]
  omega
theorem nar0 : narrow .boolean (.int 0) = .int 0 := rfl
theorem nar1 : narrow .boolean (.int 1) = .int 1 := rfl
theorem n1s : ∀ q, q < 31 → ((1 : Int32) <<< (nI q &&& 31)) = nI (2 ^ q) := by decide +kernel
theorem l0 : (0 : Int32) = nI 0 := rfl
theorem l1 : (1 : Int32) = nI 1 := rfl
theorem l2 : (2 : Int32) = nI 2 := rfl
theorem l3 : (3 : Int32) = nI 3 := rfl
theorem l4 : (4 : Int32) = nI 4 := rfl
theorem l5 : (5 : Int32) = nI 5 := rfl
theorem l6 : (6 : Int32) = nI 6 := rfl
theorem l7 : (7 : Int32) = nI 7 := rfl
theorem l8 : (8 : Int32) = nI 8 := rfl
theorem l16 : (16 : Int32) = nI 16 := rfl
theorem l64 : (64 : Int32) = nI 64 := rfl
theorem l80 : (80 : Int32) = nI 80 := rfl
theorem l81 : (81 : Int32) = nI 81 := rfl
theorem l82 : (82 : Int32) = nI 82 := rfl
theorem lt8 : (80 : Int32).toNatClampNeg = 80 := rfl
theorem lt81 : (81 : Int32).toNatClampNeg = 81 := rfl
theorem st_s (b : CS) (j i : Nat) (x : Int32) : st b j i x j = upd (b j) i x := by
  have h : Nat.beq j j = true := Nat.beq_refl j
  unfold st
  rw [h]
theorem st_n (b : CS) {j k : Nat} (i : Nat) (x : Int32) (h : k ≠ j) : st b j i x k = b k := by
  have h1 : Nat.beq k j = false := by
    cases hb : Nat.beq k j with
    | true => exact absurd (Nat.eq_of_beq_eq_true hb) h
    | false => rfl
  unfold st
  rw [h1]
theorem sr_s (b : CS) (j : Nat) (f : Nat → Int32) : sr b j f j = f := by
  have h : Nat.beq j j = true := Nat.beq_refl j
  unfold sr
  rw [h]
theorem sr_n (b : CS) {j k : Nat} (f : Nat → Int32) (h : k ≠ j) : sr b j f k = b k := by
  have h1 : Nat.beq k j = false := by
    cases hb : Nat.beq k j with
    | true => exact absurd (Nat.eq_of_beq_eq_true hb) h
    | false => rfl
  unfold sr
  rw [h1]
theorem sR_s (z : Nat → CS) (j : Nat) (b : CS) : sR z j b j = b := by
  have h : Nat.beq j j = true := Nat.beq_refl j
  unfold sR
  rw [h]
theorem sR_n (z : Nat → CS) {j k : Nat} (b : CS) (h : k ≠ j) : sR z j b k = z k := by
  have h1 : Nat.beq k j = false := by
    cases hb : Nat.beq k j with
    | true => exact absurd (Nat.eq_of_beq_eq_true hb) h
    | false => rfl
  unfold sR
  rw [h1]
/-! ===== the small functions ===== -/
theorem e7_in (post : Int32 → Unit → Prop) (v lo hi : Int32) : qX7_in post v lo hi = post (if v < lo then 0 else if hi < v then 0 else 1) () := by
  by_cases h : v < lo <;> by_cases h2 : hi < v <;> simp [qX7_in, qX7_in_14, h, h2]
theorem e7_isState (post : Int32 → Unit → Prop) (q : Int32) (z : CS) : qX7_isState post q z = post (if q < 0 then 0 else if z 11 1 - 1 < q then 0 else 1) () := by
  unfold qX7_isState
  rw [e7_in]
  by_cases h : q < 0 <;> by_cases h2 : z 11 1 - 1 < q <;> simp [h, h2, nar0, nar1]
theorem e7_isSize (post : Int32 → Unit → Prop) (q : Int32) : qX7_isSize post q = post (if q < 1 then 0 else if 7 < q then 0 else 1) () := by
  unfold qX7_isSize
  rw [e7_in]
  by_cases h : q < 1 <;> by_cases h2 : 7 < q <;> simp [h, h2, nar0, nar1]
theorem e7_isTree (post : Int32 → Unit → Prop) (q : Int32) : qX7_isTree post q = post (if q < 0 then 0 else if 2277 < q then 0 else 1) () := by
  unfold qX7_isTree
  rw [e7_in]
  by_cases h : q < 0 <;> by_cases h2 : 2277 < q <;> simp [h, h2, nar0, nar1]
def arN (f : Nat) : Nat := if f < 2 then 0 else if f < 3 then 1 else 2
theorem e7_arity (post : Int32 → Unit → Prop) (f : Nat) (hf : f < 2 ^ 31) : qX7_arity post (nI f) = post (nI (arN f)) () := by
  unfold qX7_arity arN
  simp only [brq, l2, l3, nI_leI (show 2 < 2 ^ 31 by decide) hf, nI_leI (show 3 < 2 ^ 31 by decide) hf]
  by_cases h : f < 2
  · simp only [h, if_true, if_neg (Nat.not_le.mpr h)]; rfl
  · by_cases h3 : f < 3
    · simp only [h, h3, if_true, if_false, if_neg (Nat.not_le.mpr h3), if_pos (Nat.not_lt.mp h)]; rfl
    · simp only [h, h3, if_false, if_pos (Nat.not_lt.mp h3), if_pos (Nat.not_lt.mp h)]
theorem has_bit (x : Int32) {q : Nat} (hq : q < 32) : ((x >>> (nI q &&& 31)) &&& 1) = if bt x q then 1 else 0 := by
  apply b_ext
  intro i hi
  rw [b_and, b_sshr q hq _ hi]
  rcases Nat.eq_zero_or_pos i with h | h
  · subst h
    have h1 : bt 1 0 = true := by decide +kernel
    have h0 : bt 0 0 = false := by decide +kernel
    by_cases hb : bt x q = true
    · simp [h1, hb, hq]
    · simp [h0, hb, hq]
  · have h1 : bt 1 i = false := (by decide +kernel : ∀ i, i < 32 → 0 < i → bt 1 i = false) i hi h
    by_cases hb : bt x q = true
    · simp [h1, hb]
    · simp [hb, h1, b_0]
theorem e7_has (post : Int32 → Unit → Prop) {a q : Nat} (hq : q < 32) : qX7_has post (nI a) (nI q) = post (if a.testBit q then 1 else 0) () := by
  unfold qX7_has
  rw [brq, has_bit _ hq, b_nI a q hq]
  by_cases h : a.testBit q = true <;> simp [h]
def ful (k : Nat) (same : Bool) : Bool := k == 0 || ((k == 1) == same)
def bI (b : Bool) : Int32 := if b then 1 else 0
theorem e7_ful (post : Int32 → Unit → Prop) {k : Nat} (hk : k < 3) (same : Bool) : qX7_isFulfilled post (nI k) (bI same) = post (bI (ful k same)) () := by
  rcases (show k = 0 ∨ k = 1 ∨ k = 2 by omega) with rfl | rfl | rfl <;> cases same <;> simp [qX7_isFulfilled, qX7_isFulfilled_14, qX7_isFulfilled_18, bI, ful, nI]
theorem e7_swapped (post : Int32 → Unit → Prop) (q a b : Int32) : qX7_swapped post q a b = post (if q = a then b else if q = b then a else q) () := by
  unfold qX7_swapped
  rw [brq, brq]
  by_cases h : q = a
  · rw [if_pos h, if_pos h]
  · rw [if_neg h, if_neg h]
    by_cases h2 : q = b
    · rw [if_pos h2, if_pos h2]
    · rw [if_neg h2, if_neg h2]
theorem e2_swapped (post : Int32 → Unit → Prop) (q a b : Int32) : qX2_swapped post q a b = post (if q = a then b else if q = b then a else q) () := by
  unfold qX2_swapped
  rw [brq, brq]
  by_cases h : q = a
  · rw [if_pos h, if_pos h]
  · rw [if_neg h, if_neg h]
    by_cases h2 : q = b
    · rw [if_pos h2, if_pos h2]
    · rw [if_neg h2, if_neg h2]
theorem e6_isSymbol (post : Int32 → Unit → Prop) (q : Int32) : qX6_isSymbol post q = post (if q < 0 then 0 else if 5 ≤ q then 0 else 1) () := by
  by_cases h : q < 0 <;> by_cases h2 : 5 ≤ q <;> simp [qX6_isSymbol, qX6_isSymbol_13, h, h2]
theorem e6_isTree (post : Int32 → Unit → Prop) (q : Int32) : qX6_isTree post q = post (if q < 0 then 0 else if 2278 ≤ q then 0 else 1) () := by
  by_cases h : q < 0 <;> by_cases h2 : 2278 ≤ q <;> simp [qX6_isTree, qX6_isTree_15, h, h2]
theorem e6_isSize (post : Int32 → Unit → Prop) (q : Int32) : qX6_isSize post q = post (if q < 1 then 0 else if 7 < q then 0 else 1) () := by
  by_cases h : q < 1 <;> by_cases h2 : 7 < q <;> simp [qX6_isSize, qX6_isSize_15, h, h2]
theorem e6_isState (post : Int32 → Unit → Prop) (q : Int32) (z : CS) : qX6_isState post q z = post (if q < 0 then 0 else if z 1 2 ≤ q then 0 else 1) () := by
  by_cases h : q < 0 <;> by_cases h2 : z 1 2 ≤ q <;> simp [qX6_isState, qX6_isState_16, h, h2]
theorem e6_isChildTree (post : Int32 → Unit → Prop) (q b : Int32) : qX6_isChildTree post q b = post (if b = 0 then (if q = 0 then 1 else 0) else if q < 0 then 0 else if 2278 ≤ q then 0 else 1) () := by
  unfold qX6_isChildTree
  rw [e6_isTree]
  by_cases hb : b = 0
  · by_cases h : q = 0 <;> simp [hb, h]
  · by_cases h : q < 0 <;> by_cases h2 : 2278 ≤ q <;> simp [hb, h, h2, nar0, nar1]
theorem e6_isChildState (post : Int32 → Unit → Prop) (q b : Int32) (z : CS) : qX6_isChildState post q b z = post (if b = 0 then (if q = 0 then 1 else 0) else if q < 0 then 0 else if z 1 2 ≤ q then 0 else 1) () := by
  unfold qX6_isChildState
  rw [e6_isState]
  by_cases hb : b = 0
  · by_cases h : q = 0 <;> simp [hb, h]
  · by_cases h : q < 0 <;> by_cases h2 : z 1 2 ≤ q <;> simp [hb, h, h2, nar0, nar1]
theorem e6_isConstraint (post : Int32 → Unit → Prop) (q b : Int32) : qX6_isConstraint post q b = post (if b = 0 then (if q = 0 then 1 else 0) else if q < 0 then 0 else if 2 < q then 0 else 1) () := by
  by_cases hb : b = 0
  · by_cases h : q = 0 <;> simp [qX6_isConstraint, hb, h]
  · by_cases h : q < 0 <;> by_cases h2 : 2 < q <;> simp [qX6_isConstraint, qX6_isConstraint_17, hb, h, h2]
theorem e6_setCount (post : Int32 → Unit → Prop) (z : CS) : qX6_setCount post z = post ((1 : Int32) <<< (z 1 2 &&& 31)) () := rfl
