/-! laid by gen.py: the worlds, and for each method what must hold (q..) -/
abbrev wS (cI : ClassId) (aS aT aB aH aM aC aZ : Nat → Nat) (z : CS) : va_W := [(aS 0, .inr (6, [.ref (aT 0), .ref (aB 0), .ref (aH 0), .ref (aM 0), .ref (aC 0), .ref (aZ 0), .ref (aS 1), .int (z 1 0), .int (z 1 1), .int (z 1 2)])), (aS 1, .inl (cI, 2278, .inl (z 0)))]
abbrev wT (cI : ClassId) (aT : Nat → Nat) (z : CS) : va_W := [(aT 0, .inr (5, [.ref (aT 1), .ref (aT 2), .int (z 2 0)])), (aT 1, .inl (cI, 2278, .inl (z 0))), (aT 2, .inl (cI, 2278, .inl (z 1)))]
abbrev wB (cI : ClassId) (aB : Nat → Nat) (z : CS) : va_W := [(aB 0, .inr (2, [.ref (aB 1), .ref (aB 2), .ref (aB 3), .ref (aB 4), .ref (aB 5), .int (z 5 0), .int (z 5 1)])), (aB 1, .inl (cI, 16, .inl (z 0))), (aB 2, .inl (cI, 16, .inl (z 1))), (aB 3, .inl (cI, 16, .inl (z 2))), (aB 4, .inl (cI, 16, .inl (z 3))), (aB 5, .inl (cI, 16, .inl (z 4)))]
abbrev wM (cI : ClassId) (aM : Nat → Nat) (z : CS) : va_W := [(aM 0, .inr (3, [.ref (aM 1), .ref (aM 2), .ref (aM 3), .ref (aM 4), .int (z 4 0), .int (z 4 1)])), (aM 1, .inl (cI, 5, .inl (z 0))), (aM 2, .inl (cI, 64, .inl (z 1))), (aM 3, .inl (cI, 64, .inl (z 2))), (aM 4, .inl (cI, 16, .inl (z 3)))]
abbrev wC (cI : ClassId) (aC : Nat → Nat) (z : CS) : va_W := [(aC 0, .inr (4, [.ref (aC 1), .ref (aC 2), .ref (aC 3)])), (aC 1, .inl (cI, 7, .inl (z 0))), (aC 2, .inl (cI, 7, .inl (z 1))), (aC 3, .inl (cI, 42, .inl (z 2)))]
abbrev wZ (cI : ClassId) (aZ : Nat → Nat) (z : CS) : va_W := [(aZ 0, .inr (0, [.ref (aZ 1), .ref (aZ 2), .ref (aZ 3)])), (aZ 1, .inl (cI, 64, .inl (z 0))), (aZ 2, .inl (cI, 64, .inl (z 1))), (aZ 3, .inl (cI, 64, .inl (z 2)))]
abbrev wN (cI : ClassId) (aN : Nat → Nat) (z : CS) : va_W := [(aN 0, .inr (7, [.int (z 11 0), .ref (aN 1), .ref (aN 2), .ref (aN 3), .ref (aN 4), .ref (aN 5), .ref (aN 6), .ref (aN 7), .int (z 11 1), .ref (aN 8), .ref (aN 9), .int (z 11 2), .ref (aN 10), .ref (aN 11)])), (aN 1, .inl (cI, 2278, .inl (z 0))), (aN 2, .inl (cI, 2278, .inl (z 1))), (aN 3, .inl (cI, 2278, .inl (z 2))), (aN 4, .inl (cI, 2278, .inl (z 3))), (aN 5, .inl (cI, 2278, .inl (z 4))), (aN 6, .inl (cI, 9, .inl (z 5))), (aN 7, .inl (cI, 13668, .inl (z 6))), (aN 8, .inl (cI, 82, .inl (z 7))), (aN 9, .inl (cI, 410, .inl (z 8))), (aN 10, .inl (cI, 64, .inl (z 9))), (aN 11, .inl (cI, 64, .inl (z 10)))]
abbrev wB0 (aB : Nat → Nat) (z : CS) : va_W := [(aB 0, .inr (2, [.ref (aB 1), .ref (aB 2), .ref (aB 3), .ref (aB 4), .ref (aB 5), .int (z 5 0), .int (z 5 1)]))]
abbrev wH (cO : ClassId) (aH : Nat → Nat) (aR : Nat → Nat → Nat) (z : CS) : va_W := [(aH 0, .inr (1, [.ref (aH 1), .int (z 0 0), .int (z 0 1)])), (aH 1, .inl (cO, 5, .inr (.inr (.inr (.inr (fun j => some (aR j 0)))))))]
abbrev wR (cI : ClassId) (aR : Nat → Nat → Nat) (z : Nat → CS) : va_W := wB cI (aR 0) (z 0) ++ (wB cI (aR 1) (z 1) ++ (wB cI (aR 2) (z 2) ++ (wB cI (aR 3) (z 3) ++ wB cI (aR 4) (z 4))))
def qX0_isReached (post : Int32 → (Unit) → Prop) (x1 : Int32) (zZ : CS) : Prop :=
  vp_in x1 64 ∧ ((((zZ 0) x1.toNatClampNeg) ≤ (0 : Int32) → (post (0 : Int32) ())) ∧ (¬ ((zZ 0) x1.toNatClampNeg) ≤ (0 : Int32) → (post (1 : Int32) ())))
def qJ7_fill_53178_5b (post : ((Nat → Int32)) → Prop) (fn : Nat) (x1 : Int32)  (k5 : (Int32) → (Int32) → (Nat → Int32) → Prop) (y2 : Int32) (y3 : Int32) (zF : Nat → Int32) : Prop :=
  (y3 ≤ y2 → (post (zF))) ∧ (¬ y3 ≤ y2 → (vp_in y2 fn ∧ (k5 (y2 + (1 : Int32)) y3 (upd zF y2.toNatClampNeg x1))))
def qJ7_fill_53178_5 (post : ((Nat → Int32)) → Prop) (fn : Nat) (x1 : Int32)  (n : Nat) : (Int32) → (Int32) → (Nat → Int32) → Prop :=
  Nat.rec (motive := fun _ => (Int32) → (Int32) → (Nat → Int32) → Prop) (fun _ _ _ => False) (fun _ k => qJ7_fill_53178_5b post fn x1 k) n
def qJ7_fill_53178 (post : ((Nat → Int32)) → Prop) (fn : Nat) (x1 : Int32) (zF : Nat → Int32) : Prop :=
  ∃ n : Nat, qJ7_fill_53178_5 post fn x1 n (0 : Int32) (Int32.ofNat fn) zF
def qX3_step_88 (post : Int32 → (Unit) → Prop) (x1 : Int32) (x2 : Int32) (x3 : Int32) (x4 : Int32) (zM : CS)  (y5 : Int32) (y6 : Int32) (y7 : Int32) : Prop :=
  post y6 ()
def qX3_step_82 (post : Int32 → (Unit) → Prop) (x1 : Int32) (x2 : Int32) (x3 : Int32) (x4 : Int32) (zM : CS) (k45 : (Int32) → (Int32) → (Int32) → Prop) (y5 : Int32) (y6 : Int32) (y7 : Int32) : Prop :=
  k45 y5 y6 (y7 + (1 : Int32))
def qX3_step_45b (post : Int32 → (Unit) → Prop) (x1 : Int32) (x2 : Int32) (x3 : Int32) (x4 : Int32) (zM : CS)  (k45 : (Int32) → (Int32) → (Int32) → Prop) (y5 : Int32) (y6 : Int32) (y7 : Int32) : Prop :=
  ((16 : Int32) ≤ y7 → (qX3_step_88 post x1 x2 x3 x4 zM y5 y6 y7)) ∧ (¬ (16 : Int32) ≤ y7 → (((y5 >>> (y7 &&& 31)) = (0 : Int32) → (qX3_step_88 post x1 x2 x3 x4 zM y5 y6 y7)) ∧ (¬ (y5 >>> (y7 &&& 31)) = (0 : Int32) → ((((y5 >>> (y7 &&& 31)) &&& (1 : Int32)) = (0 : Int32) → (qX3_step_82 post x1 x2 x3 x4 zM k45 y5 y6 y7)) ∧ (¬ ((y5 >>> (y7 &&& 31)) &&& (1 : Int32)) = (0 : Int32) → (vp_in y7 16 ∧ (qX3_step_82 post x1 x2 x3 x4 zM k45 y5 (y6 ||| ((zM 3) y7.toNatClampNeg)) y7)))))))
def qX3_step_45 (post : Int32 → (Unit) → Prop) (x1 : Int32) (x2 : Int32) (x3 : Int32) (x4 : Int32) (zM : CS)  (n : Nat) : (Int32) → (Int32) → (Int32) → Prop :=
  Nat.rec (motive := fun _ => (Int32) → (Int32) → (Int32) → Prop) (fun _ _ _ => False) (fun _ k => qX3_step_45b post x1 x2 x3 x4 zM k) n
def qX3_step_36 (post : Int32 → (Unit) → Prop) (x1 : Int32) (x2 : Int32) (x3 : Int32) (x4 : Int32) (zM : CS)  (w0 : Int32) (w1 : Int32) : Prop :=
  ∃ n : Nat, qX3_step_45 post x1 x2 x3 x4 zM n (w0 &&& w1) (0 : Int32) (0 : Int32)
def qX3_step (post : Int32 → (Unit) → Prop) (x1 : Int32) (x2 : Int32) (x3 : Int32) (x4 : Int32) (zM : CS) : Prop :=
  vp_in x1 5 ∧ (vp_in x2 64 ∧ (vp_in x3 64 ∧ ((x4 = (0 : Int32) → (qX3_step_36 post x1 x2 x3 x4 zM ((((zM 0) x1.toNatClampNeg) &&& ((zM 1) x2.toNatClampNeg)) &&& ((zM 2) x3.toNatClampNeg)) (zM 4 1))) ∧ (¬ x4 = (0 : Int32) → (qX3_step_36 post x1 x2 x3 x4 zM ((((zM 0) x1.toNatClampNeg) &&& ((zM 1) x2.toNatClampNeg)) &&& ((zM 2) x3.toNatClampNeg)) (zM 4 0))))))
def qX0_raise (post : ((CS)) → Prop) (x1 : Int32) (x2 : Int32) (zZ : CS) : Prop :=
  vp_in x1 64 ∧ (vp_in x1 64 ∧ (post (st zZ 0 x1.toNatClampNeg (if (2 : Int32) < (((zZ 0) x1.toNatClampNeg) + x2) then (2 : Int32) else (((zZ 0) x1.toNatClampNeg) + x2)))))
def qX0_countConstants_2b (post : ((CS)) → Prop) (zM : CS)  (k2 : (Int32) → (CS) → Prop) (y2 : Int32) (zZ : CS) : Prop :=
  ((2 : Int32) ≤ y2 → (post (zZ))) ∧ (¬ (2 : Int32) ≤ y2 → (qX3_step (fun r13 (u13 : Unit) => qX0_raise (fun (u17 : (CS)) => k2 (y2 + (1 : Int32)) u17) r13 (1 : Int32) zZ) y2 (0 : Int32) (0 : Int32) (1 : Int32) zM))
def qX0_countConstants_2 (post : ((CS)) → Prop) (zM : CS)  (n : Nat) : (Int32) → (CS) → Prop :=
  Nat.rec (motive := fun _ => (Int32) → (CS) → Prop) (fun _ _ => False) (fun _ k => qX0_countConstants_2b post zM k) n
def qX0_countConstants (post : ((CS)) → Prop)  (zM : CS) (zZ : CS) : Prop :=
  ∃ n : Nat, qX0_countConstants_2 post zM n (0 : Int32) zZ
def qX0_countUnary_34 (post : ((CS)) → Prop) (x2 : Int32) (zM : CS) (k2 : (Int32) → (CS) → Prop) (y3 : Int32) (zZ : CS) : Prop :=
  k2 (y3 + (1 : Int32)) zZ
def qX0_countUnary_2b (post : ((CS)) → Prop) (x2 : Int32) (zM : CS)  (k2 : (Int32) → (CS) → Prop) (y3 : Int32) (zZ : CS) : Prop :=
  (x2 ≤ y3 → (post (zZ))) ∧ (¬ x2 ≤ y3 → (vp_in y3 64 ∧ ((((zZ 1) y3.toNatClampNeg) ≤ (0 : Int32) → (qX0_countUnary_34 post x2 zM k2 y3 zZ)) ∧ (¬ ((zZ 1) y3.toNatClampNeg) ≤ (0 : Int32) → (qX3_step (fun r22 (u22 : Unit) => vp_in y3 64 ∧ (qX0_raise (fun (u31 : (CS)) => qX0_countUnary_34 post x2 zM k2 y3 u31) r22 ((zZ 1) y3.toNatClampNeg) zZ)) (2 : Int32) y3 (0 : Int32) (1 : Int32) zM)))))
def qX0_countUnary_2 (post : ((CS)) → Prop) (x2 : Int32) (zM : CS)  (n : Nat) : (Int32) → (CS) → Prop :=
  Nat.rec (motive := fun _ => (Int32) → (CS) → Prop) (fun _ _ => False) (fun _ k => qX0_countUnary_2b post x2 zM k) n
def qX0_countUnary (post : ((CS)) → Prop) (x2 : Int32) (zM : CS) (zZ : CS) : Prop :=
  ∃ n : Nat, qX0_countUnary_2 post x2 zM n (0 : Int32) zZ
def qX0_countPairs_52 (post : ((CS)) → Prop) (x2 : Int32) (x3 : Int32) (x4 : Int32) (zM : CS)  (y5 : Int32) (zZ : CS) : Prop :=
  (y5 ≤ (0 : Int32) → (post (zZ))) ∧ (¬ y5 ≤ (0 : Int32) → (qX3_step (fun r64 (u64 : Unit) => qX0_raise (fun (u69 : (CS)) => post (u69)) r64 y5 zZ) x2 x3 x4 (0 : Int32) zM))
def qX0_countPairs (post : ((CS)) → Prop) (x2 : Int32) (x3 : Int32) (x4 : Int32) (zM : CS) (zZ : CS) : Prop :=
  vp_in x3 64 ∧ (vp_in x4 64 ∧ ((x3 = x4 → (qX3_step (fun r29 (u29 : Unit) => vp_in x3 64 ∧ (qX0_raise (fun (u38 : (CS)) => vp_in x3 64 ∧ (qX0_countPairs_52 post x2 x3 x4 zM ((((zZ 1) x3.toNatClampNeg) * ((zZ 1) x4.toNatClampNeg)) - ((u38 1) x3.toNatClampNeg)) u38)) r29 ((zZ 1) x3.toNatClampNeg) zZ)) x2 x3 x4 (1 : Int32) zM)) ∧ (¬ x3 = x4 → (qX0_countPairs_52 post x2 x3 x4 zM (((zZ 1) x3.toNatClampNeg) * ((zZ 1) x4.toNatClampNeg)) zZ))))
def qX0_countBinary_59 (post : ((CS)) → Prop) (x2 : Int32) (zM : CS) (k2 : (Int32) → (CS) → Prop) (y3 : Int32) (y4 : Int32) (zZ : CS) : Prop :=
  k2 (y3 + (1 : Int32)) zZ
def qX0_countBinary_53 (post : ((CS)) → Prop) (x2 : Int32) (zM : CS) (k2 : (Int32) → (CS) → Prop) (k10 : (Int32) → (Int32) → (CS) → Prop) (y3 : Int32) (y4 : Int32) (zZ : CS) : Prop :=
  k10 y3 (y4 + (1 : Int32)) zZ
def qX0_countBinary_10b (post : ((CS)) → Prop) (x2 : Int32) (zM : CS) (k2 : (Int32) → (CS) → Prop) (k10 : (Int32) → (Int32) → (CS) → Prop) (y3 : Int32) (y4 : Int32) (zZ : CS) : Prop :=
  (x2 ≤ y4 → (qX0_countBinary_59 post x2 zM k2 y3 y4 zZ)) ∧ (¬ x2 ≤ y4 → (vp_in y3 64 ∧ ((((zZ 1) y3.toNatClampNeg) ≤ (0 : Int32) → (qX0_countBinary_59 post x2 zM k2 y3 y4 zZ)) ∧ (¬ ((zZ 1) y3.toNatClampNeg) ≤ (0 : Int32) → (vp_in y4 64 ∧ ((((zZ 1) y4.toNatClampNeg) ≤ (0 : Int32) → (qX0_countBinary_53 post x2 zM k2 k10 y3 y4 zZ)) ∧ (¬ ((zZ 1) y4.toNatClampNeg) ≤ (0 : Int32) → (qX0_countPairs (fun (u41 : (CS)) => qX0_countPairs (fun (u50 : (CS)) => qX0_countBinary_53 post x2 zM k2 k10 y3 y4 u50) (4 : Int32) y3 y4 zM u41) (3 : Int32) y3 y4 zM zZ))))))))
def qX0_countBinary_10 (post : ((CS)) → Prop) (x2 : Int32) (zM : CS) (k2 : (Int32) → (CS) → Prop) (n : Nat) : (Int32) → (Int32) → (CS) → Prop :=
  Nat.rec (motive := fun _ => (Int32) → (Int32) → (CS) → Prop) (fun _ _ _ => False) (fun _ k => qX0_countBinary_10b post x2 zM k2 k) n
def qX0_countBinary_2b (post : ((CS)) → Prop) (x2 : Int32) (zM : CS)  (k2 : (Int32) → (CS) → Prop) (y3 : Int32) (zZ : CS) : Prop :=
  (x2 ≤ y3 → (post (zZ))) ∧ (¬ x2 ≤ y3 → (∃ n : Nat, qX0_countBinary_10 post x2 zM k2 n y3 (0 : Int32) zZ))
def qX0_countBinary_2 (post : ((CS)) → Prop) (x2 : Int32) (zM : CS)  (n : Nat) : (Int32) → (CS) → Prop :=
  Nat.rec (motive := fun _ => (Int32) → (CS) → Prop) (fun _ _ => False) (fun _ k => qX0_countBinary_2b post x2 zM k) n
def qX0_countBinary (post : ((CS)) → Prop) (x2 : Int32) (zM : CS) (zZ : CS) : Prop :=
  ∃ n : Nat, qX0_countBinary_2 post x2 zM n (0 : Int32) zZ
def qX0_noteGrowth_48 (post : Int32 → ((CS)) → Prop) (x1 : Int32) (x2 : Int32) (k5 : (Int32) → (Int32) → (CS) → Prop) (y3 : Int32) (y4 : Int32) (zZ : CS) : Prop :=
  k5 y3 (y4 + (1 : Int32)) zZ
def qX0_noteGrowth_5b (post : Int32 → ((CS)) → Prop) (x1 : Int32) (x2 : Int32)  (k5 : (Int32) → (Int32) → (CS) → Prop) (y3 : Int32) (y4 : Int32) (zZ : CS) : Prop :=
  (x2 ≤ y4 → (narrow .boolean (.int y3) = .int y3 ∧ post y3 (zZ))) ∧ (¬ x2 ≤ y4 → (vp_in y4 64 ∧ (vp_in y4 64 ∧ ((((zZ 0) y4.toNatClampNeg) = ((zZ 1) y4.toNatClampNeg) → (qX0_noteGrowth_48 post x1 x2 k5 y3 y4 zZ)) ∧ (¬ ((zZ 0) y4.toNatClampNeg) = ((zZ 1) y4.toNatClampNeg) → (vp_in y4 64 ∧ ((((zZ 1) y4.toNatClampNeg) = (0 : Int32) → (vp_in y4 64 ∧ (qX0_noteGrowth_48 post x1 x2 k5 (1 : Int32) y4 (st zZ 2 y4.toNatClampNeg x1)))) ∧ (¬ ((zZ 1) y4.toNatClampNeg) = (0 : Int32) → (qX0_noteGrowth_48 post x1 x2 k5 (1 : Int32) y4 zZ)))))))))
def qX0_noteGrowth_5 (post : Int32 → ((CS)) → Prop) (x1 : Int32) (x2 : Int32)  (n : Nat) : (Int32) → (Int32) → (CS) → Prop :=
  Nat.rec (motive := fun _ => (Int32) → (Int32) → (CS) → Prop) (fun _ _ _ => False) (fun _ k => qX0_noteGrowth_5b post x1 x2 k) n
def qX0_noteGrowth (post : Int32 → ((CS)) → Prop) (x1 : Int32) (x2 : Int32) (zZ : CS) : Prop :=
  ∃ n : Nat, qX0_noteGrowth_5 post x1 x2 n (0 : Int32) (0 : Int32) zZ
def qX0_take_13b (post : ((CS)) → Prop) (x2 : Int32) (zM : CS)  (k13 : (Int32) → (Int32) → (CS) → Prop) (y3 : Int32) (y4 : Int32) (zZ : CS) : Prop :=
  ((129 : Int32) ≤ y4 → (post (zZ))) ∧ (¬ (129 : Int32) ≤ y4 → ((y3 = (0 : Int32) → (post (zZ))) ∧ (¬ y3 = (0 : Int32) → (qJ7_fill_53178 (fun (u45 : (Nat → Int32)) => qX0_countConstants (fun (u50 : (CS)) => qX0_countUnary (fun (u56 : (CS)) => qX0_countBinary (fun (u62 : (CS)) => qX0_noteGrowth (fun r69 (u69 : (CS)) => k13 r69 (y4 + (1 : Int32)) u69) y4 x2 u62) x2 zM u56) x2 zM u50) zM (sr (sr zZ 1 (va_cpy (zZ 0) (zZ 1) 0 0 64)) 0 u45)) 64 (0 : Int32) ((sr zZ 1 (va_cpy (zZ 0) (zZ 1) 0 0 64)) 0)))))
def qX0_take_13 (post : ((CS)) → Prop) (x2 : Int32) (zM : CS)  (n : Nat) : (Int32) → (Int32) → (CS) → Prop :=
  Nat.rec (motive := fun _ => (Int32) → (Int32) → (CS) → Prop) (fun _ _ _ => False) (fun _ k => qX0_take_13b post x2 zM k) n
def qX0_take (post : ((CS)) → Prop) (x2 : Int32) (zM : CS) (zZ : CS) : Prop :=
  qJ7_fill_53178 (fun (u5 : (Nat → Int32)) => ∃ n : Nat, qX0_take_13 post x2 zM n (1 : Int32) (0 : Int32) (sr zZ 0 u5)) 64 (0 : Int32) (zZ 0)
def qX1_forget (post : ((CS)) → Prop)  (zH : CS) : Prop :=
  post (st (st zH 0 0 (0 : Int32)) 0 1 (0 : Int32))
def qX2_copyFrom (post : ((CS)) → Prop)  (zB : CS) (zO : CS) : Prop :=
  post (sr (sr (sr (sr (sr (st (st zB 5 0 (zO 5 0)) 5 1 (zO 5 1)) 0 (va_cpy (zO 0) ((st (st zB 5 0 (zO 5 0)) 5 1 (zO 5 1)) 0) 0 0 16)) 1 (va_cpy (zO 1) ((sr (st (st zB 5 0 (zO 5 0)) 5 1 (zO 5 1)) 0 (va_cpy (zO 0) ((st (st zB 5 0 (zO 5 0)) 5 1 (zO 5 1)) 0) 0 0 16)) 1) 0 0 16)) 2 (va_cpy (zO 2) ((sr (sr (st (st zB 5 0 (zO 5 0)) 5 1 (zO 5 1)) 0 (va_cpy (zO 0) ((st (st zB 5 0 (zO 5 0)) 5 1 (zO 5 1)) 0) 0 0 16)) 1 (va_cpy (zO 1) ((sr (st (st zB 5 0 (zO 5 0)) 5 1 (zO 5 1)) 0 (va_cpy (zO 0) ((st (st zB 5 0 (zO 5 0)) 5 1 (zO 5 1)) 0) 0 0 16)) 1) 0 0 16)) 2) 0 0 16)) 3 (va_cpy (zO 3) ((sr (sr (sr (st (st zB 5 0 (zO 5 0)) 5 1 (zO 5 1)) 0 (va_cpy (zO 0) ((st (st zB 5 0 (zO 5 0)) 5 1 (zO 5 1)) 0) 0 0 16)) 1 (va_cpy (zO 1) ((sr (st (st zB 5 0 (zO 5 0)) 5 1 (zO 5 1)) 0 (va_cpy (zO 0) ((st (st zB 5 0 (zO 5 0)) 5 1 (zO 5 1)) 0) 0 0 16)) 1) 0 0 16)) 2 (va_cpy (zO 2) ((sr (sr (st (st zB 5 0 (zO 5 0)) 5 1 (zO 5 1)) 0 (va_cpy (zO 0) ((st (st zB 5 0 (zO 5 0)) 5 1 (zO 5 1)) 0) 0 0 16)) 1 (va_cpy (zO 1) ((sr (st (st zB 5 0 (zO 5 0)) 5 1 (zO 5 1)) 0 (va_cpy (zO 0) ((st (st zB 5 0 (zO 5 0)) 5 1 (zO 5 1)) 0) 0 0 16)) 1) 0 0 16)) 2) 0 0 16)) 3) 0 0 16)) 4 (va_cpy (zO 4) ((sr (sr (sr (sr (st (st zB 5 0 (zO 5 0)) 5 1 (zO 5 1)) 0 (va_cpy (zO 0) ((st (st zB 5 0 (zO 5 0)) 5 1 (zO 5 1)) 0) 0 0 16)) 1 (va_cpy (zO 1) ((sr (st (st zB 5 0 (zO 5 0)) 5 1 (zO 5 1)) 0 (va_cpy (zO 0) ((st (st zB 5 0 (zO 5 0)) 5 1 (zO 5 1)) 0) 0 0 16)) 1) 0 0 16)) 2 (va_cpy (zO 2) ((sr (sr (st (st zB 5 0 (zO 5 0)) 5 1 (zO 5 1)) 0 (va_cpy (zO 0) ((st (st zB 5 0 (zO 5 0)) 5 1 (zO 5 1)) 0) 0 0 16)) 1 (va_cpy (zO 1) ((sr (st (st zB 5 0 (zO 5 0)) 5 1 (zO 5 1)) 0 (va_cpy (zO 0) ((st (st zB 5 0 (zO 5 0)) 5 1 (zO 5 1)) 0) 0 0 16)) 1) 0 0 16)) 2) 0 0 16)) 3 (va_cpy (zO 3) ((sr (sr (sr (st (st zB 5 0 (zO 5 0)) 5 1 (zO 5 1)) 0 (va_cpy (zO 0) ((st (st zB 5 0 (zO 5 0)) 5 1 (zO 5 1)) 0) 0 0 16)) 1 (va_cpy (zO 1) ((sr (st (st zB 5 0 (zO 5 0)) 5 1 (zO 5 1)) 0 (va_cpy (zO 0) ((st (st zB 5 0 (zO 5 0)) 5 1 (zO 5 1)) 0) 0 0 16)) 1) 0 0 16)) 2 (va_cpy (zO 2) ((sr (sr (st (st zB 5 0 (zO 5 0)) 5 1 (zO 5 1)) 0 (va_cpy (zO 0) ((st (st zB 5 0 (zO 5 0)) 5 1 (zO 5 1)) 0) 0 0 16)) 1 (va_cpy (zO 1) ((sr (st (st zB 5 0 (zO 5 0)) 5 1 (zO 5 1)) 0 (va_cpy (zO 0) ((st (st zB 5 0 (zO 5 0)) 5 1 (zO 5 1)) 0) 0 0 16)) 1) 0 0 16)) 2) 0 0 16)) 3) 0 0 16)) 4) 0 0 16))
def qX1_keep_34 (post : ((CS) × (Nat → CS)) → Prop) (zB : CS)  (w1 : Int32) (zH : CS) (zR : Nat → CS) : Prop :=
  post (st (st zH 0 0 w1) 0 1 (if (5 : Int32) < (((st zH 0 0 w1) 0 1) + (1 : Int32)) then (5 : Int32) else (((st zH 0 0 w1) 0 1) + (1 : Int32))), zR)
def qX1_keep (post : ((CS) × (Nat → CS)) → Prop)  (zB : CS) (zH : CS) (zR : Nat → CS) : Prop :=
  vp_in (zH 0 0) 5 ∧ (qX2_copyFrom (fun (u10 : (CS)) => ((5 : Int32) ≤ ((zH 0 0) + (1 : Int32)) → (qX1_keep_34 post zB (0 : Int32) zH (sR zR (zH 0 0).toNatClampNeg u10))) ∧ (¬ (5 : Int32) ≤ ((zH 0 0) + (1 : Int32)) → (qX1_keep_34 post zB ((zH 0 0) + (1 : Int32)) zH (sR zR (zH 0 0).toNatClampNeg u10)))) (zR (zH 0 0).toNatClampNeg) zB)
def qX1_giveBack_25 (post : ((CS) × (CS)) → Prop) (zR : Nat → CS)  (w1 : Int32) (zB : CS) (zH : CS) : Prop :=
  vp_in ((st zH 0 0 w1) 0 0) 5 ∧ (qX2_copyFrom (fun (u38 : (CS)) => post (u38, st (st zH 0 0 w1) 0 1 (((st zH 0 0 w1) 0 1) - (1 : Int32)))) zB (zR ((st zH 0 0 w1) 0 0).toNatClampNeg))
def qX1_giveBack (post : ((CS) × (CS)) → Prop)  (zB : CS) (zH : CS) (zR : Nat → CS) : Prop :=
  ((zH 0 1) ≤ (0 : Int32) → (post (zB, zH))) ∧ (¬ (zH 0 1) ≤ (0 : Int32) → (((zH 0 0) ≤ (0 : Int32) → (qX1_giveBack_25 post zR (4 : Int32) zB zH)) ∧ (¬ (zH 0 0) ≤ (0 : Int32) → (qX1_giveBack_25 post zR ((zH 0 0) - (1 : Int32)) zB zH))))
def qX2_clear (post : ((CS)) → Prop)  (zB : CS) : Prop :=
  post (st (st zB 5 0 (0 : Int32)) 5 1 (0 : Int32))
def qX2_markFinal_26 (post : ((CS)) → Prop) (x1 : Int32) (x2 : Int32)  (w1 : Int32) (zB : CS) : Prop :=
  post (st zB 5 1 w1)
def qX2_markFinal (post : ((CS)) → Prop) (x1 : Int32) (x2 : Int32) (zB : CS) : Prop :=
  (x2 = (0 : Int32) → (qX2_markFinal_26 post x1 x2 ((zB 5 1) &&& (((1 : Int32) <<< (x1 &&& 31)) ^^^ (-1 : Int32))) zB)) ∧ (¬ x2 = (0 : Int32) → (qX2_markFinal_26 post x1 x2 ((zB 5 1) ||| ((1 : Int32) <<< (x1 &&& 31))) zB))
def qX2_append (post : ((CS)) → Prop) (x1 : Int32) (x2 : Int32) (x3 : Int32) (x4 : Int32) (x5 : Int32) (zB : CS) : Prop :=
  ((16 : Int32) ≤ (zB 5 0) → (post (zB))) ∧ (¬ (16 : Int32) ≤ (zB 5 0) → (vp_in (zB 5 0) 16 ∧ (vp_in ((st zB 0 (zB 5 0).toNatClampNeg x1) 5 0) 16 ∧ (vp_in ((st (st zB 0 (zB 5 0).toNatClampNeg x1) 1 ((st zB 0 (zB 5 0).toNatClampNeg x1) 5 0).toNatClampNeg x2) 5 0) 16 ∧ (vp_in ((st (st (st zB 0 (zB 5 0).toNatClampNeg x1) 1 ((st zB 0 (zB 5 0).toNatClampNeg x1) 5 0).toNatClampNeg x2) 2 ((st (st zB 0 (zB 5 0).toNatClampNeg x1) 1 ((st zB 0 (zB 5 0).toNatClampNeg x1) 5 0).toNatClampNeg x2) 5 0).toNatClampNeg x3) 5 0) 16 ∧ (vp_in ((st (st (st (st zB 0 (zB 5 0).toNatClampNeg x1) 1 ((st zB 0 (zB 5 0).toNatClampNeg x1) 5 0).toNatClampNeg x2) 2 ((st (st zB 0 (zB 5 0).toNatClampNeg x1) 1 ((st zB 0 (zB 5 0).toNatClampNeg x1) 5 0).toNatClampNeg x2) 5 0).toNatClampNeg x3) 3 ((st (st (st zB 0 (zB 5 0).toNatClampNeg x1) 1 ((st zB 0 (zB 5 0).toNatClampNeg x1) 5 0).toNatClampNeg x2) 2 ((st (st zB 0 (zB 5 0).toNatClampNeg x1) 1 ((st zB 0 (zB 5 0).toNatClampNeg x1) 5 0).toNatClampNeg x2) 5 0).toNatClampNeg x3) 5 0).toNatClampNeg x4) 5 0) 16 ∧ (post (st (st (st (st (st (st zB 0 (zB 5 0).toNatClampNeg x1) 1 ((st zB 0 (zB 5 0).toNatClampNeg x1) 5 0).toNatClampNeg x2) 2 ((st (st zB 0 (zB 5 0).toNatClampNeg x1) 1 ((st zB 0 (zB 5 0).toNatClampNeg x1) 5 0).toNatClampNeg x2) 5 0).toNatClampNeg x3) 3 ((st (st (st zB 0 (zB 5 0).toNatClampNeg x1) 1 ((st zB 0 (zB 5 0).toNatClampNeg x1) 5 0).toNatClampNeg x2) 2 ((st (st zB 0 (zB 5 0).toNatClampNeg x1) 1 ((st zB 0 (zB 5 0).toNatClampNeg x1) 5 0).toNatClampNeg x2) 5 0).toNatClampNeg x3) 5 0).toNatClampNeg x4) 4 ((st (st (st (st zB 0 (zB 5 0).toNatClampNeg x1) 1 ((st zB 0 (zB 5 0).toNatClampNeg x1) 5 0).toNatClampNeg x2) 2 ((st (st zB 0 (zB 5 0).toNatClampNeg x1) 1 ((st zB 0 (zB 5 0).toNatClampNeg x1) 5 0).toNatClampNeg x2) 5 0).toNatClampNeg x3) 3 ((st (st (st zB 0 (zB 5 0).toNatClampNeg x1) 1 ((st zB 0 (zB 5 0).toNatClampNeg x1) 5 0).toNatClampNeg x2) 2 ((st (st zB 0 (zB 5 0).toNatClampNeg x1) 1 ((st zB 0 (zB 5 0).toNatClampNeg x1) 5 0).toNatClampNeg x2) 5 0).toNatClampNeg x3) 5 0).toNatClampNeg x4) 5 0).toNatClampNeg x5) 5 0 (((st (st (st (st (st zB 0 (zB 5 0).toNatClampNeg x1) 1 ((st zB 0 (zB 5 0).toNatClampNeg x1) 5 0).toNatClampNeg x2) 2 ((st (st zB 0 (zB 5 0).toNatClampNeg x1) 1 ((st zB 0 (zB 5 0).toNatClampNeg x1) 5 0).toNatClampNeg x2) 5 0).toNatClampNeg x3) 3 ((st (st (st zB 0 (zB 5 0).toNatClampNeg x1) 1 ((st zB 0 (zB 5 0).toNatClampNeg x1) 5 0).toNatClampNeg x2) 2 ((st (st zB 0 (zB 5 0).toNatClampNeg x1) 1 ((st zB 0 (zB 5 0).toNatClampNeg x1) 5 0).toNatClampNeg x2) 5 0).toNatClampNeg x3) 5 0).toNatClampNeg x4) 4 ((st (st (st (st zB 0 (zB 5 0).toNatClampNeg x1) 1 ((st zB 0 (zB 5 0).toNatClampNeg x1) 5 0).toNatClampNeg x2) 2 ((st (st zB 0 (zB 5 0).toNatClampNeg x1) 1 ((st zB 0 (zB 5 0).toNatClampNeg x1) 5 0).toNatClampNeg x2) 5 0).toNatClampNeg x3) 3 ((st (st (st zB 0 (zB 5 0).toNatClampNeg x1) 1 ((st zB 0 (zB 5 0).toNatClampNeg x1) 5 0).toNatClampNeg x2) 2 ((st (st zB 0 (zB 5 0).toNatClampNeg x1) 1 ((st zB 0 (zB 5 0).toNatClampNeg x1) 5 0).toNatClampNeg x2) 5 0).toNatClampNeg x3) 5 0).toNatClampNeg x4) 5 0).toNatClampNeg x5) 5 0) + (1 : Int32))))))))))
def qX2_closeGap_2b (post : ((Nat → Int32)) → Prop) (x2 : Int32) (zB0 : CS)  (k2 : (Int32) → (Nat → Int32) → Prop) (y3 : Int32) (zF : Nat → Int32) : Prop :=
  ((zB0 5 0) ≤ y3 → (post (zF))) ∧ (¬ (zB0 5 0) ≤ y3 → (vp_in (y3 + (1 : Int32)) 16 ∧ (vp_in y3 16 ∧ (k2 (y3 + (1 : Int32)) (upd zF y3.toNatClampNeg (zF (y3 + (1 : Int32)).toNatClampNeg))))))
def qX2_closeGap_2 (post : ((Nat → Int32)) → Prop) (x2 : Int32) (zB0 : CS)  (n : Nat) : (Int32) → (Nat → Int32) → Prop :=
  Nat.rec (motive := fun _ => (Int32) → (Nat → Int32) → Prop) (fun _ _ => False) (fun _ k => qX2_closeGap_2b post x2 zB0 k) n
def qX2_closeGap (post : ((Nat → Int32)) → Prop) (x2 : Int32) (zB0 : CS) (zF : Nat → Int32) : Prop :=
  ∃ n : Nat, qX2_closeGap_2 post x2 zB0 n x2 zF
def qX2_delete (post : ((CS)) → Prop) (x1 : Int32) (zB : CS) : Prop :=
  ((zB 5 0) ≤ x1 → (post (zB))) ∧ (¬ (zB 5 0) ≤ x1 → (qX2_closeGap (fun (u24 : (Nat → Int32)) => qX2_closeGap (fun (u33 : (Nat → Int32)) => qX2_closeGap (fun (u42 : (Nat → Int32)) => qX2_closeGap (fun (u51 : (Nat → Int32)) => qX2_closeGap (fun (u60 : (Nat → Int32)) => post (sr (sr (sr (sr (sr (st zB 5 0 ((zB 5 0) - (1 : Int32))) 0 u24) 1 u33) 2 u42) 3 u51) 4 u60)) x1 (sr (sr (sr (sr (st zB 5 0 ((zB 5 0) - (1 : Int32))) 0 u24) 1 u33) 2 u42) 3 u51) ((sr (sr (sr (sr (st zB 5 0 ((zB 5 0) - (1 : Int32))) 0 u24) 1 u33) 2 u42) 3 u51) 4)) x1 (sr (sr (sr (st zB 5 0 ((zB 5 0) - (1 : Int32))) 0 u24) 1 u33) 2 u42) ((sr (sr (sr (st zB 5 0 ((zB 5 0) - (1 : Int32))) 0 u24) 1 u33) 2 u42) 3)) x1 (sr (sr (st zB 5 0 ((zB 5 0) - (1 : Int32))) 0 u24) 1 u33) ((sr (sr (st zB 5 0 ((zB 5 0) - (1 : Int32))) 0 u24) 1 u33) 2)) x1 (sr (st zB 5 0 ((zB 5 0) - (1 : Int32))) 0 u24) ((sr (st zB 5 0 ((zB 5 0) - (1 : Int32))) 0 u24) 1)) x1 (st zB 5 0 ((zB 5 0) - (1 : Int32))) ((st zB 5 0 ((zB 5 0) - (1 : Int32))) 0)))
def qX2_contains_54 (post : Int32 → (Unit) → Prop) (x1 : Int32) (x2 : Int32) (zB : CS)  (y3 : Int32) : Prop :=
  post (0 : Int32) ()
def qX2_contains_50 (post : Int32 → (Unit) → Prop) (x1 : Int32) (x2 : Int32) (zB : CS)  (y3 : Int32) : Prop :=
  post (1 : Int32) ()
def qX2_contains_35 (post : Int32 → (Unit) → Prop) (x1 : Int32) (x2 : Int32) (zB : CS)  (y3 : Int32) : Prop :=
  (y3 ≤ (1 : Int32) → (qX2_contains_54 post x1 x2 zB y3)) ∧ (¬ y3 ≤ (1 : Int32) → (vp_in x1 16 ∧ ((((zB 2) x1.toNatClampNeg) = x2 → (qX2_contains_50 post x1 x2 zB y3)) ∧ (¬ ((zB 2) x1.toNatClampNeg) = x2 → (qX2_contains_54 post x1 x2 zB y3)))))
def qX2_contains (post : Int32 → (Unit) → Prop) (x1 : Int32) (x2 : Int32) (zB : CS) : Prop :=
  vp_in x1 16 ∧ (vp_in ((zB 0) x1.toNatClampNeg) 5 ∧ (vp_in x1 16 ∧ ((((zB 4) x1.toNatClampNeg) = x2 → (qX2_contains_50 post x1 x2 zB (xar ((zB 0) x1.toNatClampNeg).toNatClampNeg))) ∧ (¬ ((zB 4) x1.toNatClampNeg) = x2 → (((xar ((zB 0) x1.toNatClampNeg).toNatClampNeg) ≤ (0 : Int32) → (qX2_contains_35 post x1 x2 zB (xar ((zB 0) x1.toNatClampNeg).toNatClampNeg))) ∧ (¬ (xar ((zB 0) x1.toNatClampNeg).toNatClampNeg) ≤ (0 : Int32) → (vp_in x1 16 ∧ ((((zB 1) x1.toNatClampNeg) = x2 → (qX2_contains_50 post x1 x2 zB (xar ((zB 0) x1.toNatClampNeg).toNatClampNeg))) ∧ (¬ ((zB 1) x1.toNatClampNeg) = x2 → (qX2_contains_35 post x1 x2 zB (xar ((zB 0) x1.toNatClampNeg).toNatClampNeg)))))))))))
def qX2_rulesWith_37 (post : Int32 → (Unit) → Prop) (x1 : Int32) (x2 : Int32) (zB : CS) (k5 : (Int32) → (Int32) → Prop) (y3 : Int32) (y4 : Int32) : Prop :=
  k5 y3 (y4 + (1 : Int32))
def qX2_rulesWith_34 (post : Int32 → (Unit) → Prop) (x1 : Int32) (x2 : Int32) (zB : CS) (k5 : (Int32) → (Int32) → Prop) (y3 : Int32) (y4 : Int32) : Prop :=
  qX2_rulesWith_37 post x1 x2 zB k5 (y3 + (1 : Int32)) y4
def qX2_rulesWith_5b (post : Int32 → (Unit) → Prop) (x1 : Int32) (x2 : Int32) (zB : CS)  (k5 : (Int32) → (Int32) → Prop) (y3 : Int32) (y4 : Int32) : Prop :=
  ((zB 5 0) ≤ y4 → (post y3 ())) ∧ (¬ (zB 5 0) ≤ y4 → (qX2_contains (fun r18 (u18 : Unit) => (r18 = (0 : Int32) → (qX2_contains (fun r28 (u28 : Unit) => (r28 = (0 : Int32) → (qX2_rulesWith_37 post x1 x2 zB k5 y3 y4)) ∧ (¬ r28 = (0 : Int32) → (qX2_rulesWith_34 post x1 x2 zB k5 y3 y4))) y4 x2 zB)) ∧ (¬ r18 = (0 : Int32) → (qX2_rulesWith_34 post x1 x2 zB k5 y3 y4))) y4 x1 zB))
def qX2_rulesWith_5 (post : Int32 → (Unit) → Prop) (x1 : Int32) (x2 : Int32) (zB : CS)  (n : Nat) : (Int32) → (Int32) → Prop :=
  Nat.rec (motive := fun _ => (Int32) → (Int32) → Prop) (fun _ _ => False) (fun _ k => qX2_rulesWith_5b post x1 x2 zB k) n
def qX2_rulesWith (post : Int32 → (Unit) → Prop) (x1 : Int32) (x2 : Int32) (zB : CS) : Prop :=
  ∃ n : Nat, qX2_rulesWith_5 post x1 x2 zB n (0 : Int32) (0 : Int32)
def qX2_swapped (post : Int32 → (Unit) → Prop) (x0 : Int32) (x1 : Int32) (x2 : Int32)  : Prop :=
  (x0 = x1 → (post x2 ())) ∧ (¬ x0 = x1 → ((x0 = x2 → (post x1 ())) ∧ (¬ x0 = x2 → (post x0 ()))))
def qX2_exchange_123 (post : ((CS)) → Prop) (x1 : Int32) (x2 : Int32)  (y3 : Int32) (w0 : Int32) (zB : CS) : Prop :=
  qX2_markFinal (fun (u129 : (CS)) => qX2_markFinal (fun (u135 : (CS)) => post (u135)) x2 y3 u129) x1 w0 zB
def qX2_exchange_106 (post : ((CS)) → Prop) (x1 : Int32) (x2 : Int32)  (y3 : Int32) (w0 : Int32) (zB : CS) : Prop :=
  ((((zB 5 1) >>> (x2 &&& 31)) &&& (1 : Int32)) = (0 : Int32) → (qX2_exchange_123 post x1 x2 w0 (0 : Int32) zB)) ∧ (¬ (((zB 5 1) >>> (x2 &&& 31)) &&& (1 : Int32)) = (0 : Int32) → (qX2_exchange_123 post x1 x2 w0 (1 : Int32) zB))
def qX2_exchange_84 (post : ((CS)) → Prop) (x1 : Int32) (x2 : Int32) (k2 : (Int32) → (CS) → Prop) (y3 : Int32) (y4 : Int32) (zB : CS) : Prop :=
  k2 (y3 + (1 : Int32)) zB
def qX2_exchange_61 (post : ((CS)) → Prop) (x1 : Int32) (x2 : Int32) (k2 : (Int32) → (CS) → Prop) (y3 : Int32) (y4 : Int32) (zB : CS) : Prop :=
  (y4 ≤ (1 : Int32) → (qX2_exchange_84 post x1 x2 k2 y3 y4 zB)) ∧ (¬ y4 ≤ (1 : Int32) → (vp_in y3 16 ∧ (qX2_swapped (fun r80 (u80 : Unit) => vp_in y3 16 ∧ (qX2_exchange_84 post x1 x2 k2 y3 y4 (st zB 2 y3.toNatClampNeg r80))) ((zB 2) y3.toNatClampNeg) x1 x2)))
def qX2_exchange_2b (post : ((CS)) → Prop) (x1 : Int32) (x2 : Int32)  (k2 : (Int32) → (CS) → Prop) (y3 : Int32) (zB : CS) : Prop :=
  ((zB 5 0) ≤ y3 → (((((zB 5 1) >>> (x1 &&& 31)) &&& (1 : Int32)) = (0 : Int32) → (qX2_exchange_106 post x1 x2 y3 (0 : Int32) zB)) ∧ (¬ (((zB 5 1) >>> (x1 &&& 31)) &&& (1 : Int32)) = (0 : Int32) → (qX2_exchange_106 post x1 x2 y3 (1 : Int32) zB)))) ∧ (¬ (zB 5 0) ≤ y3 → (vp_in y3 16 ∧ (vp_in ((zB 0) y3.toNatClampNeg) 5 ∧ (vp_in y3 16 ∧ (qX2_swapped (fun r35 (u35 : Unit) => vp_in y3 16 ∧ (((xar ((zB 0) y3.toNatClampNeg).toNatClampNeg) ≤ (0 : Int32) → (qX2_exchange_61 post x1 x2 k2 y3 (xar ((zB 0) y3.toNatClampNeg).toNatClampNeg) (st zB 4 y3.toNatClampNeg r35))) ∧ (¬ (xar ((zB 0) y3.toNatClampNeg).toNatClampNeg) ≤ (0 : Int32) → (vp_in y3 16 ∧ (qX2_swapped (fun r57 (u57 : Unit) => vp_in y3 16 ∧ (qX2_exchange_61 post x1 x2 k2 y3 (xar ((zB 0) y3.toNatClampNeg).toNatClampNeg) (st (st zB 4 y3.toNatClampNeg r35) 1 y3.toNatClampNeg r57))) (((st zB 4 y3.toNatClampNeg r35) 1) y3.toNatClampNeg) x1 x2))))) ((zB 4) y3.toNatClampNeg) x1 x2)))))
def qX2_exchange_2 (post : ((CS)) → Prop) (x1 : Int32) (x2 : Int32)  (n : Nat) : (Int32) → (CS) → Prop :=
  Nat.rec (motive := fun _ => (Int32) → (CS) → Prop) (fun _ _ => False) (fun _ k => qX2_exchange_2b post x1 x2 k) n
def qX2_exchange (post : ((CS)) → Prop) (x1 : Int32) (x2 : Int32) (zB : CS) : Prop :=
  ∃ n : Nat, qX2_exchange_2 post x1 x2 n (0 : Int32) zB
def qX3_enter_118 (post : ((CS)) → Prop) (x2 : Int32) (zB : CS)  (y3 : Int32) (y4 : Int32) (y5 : Int32) (zM : CS) : Prop :=
  vp_in x2 16 ∧ ((((zB 3) x2.toNatClampNeg) = (1 : Int32) → (post (zM))) ∧ (¬ ((zB 3) x2.toNatClampNeg) = (1 : Int32) → (post (st zM 4 1 ((zM 4 1) ||| y3)))))
def qX3_enter_79 (post : ((CS)) → Prop) (x2 : Int32) (zB : CS)  (y3 : Int32) (y4 : Int32) (y5 : Int32) (w1 : Int32) (zM : CS) : Prop :=
  vp_in w1 64 ∧ (vp_in w1 64 ∧ (vp_in x2 16 ∧ (vp_in x2 16 ∧ (vp_in x2 16 ∧ ((((zB 3) x2.toNatClampNeg) = (2 : Int32) → (qX3_enter_118 post x2 zB y3 y4 y5 (st (st zM 2 w1.toNatClampNeg (((zM 2) w1.toNatClampNeg) ||| y3)) 3 x2.toNatClampNeg ((1 : Int32) <<< (((zB 4) x2.toNatClampNeg) &&& 31))))) ∧ (¬ ((zB 3) x2.toNatClampNeg) = (2 : Int32) → (qX3_enter_118 post x2 zB y3 y4 y5 (st (st (st zM 2 w1.toNatClampNeg (((zM 2) w1.toNatClampNeg) ||| y3)) 3 x2.toNatClampNeg ((1 : Int32) <<< (((zB 4) x2.toNatClampNeg) &&& 31))) 4 0 (((st (st zM 2 w1.toNatClampNeg (((zM 2) w1.toNatClampNeg) ||| y3)) 3 x2.toNatClampNeg ((1 : Int32) <<< (((zB 4) x2.toNatClampNeg) &&& 31))) 4 0) ||| y3)))))))))
def qX3_enter_52 (post : ((CS)) → Prop) (x2 : Int32) (zB : CS)  (y3 : Int32) (y4 : Int32) (y5 : Int32) (w1 : Int32) (zM : CS) : Prop :=
  vp_in w1 64 ∧ (vp_in w1 64 ∧ ((y5 ≤ (1 : Int32) → (qX3_enter_79 post x2 zB y3 y4 y5 (0 : Int32) (st zM 1 w1.toNatClampNeg (((zM 1) w1.toNatClampNeg) ||| y3)))) ∧ (¬ y5 ≤ (1 : Int32) → (vp_in x2 16 ∧ (qX3_enter_79 post x2 zB y3 y4 y5 ((1 : Int32) <<< (((zB 2) x2.toNatClampNeg) &&& 31)) (st zM 1 w1.toNatClampNeg (((zM 1) w1.toNatClampNeg) ||| y3)))))))
def qX3_enter (post : ((CS)) → Prop) (x2 : Int32) (zB : CS) (zM : CS) : Prop :=
  vp_in x2 16 ∧ (vp_in ((zB 0) x2.toNatClampNeg) 5 ∧ (vp_in ((zB 0) x2.toNatClampNeg) 5 ∧ (vp_in ((zB 0) x2.toNatClampNeg) 5 ∧ (((xar ((zB 0) x2.toNatClampNeg).toNatClampNeg) ≤ (0 : Int32) → (qX3_enter_52 post x2 zB ((1 : Int32) <<< (x2 &&& 31)) ((zB 0) x2.toNatClampNeg) (xar ((zB 0) x2.toNatClampNeg).toNatClampNeg) (0 : Int32) (st zM 0 ((zB 0) x2.toNatClampNeg).toNatClampNeg (((zM 0) ((zB 0) x2.toNatClampNeg).toNatClampNeg) ||| ((1 : Int32) <<< (x2 &&& 31)))))) ∧ (¬ (xar ((zB 0) x2.toNatClampNeg).toNatClampNeg) ≤ (0 : Int32) → (vp_in x2 16 ∧ (qX3_enter_52 post x2 zB ((1 : Int32) <<< (x2 &&& 31)) ((zB 0) x2.toNatClampNeg) (xar ((zB 0) x2.toNatClampNeg).toNatClampNeg) ((1 : Int32) <<< (((zB 1) x2.toNatClampNeg) &&& 31)) (st zM 0 ((zB 0) x2.toNatClampNeg).toNatClampNeg (((zM 0) ((zB 0) x2.toNatClampNeg).toNatClampNeg) ||| ((1 : Int32) <<< (x2 &&& 31)))))))))))
def qX3_spread_2b (post : ((Nat → Int32)) → Prop)   (k2 : (Int32) → (Nat → Int32) → Prop) (y1 : Int32) (zF : Nat → Int32) : Prop :=
  ((64 : Int32) ≤ y1 → (post (zF))) ∧ (¬ (64 : Int32) ≤ y1 → (vp_in (y1 - (y1 &&& (-y1))) 64 ∧ (vp_in (y1 &&& (-y1)) 64 ∧ (vp_in y1 64 ∧ (k2 (y1 + (1 : Int32)) (upd zF y1.toNatClampNeg ((zF (y1 - (y1 &&& (-y1))).toNatClampNeg) ||| (zF (y1 &&& (-y1)).toNatClampNeg))))))))
def qX3_spread_2 (post : ((Nat → Int32)) → Prop)   (n : Nat) : (Int32) → (Nat → Int32) → Prop :=
  Nat.rec (motive := fun _ => (Int32) → (Nat → Int32) → Prop) (fun _ _ => False) (fun _ k => qX3_spread_2b post k) n
def qX3_spread (post : ((Nat → Int32)) → Prop)  (zF : Nat → Int32) : Prop :=
  ∃ n : Nat, qX3_spread_2 post n (1 : Int32) zF
def qX3_build_36b (post : ((CS)) → Prop) (zB : CS)  (k36 : (Int32) → (CS) → Prop) (y2 : Int32) (zM : CS) : Prop :=
  ((zB 5 0) ≤ y2 → (qX3_spread (fun (u60 : (Nat → Int32)) => qX3_spread (fun (u67 : (Nat → Int32)) => post (sr (sr zM 1 u60) 2 u67)) ((sr zM 1 u60) 2)) (zM 1))) ∧ (¬ (zB 5 0) ≤ y2 → (qX3_enter (fun (u47 : (CS)) => k36 (y2 + (1 : Int32)) u47) y2 zB zM))
def qX3_build_36 (post : ((CS)) → Prop) (zB : CS)  (n : Nat) : (Int32) → (CS) → Prop :=
  Nat.rec (motive := fun _ => (Int32) → (CS) → Prop) (fun _ _ => False) (fun _ k => qX3_build_36b post zB k) n
def qX3_build (post : ((CS)) → Prop)  (zB : CS) (zM : CS) : Prop :=
  qJ7_fill_53178 (fun (u5 : (Nat → Int32)) => qJ7_fill_53178 (fun (u13 : (Nat → Int32)) => qJ7_fill_53178 (fun (u21 : (Nat → Int32)) => ∃ n : Nat, qX3_build_36 post zB n (0 : Int32) (st (st (sr (sr (sr zM 0 u5) 1 u13) 2 u21) 4 0 (0 : Int32)) 4 1 (0 : Int32))) 64 (0 : Int32) ((sr (sr zM 0 u5) 1 u13) 2)) 64 (0 : Int32) ((sr zM 0 u5) 1)) 5 (0 : Int32) (zM 0)
def qX5_symbolAt (post : Int32 → (Unit) → Prop) (x1 : Int32) (zT : CS) : Prop :=
  vp_in x1 2278 ∧ (post ((((zT 0) x1.toNatClampNeg) >>> ((10 : Int32) &&& 31)) >>> ((10 : Int32) &&& 31)) ())
def qX5_arityAt (post : Int32 → (Unit) → Prop) (x1 : Int32) (zT : CS) : Prop :=
  qX5_symbolAt (fun r5 (u5 : Unit) => vp_in r5 5 ∧ (post (xar r5.toNatClampNeg) ())) x1 zT
def qX5_firstAt (post : Int32 → (Unit) → Prop) (x1 : Int32) (zT : CS) : Prop :=
  vp_in x1 2278 ∧ (post ((((zT 0) x1.toNatClampNeg) >>> ((10 : Int32) &&& 31)) &&& (1023 : Int32)) ())
def qX5_secondAt (post : Int32 → (Unit) → Prop) (x1 : Int32) (zT : CS) : Prop :=
  vp_in x1 2278 ∧ (post (((zT 0) x1.toNatClampNeg) &&& (1023 : Int32)) ())
def qX4_layOut_115 (post : Int32 → ((CS)) → Prop) (x2 : Int32) (zT : CS)  (y3 : Int32) (y4 : Int32) (zC : CS) : Prop :=
  post y3 (zC)
def qX4_layOut_109 (post : Int32 → ((CS)) → Prop) (x2 : Int32) (zT : CS) (k12 : (Int32) → (Int32) → (CS) → Prop) (y3 : Int32) (y4 : Int32) (y5 : Int32) (zC : CS) : Prop :=
  k12 y3 (y4 + (1 : Int32)) zC
def qX4_layOut_77 (post : Int32 → ((CS)) → Prop) (x2 : Int32) (zT : CS) (k12 : (Int32) → (Int32) → (CS) → Prop) (y3 : Int32) (y4 : Int32) (y5 : Int32) (zC : CS) : Prop :=
  (y5 ≤ (1 : Int32) → (qX4_layOut_109 post x2 zT k12 y3 y4 y5 zC)) ∧ (¬ y5 ≤ (1 : Int32) → (((7 : Int32) ≤ y3 → (qX4_layOut_109 post x2 zT k12 y3 y4 y5 zC)) ∧ (¬ (7 : Int32) ≤ y3 → (vp_in y4 7 ∧ (qX5_secondAt (fun r102 (u102 : Unit) => vp_in y3 7 ∧ (qX4_layOut_109 post x2 zT k12 (y3 + (1 : Int32)) y4 y5 (st zC 0 y3.toNatClampNeg r102))) ((zC 0) y4.toNatClampNeg) zT)))))
def qX4_layOut_12b (post : Int32 → ((CS)) → Prop) (x2 : Int32) (zT : CS)  (k12 : (Int32) → (Int32) → (CS) → Prop) (y3 : Int32) (y4 : Int32) (zC : CS) : Prop :=
  (y3 ≤ y4 → (qX4_layOut_115 post x2 zT y3 y4 zC)) ∧ (¬ y3 ≤ y4 → (((7 : Int32) ≤ y4 → (qX4_layOut_115 post x2 zT y3 y4 zC)) ∧ (¬ (7 : Int32) ≤ y4 → (vp_in y4 7 ∧ (qX5_arityAt (fun r33 (u33 : Unit) => vp_in y4 7 ∧ ((r33 ≤ (0 : Int32) → (qX4_layOut_77 post x2 zT k12 y3 y4 r33 (st zC 1 y4.toNatClampNeg y3))) ∧ (¬ r33 ≤ (0 : Int32) → (((7 : Int32) ≤ y3 → (qX4_layOut_77 post x2 zT k12 y3 y4 r33 (st zC 1 y4.toNatClampNeg y3))) ∧ (¬ (7 : Int32) ≤ y3 → (vp_in y4 7 ∧ (qX5_firstAt (fun r70 (u70 : Unit) => vp_in y3 7 ∧ (qX4_layOut_77 post x2 zT k12 (y3 + (1 : Int32)) y4 r33 (st (st zC 1 y4.toNatClampNeg y3) 0 y3.toNatClampNeg r70))) (((st zC 1 y4.toNatClampNeg y3) 0) y4.toNatClampNeg) zT))))))) ((zC 0) y4.toNatClampNeg) zT)))))
def qX4_layOut_12 (post : Int32 → ((CS)) → Prop) (x2 : Int32) (zT : CS)  (n : Nat) : (Int32) → (Int32) → (CS) → Prop :=
  Nat.rec (motive := fun _ => (Int32) → (Int32) → (CS) → Prop) (fun _ _ _ => False) (fun _ k => qX4_layOut_12b post x2 zT k) n
def qX4_layOut (post : Int32 → ((CS)) → Prop) (x2 : Int32) (zT : CS) (zC : CS) : Prop :=
  vp_in (0 : Int32) 7 ∧ (∃ n : Nat, qX4_layOut_12 post x2 zT n (1 : Int32) (0 : Int32) (st zC 0 (0 : Int32).toNatClampNeg x2))
def qX4_waysBelow_75 (post : Int32 → (Unit) → Prop) (x2 : Int32) (x3 : Int32) (zB : CS) (zC : CS)  (y4 : Int32) (y5 : Int32) (y6 : Int32) : Prop :=
  post y6 ()
def qX4_waysBelow_47 (post : Int32 → (Unit) → Prop) (x2 : Int32) (x3 : Int32) (zB : CS) (zC : CS)  (y4 : Int32) (y5 : Int32) (y6 : Int32) : Prop :=
  (y4 ≤ (1 : Int32) → (qX4_waysBelow_75 post x2 x3 zB zC y4 y5 y6)) ∧ (¬ y4 ≤ (1 : Int32) → (vp_in x2 16 ∧ (vp_in ((y5 + (6 : Int32)) + ((zB 2) x2.toNatClampNeg)) 42 ∧ (qX4_waysBelow_75 post x2 x3 zB zC y4 y5 (y6 * ((zC 2) ((y5 + (6 : Int32)) + ((zB 2) x2.toNatClampNeg)).toNatClampNeg))))))
def qX4_waysBelow (post : Int32 → (Unit) → Prop) (x2 : Int32) (x3 : Int32) (zB : CS) (zC : CS) : Prop :=
  vp_in x2 16 ∧ (vp_in ((zB 0) x2.toNatClampNeg) 5 ∧ (vp_in x3 7 ∧ (((xar ((zB 0) x2.toNatClampNeg).toNatClampNeg) ≤ (0 : Int32) → (qX4_waysBelow_47 post x2 x3 zB zC (xar ((zB 0) x2.toNatClampNeg).toNatClampNeg) (((zC 1) x3.toNatClampNeg) * (6 : Int32)) (1 : Int32))) ∧ (¬ (xar ((zB 0) x2.toNatClampNeg).toNatClampNeg) ≤ (0 : Int32) → (vp_in x2 16 ∧ (vp_in ((((zC 1) x3.toNatClampNeg) * (6 : Int32)) + ((zB 1) x2.toNatClampNeg)) 42 ∧ (qX4_waysBelow_47 post x2 x3 zB zC (xar ((zB 0) x2.toNatClampNeg).toNatClampNeg) (((zC 1) x3.toNatClampNeg) * (6 : Int32)) ((zC 2) ((((zC 1) x3.toNatClampNeg) * (6 : Int32)) + ((zB 1) x2.toNatClampNeg)).toNatClampNeg))))))))
def qX4_countAt_102 (post : ((CS)) → Prop) (x3 : Int32) (zT : CS) (zB : CS) (k41 : (Int32) → (Int32) → (Int32) → (Int32) → (CS) → Prop) (y4 : Int32) (y5 : Int32) (y6 : Int32) (y7 : Int32) (zC : CS) : Prop :=
  k41 y4 y5 y6 (y7 + (1 : Int32)) zC
def qX4_countAt_41b (post : ((CS)) → Prop) (x3 : Int32) (zT : CS) (zB : CS)  (k41 : (Int32) → (Int32) → (Int32) → (Int32) → (CS) → Prop) (y4 : Int32) (y5 : Int32) (y6 : Int32) (y7 : Int32) (zC : CS) : Prop :=
  ((zB 5 0) ≤ y7 → (post (zC))) ∧ (¬ (zB 5 0) ≤ y7 → (vp_in y7 16 ∧ ((((zB 0) y7.toNatClampNeg) = y5 → (vp_in y7 16 ∧ ((((zB 3) y7.toNatClampNeg) = y6 → (qX4_countAt_102 post x3 zT zB k41 y4 y5 y6 y7 zC)) ∧ (¬ ((zB 3) y7.toNatClampNeg) = y6 → (vp_in y7 16 ∧ (vp_in ((x3 * (6 : Int32)) + ((zB 4) y7.toNatClampNeg)) 42 ∧ (qX4_waysBelow (fun r97 (u97 : Unit) => vp_in ((x3 * (6 : Int32)) + ((zB 4) y7.toNatClampNeg)) 42 ∧ (qX4_countAt_102 post x3 zT zB k41 y4 y5 y6 y7 (st zC 2 ((x3 * (6 : Int32)) + ((zB 4) y7.toNatClampNeg)).toNatClampNeg (((zC 2) ((x3 * (6 : Int32)) + ((zB 4) y7.toNatClampNeg)).toNatClampNeg) + r97)))) y7 x3 zB zC))))))) ∧ (¬ ((zB 0) y7.toNatClampNeg) = y5 → (qX4_countAt_102 post x3 zT zB k41 y4 y5 y6 y7 zC)))))
def qX4_countAt_41 (post : ((CS)) → Prop) (x3 : Int32) (zT : CS) (zB : CS)  (n : Nat) : (Int32) → (Int32) → (Int32) → (Int32) → (CS) → Prop :=
  Nat.rec (motive := fun _ => (Int32) → (Int32) → (Int32) → (Int32) → (CS) → Prop) (fun _ _ _ _ _ => False) (fun _ k => qX4_countAt_41b post x3 zT zB k) n
def qX4_countAt_36 (post : ((CS)) → Prop) (x3 : Int32) (zT : CS) (zB : CS)  (y4 : Int32) (y5 : Int32) (w0 : Int32) (zC : CS) : Prop :=
  ∃ n : Nat, qX4_countAt_41 post x3 zT zB n y4 y5 w0 (0 : Int32) zC
def qX4_countAt (post : ((CS)) → Prop) (x3 : Int32) (zT : CS) (zB : CS) (zC : CS) : Prop :=
  vp_in x3 7 ∧ (qX5_symbolAt (fun r11 (u11 : Unit) => qX5_firstAt (fun r19 (u19 : Unit) => qX5_secondAt (fun r25 (u25 : Unit) => (r19 = r25 → (qX4_countAt_36 post x3 zT zB ((zC 0) x3.toNatClampNeg) r11 (2 : Int32) zC)) ∧ (¬ r19 = r25 → (qX4_countAt_36 post x3 zT zB ((zC 0) x3.toNatClampNeg) r11 (1 : Int32) zC))) ((zC 0) x3.toNatClampNeg) zT) ((zC 0) x3.toNatClampNeg) zT) ((zC 0) x3.toNatClampNeg) zT)
def qX4_count_22b (post : Int32 → ((CS)) → Prop) (x3 : Int32) (x4 : Int32) (zT : CS) (zB : CS)  (k22 : (Int32) → (Int32) → (CS) → Prop) (y5 : Int32) (y6 : Int32) (zC : CS) : Prop :=
  (y6 < (0 : Int32) → (vp_in x4 42 ∧ (post ((zC 2) x4.toNatClampNeg) (zC)))) ∧ (¬ y6 < (0 : Int32) → (qX4_countAt (fun (u32 : (CS)) => k22 y5 (y6 + (-1 : Int32)) u32) y6 zT zB zC))
def qX4_count_22 (post : Int32 → ((CS)) → Prop) (x3 : Int32) (x4 : Int32) (zT : CS) (zB : CS)  (n : Nat) : (Int32) → (Int32) → (CS) → Prop :=
  Nat.rec (motive := fun _ => (Int32) → (Int32) → (CS) → Prop) (fun _ _ _ => False) (fun _ k => qX4_count_22b post x3 x4 zT zB k) n
def qX4_count (post : Int32 → ((CS)) → Prop) (x3 : Int32) (x4 : Int32) (zT : CS) (zB : CS) (zC : CS) : Prop :=
  qX4_layOut (fun r3 (u3 : (CS)) => qJ7_fill_53178 (fun (u13 : (Nat → Int32)) => ∃ n : Nat, qX4_count_22 post x3 x4 zT zB n r3 (r3 - (1 : Int32)) (sr u3 2 u13)) 42 (0 : Int32) (u3 2)) x3 zT zC
def qX5_content (post : Int32 → (Unit) → Prop) (x0 : Int32) (x1 : Int32) (x2 : Int32)  : Prop :=
  post ((((x0 <<< ((10 : Int32) &&& 31)) ||| x1) <<< ((10 : Int32) &&& 31)) ||| x2) ()
def qX5_make_62 (post : ((CS)) → Prop) (x1 : Int32) (x2 : Int32) (x3 : Int32)  (w1 : Int32) (w2 : Int32) (zT : CS) : Prop :=
  vp_in w1 2278 ∧ (post (st (st zT 1 w1.toNatClampNeg w2) 2 0 (((st zT 1 w1.toNatClampNeg w2) 2 0) + (1 : Int32))))
def qX5_make (post : ((CS)) → Prop) (x1 : Int32) (x2 : Int32) (x3 : Int32) (zT : CS) : Prop :=
  ((2278 : Int32) ≤ (zT 2 0) → (post (zT))) ∧ (¬ (2278 : Int32) ≤ (zT 2 0) → (qX5_content (fun r21 (u21 : Unit) => vp_in (zT 2 0) 2278 ∧ (vp_in x1 5 ∧ (((xar x1.toNatClampNeg) = (0 : Int32) → (qX5_make_62 post x1 x2 x3 ((st zT 0 (zT 2 0).toNatClampNeg r21) 2 0) (0 : Int32) (st zT 0 (zT 2 0).toNatClampNeg r21))) ∧ (¬ (xar x1.toNatClampNeg) = (0 : Int32) → (vp_in x2 2278 ∧ (vp_in x3 2278 ∧ (qX5_make_62 post x1 x2 x3 ((st zT 0 (zT 2 0).toNatClampNeg r21) 2 0) ((1 : Int32) + (if (((st zT 0 (zT 2 0).toNatClampNeg r21) 1) x2.toNatClampNeg) < (((st zT 0 (zT 2 0).toNatClampNeg r21) 1) x3.toNatClampNeg) then (((st zT 0 (zT 2 0).toNatClampNeg r21) 1) x3.toNatClampNeg) else (((st zT 0 (zT 2 0).toNatClampNeg r21) 1) x2.toNatClampNeg))) (st zT 0 (zT 2 0).toNatClampNeg r21)))))))) x1 x2 x3))
def qX5_makeUnary_8b (post : ((CS)) → Prop) (x1 : Int32)  (k8 : (Int32) → (CS) → Prop) (y2 : Int32) (zT : CS) : Prop :=
  vp_in x1 9 ∧ (((xst x1.toNatClampNeg) ≤ y2 → (post (zT))) ∧ (¬ (xst x1.toNatClampNeg) ≤ y2 → (qX5_make (fun (u21 : (CS)) => k8 (y2 + (1 : Int32)) u21) (2 : Int32) y2 (0 : Int32) zT)))
def qX5_makeUnary_8 (post : ((CS)) → Prop) (x1 : Int32)  (n : Nat) : (Int32) → (CS) → Prop :=
  Nat.rec (motive := fun _ => (Int32) → (CS) → Prop) (fun _ _ => False) (fun _ k => qX5_makeUnary_8b post x1 k) n
def qX5_makeUnary (post : ((CS)) → Prop) (x1 : Int32) (zT : CS) : Prop :=
  vp_in (x1 - (1 : Int32)) 9 ∧ (∃ n : Nat, qX5_makeUnary_8 post x1 n (xst (x1 - (1 : Int32)).toNatClampNeg) zT)
def qX6_sizeAt_25 (post : Int32 → (Unit) → Prop) (x0 : Int32)  (y1 : Int32) : Prop :=
  post y1 ()
def qX6_sizeAt_2b (post : Int32 → (Unit) → Prop) (x0 : Int32)  (k2 : (Int32) → Prop) (y1 : Int32) : Prop :=
  ((7 : Int32) ≤ y1 → (qX6_sizeAt_25 post x0 y1)) ∧ (¬ (7 : Int32) ≤ y1 → (vp_in (y1 + (1 : Int32)) 9 ∧ ((x0 < (xst (y1 + (1 : Int32)).toNatClampNeg) → (qX6_sizeAt_25 post x0 y1)) ∧ (¬ x0 < (xst (y1 + (1 : Int32)).toNatClampNeg) → (k2 (y1 + (1 : Int32)))))))
def qX6_sizeAt_2 (post : Int32 → (Unit) → Prop) (x0 : Int32)  (n : Nat) : (Int32) → Prop :=
  Nat.rec (motive := fun _ => (Int32) → Prop) (fun _ => False) (fun _ k => qX6_sizeAt_2b post x0 k) n
def qX6_sizeAt (post : Int32 → (Unit) → Prop) (x0 : Int32)  : Prop :=
  ∃ n : Nat, qX6_sizeAt_2 post x0 n (1 : Int32)
def qX5_makeBinary_31b (post : ((CS)) → Prop) (x1 : Int32) (x2 : Int32) (k2 : (Int32) → (CS) → Prop) (k31 : (Int32) → (Int32) → (Int32) → (CS) → Prop) (y3 : Int32) (y4 : Int32) (y5 : Int32) (zT : CS) : Prop :=
  vp_in (y4 + (1 : Int32)) 9 ∧ (((xst (y4 + (1 : Int32)).toNatClampNeg) ≤ y5 → (k2 (y3 + (1 : Int32)) zT)) ∧ (¬ (xst (y4 + (1 : Int32)).toNatClampNeg) ≤ y5 → (qX5_make (fun (u49 : (CS)) => k31 y3 y4 (y5 + (1 : Int32)) u49) x1 y3 y5 zT)))
def qX5_makeBinary_31 (post : ((CS)) → Prop) (x1 : Int32) (x2 : Int32) (k2 : (Int32) → (CS) → Prop) (n : Nat) : (Int32) → (Int32) → (Int32) → (CS) → Prop :=
  Nat.rec (motive := fun _ => (Int32) → (Int32) → (Int32) → (CS) → Prop) (fun _ _ _ _ => False) (fun _ k => qX5_makeBinary_31b post x1 x2 k2 k) n
def qX5_makeBinary_2b (post : ((CS)) → Prop) (x1 : Int32) (x2 : Int32)  (k2 : (Int32) → (CS) → Prop) (y3 : Int32) (zT : CS) : Prop :=
  vp_in (x2 - (1 : Int32)) 9 ∧ (((xst (x2 - (1 : Int32)).toNatClampNeg) ≤ y3 → (post (zT))) ∧ (¬ (xst (x2 - (1 : Int32)).toNatClampNeg) ≤ y3 → (qX6_sizeAt (fun r17 (u17 : Unit) => vp_in ((x2 - (1 : Int32)) - r17) 9 ∧ (∃ n : Nat, qX5_makeBinary_31 post x1 x2 k2 n y3 ((x2 - (1 : Int32)) - r17) (xst ((x2 - (1 : Int32)) - r17).toNatClampNeg) zT)) y3)))
def qX5_makeBinary_2 (post : ((CS)) → Prop) (x1 : Int32) (x2 : Int32)  (n : Nat) : (Int32) → (CS) → Prop :=
  Nat.rec (motive := fun _ => (Int32) → (CS) → Prop) (fun _ _ => False) (fun _ k => qX5_makeBinary_2b post x1 x2 k) n
def qX5_makeBinary (post : ((CS)) → Prop) (x1 : Int32) (x2 : Int32) (zT : CS) : Prop :=
  ∃ n : Nat, qX5_makeBinary_2 post x1 x2 n (0 : Int32) zT
def qX5_find_64b (post : Int32 → (Unit) → Prop) (x1 : Int32) (x2 : Int32) (x3 : Int32) (zT : CS)  (k64 : (Int32) → (Int32) → (Int32) → Prop) (y4 : Int32) (y5 : Int32) (y6 : Int32) : Prop :=
  vp_in (y4 + (1 : Int32)) 9 ∧ (((xst (y4 + (1 : Int32)).toNatClampNeg) ≤ y6 → (post (-2 : Int32) ())) ∧ (¬ (xst (y4 + (1 : Int32)).toNatClampNeg) ≤ y6 → (vp_in y6 2278 ∧ ((((zT 0) y6.toNatClampNeg) = y5 → (post y6 ())) ∧ (¬ ((zT 0) y6.toNatClampNeg) = y5 → (k64 y4 y5 (y6 + (1 : Int32))))))))
def qX5_find_64 (post : Int32 → (Unit) → Prop) (x1 : Int32) (x2 : Int32) (x3 : Int32) (zT : CS)  (n : Nat) : (Int32) → (Int32) → (Int32) → Prop :=
  Nat.rec (motive := fun _ => (Int32) → (Int32) → (Int32) → Prop) (fun _ _ _ => False) (fun _ k => qX5_find_64b post x1 x2 x3 zT k) n
def qX5_find_38 (post : Int32 → (Unit) → Prop) (x1 : Int32) (x2 : Int32) (x3 : Int32) (zT : CS)  (y4 : Int32) : Prop :=
  (y4 ≤ (7 : Int32) → (qX5_content (fun r51 (u51 : Unit) => vp_in y4 9 ∧ (∃ n : Nat, qX5_find_64 post x1 x2 x3 zT n y4 r51 (xst y4.toNatClampNeg))) x1 x2 x3)) ∧ (¬ y4 ≤ (7 : Int32) → (post (-2 : Int32) ()))
def qX5_find_20 (post : Int32 → (Unit) → Prop) (x1 : Int32) (x2 : Int32) (x3 : Int32) (zT : CS)  (y4 : Int32) : Prop :=
  vp_in x1 5 ∧ (((xar x1.toNatClampNeg) ≤ (1 : Int32) → (qX5_find_38 post x1 x2 x3 zT y4)) ∧ (¬ (xar x1.toNatClampNeg) ≤ (1 : Int32) → (qX6_sizeAt (fun r32 (u32 : Unit) => qX5_find_38 post x1 x2 x3 zT (y4 + r32)) x3)))
def qX5_find (post : Int32 → (Unit) → Prop) (x1 : Int32) (x2 : Int32) (x3 : Int32) (zT : CS) : Prop :=
  vp_in x1 5 ∧ (((xar x1.toNatClampNeg) ≤ (0 : Int32) → (qX5_find_20 post x1 x2 x3 zT (1 : Int32))) ∧ (¬ (xar x1.toNatClampNeg) ≤ (0 : Int32) → (qX6_sizeAt (fun r14 (u14 : Unit) => qX5_find_20 post x1 x2 x3 zT ((1 : Int32) + r14)) x2)))
def qX6_renewRuns (post : ((CS) × (CS)) → Prop)  (zS : CS) (zB : CS) (zM : CS) : Prop :=
  qX3_build (fun (u8 : (CS)) => post (st (st zS 1 0 (0 : Int32)) 1 1 (0 : Int32), u8)) zB zM
def qX6_reset_11 (post : Int32 → ((CS) × (CS) × (CS) × (CS)) → Prop) (x1 : Int32)  (zS : CS) (zB : CS) (zH : CS) (zM : CS) : Prop :=
  post (-1 : Int32) (zS, zB, zH, zM)
def qX6_reset (post : Int32 → ((CS) × (CS) × (CS) × (CS)) → Prop) (x1 : Int32) (zS : CS) (zB : CS) (zH : CS) (zM : CS) : Prop :=
  (x1 < (1 : Int32) → (qX6_reset_11 post x1 zS zB zH zM)) ∧ (¬ x1 < (1 : Int32) → ((x1 ≤ (6 : Int32) → (qX2_clear (fun (u27 : (CS)) => qX1_forget (fun (u34 : (CS)) => qX6_renewRuns (fun (u38 : (CS) × (CS)) => post (zS 1 2) (u38.1, u27, u34, u38.2)) (st zS 1 2 x1) u27 zM) zH) zB)) ∧ (¬ x1 ≤ (6 : Int32) → (qX6_reset_11 post x1 zS zB zH zM))))
def qX6_isState_16 (post : Int32 → (Unit) → Prop) (x1 : Int32) (zS : CS)   : Prop :=
  post (0 : Int32) ()
def qX6_isState (post : Int32 → (Unit) → Prop) (x1 : Int32) (zS : CS) : Prop :=
  (x1 < (0 : Int32) → (qX6_isState_16 post x1 zS )) ∧ (¬ x1 < (0 : Int32) → (((zS 1 2) ≤ x1 → (qX6_isState_16 post x1 zS )) ∧ (¬ (zS 1 2) ≤ x1 → (post (1 : Int32) ()))))
def qJ6_bitCount_0f7a4 (post : Int32 → (Unit) → Prop) (x0 : Int32)  : Prop :=
  post ((((((((x0 - (((x0.toUInt32 >>> ((1 : Int32).toUInt32 &&& Int32.toUInt32 31)).toInt32) &&& (1431655765 : Int32))) &&& (858993459 : Int32)) + ((((x0 - (((x0.toUInt32 >>> ((1 : Int32).toUInt32 &&& Int32.toUInt32 31)).toInt32) &&& (1431655765 : Int32))).toUInt32 >>> ((2 : Int32).toUInt32 &&& Int32.toUInt32 31)).toInt32) &&& (858993459 : Int32))) + (((((x0 - (((x0.toUInt32 >>> ((1 : Int32).toUInt32 &&& Int32.toUInt32 31)).toInt32) &&& (1431655765 : Int32))) &&& (858993459 : Int32)) + ((((x0 - (((x0.toUInt32 >>> ((1 : Int32).toUInt32 &&& Int32.toUInt32 31)).toInt32) &&& (1431655765 : Int32))).toUInt32 >>> ((2 : Int32).toUInt32 &&& Int32.toUInt32 31)).toInt32) &&& (858993459 : Int32))).toUInt32 >>> ((4 : Int32).toUInt32 &&& Int32.toUInt32 31)).toInt32)) &&& (252645135 : Int32)) + (((((((x0 - (((x0.toUInt32 >>> ((1 : Int32).toUInt32 &&& Int32.toUInt32 31)).toInt32) &&& (1431655765 : Int32))) &&& (858993459 : Int32)) + ((((x0 - (((x0.toUInt32 >>> ((1 : Int32).toUInt32 &&& Int32.toUInt32 31)).toInt32) &&& (1431655765 : Int32))).toUInt32 >>> ((2 : Int32).toUInt32 &&& Int32.toUInt32 31)).toInt32) &&& (858993459 : Int32))) + (((((x0 - (((x0.toUInt32 >>> ((1 : Int32).toUInt32 &&& Int32.toUInt32 31)).toInt32) &&& (1431655765 : Int32))) &&& (858993459 : Int32)) + ((((x0 - (((x0.toUInt32 >>> ((1 : Int32).toUInt32 &&& Int32.toUInt32 31)).toInt32) &&& (1431655765 : Int32))).toUInt32 >>> ((2 : Int32).toUInt32 &&& Int32.toUInt32 31)).toInt32) &&& (858993459 : Int32))).toUInt32 >>> ((4 : Int32).toUInt32 &&& Int32.toUInt32 31)).toInt32)) &&& (252645135 : Int32)).toUInt32 >>> ((8 : Int32).toUInt32 &&& Int32.toUInt32 31)).toInt32)) + ((((((((x0 - (((x0.toUInt32 >>> ((1 : Int32).toUInt32 &&& Int32.toUInt32 31)).toInt32) &&& (1431655765 : Int32))) &&& (858993459 : Int32)) + ((((x0 - (((x0.toUInt32 >>> ((1 : Int32).toUInt32 &&& Int32.toUInt32 31)).toInt32) &&& (1431655765 : Int32))).toUInt32 >>> ((2 : Int32).toUInt32 &&& Int32.toUInt32 31)).toInt32) &&& (858993459 : Int32))) + (((((x0 - (((x0.toUInt32 >>> ((1 : Int32).toUInt32 &&& Int32.toUInt32 31)).toInt32) &&& (1431655765 : Int32))) &&& (858993459 : Int32)) + ((((x0 - (((x0.toUInt32 >>> ((1 : Int32).toUInt32 &&& Int32.toUInt32 31)).toInt32) &&& (1431655765 : Int32))).toUInt32 >>> ((2 : Int32).toUInt32 &&& Int32.toUInt32 31)).toInt32) &&& (858993459 : Int32))).toUInt32 >>> ((4 : Int32).toUInt32 &&& Int32.toUInt32 31)).toInt32)) &&& (252645135 : Int32)) + (((((((x0 - (((x0.toUInt32 >>> ((1 : Int32).toUInt32 &&& Int32.toUInt32 31)).toInt32) &&& (1431655765 : Int32))) &&& (858993459 : Int32)) + ((((x0 - (((x0.toUInt32 >>> ((1 : Int32).toUInt32 &&& Int32.toUInt32 31)).toInt32) &&& (1431655765 : Int32))).toUInt32 >>> ((2 : Int32).toUInt32 &&& Int32.toUInt32 31)).toInt32) &&& (858993459 : Int32))) + (((((x0 - (((x0.toUInt32 >>> ((1 : Int32).toUInt32 &&& Int32.toUInt32 31)).toInt32) &&& (1431655765 : Int32))) &&& (858993459 : Int32)) + ((((x0 - (((x0.toUInt32 >>> ((1 : Int32).toUInt32 &&& Int32.toUInt32 31)).toInt32) &&& (1431655765 : Int32))).toUInt32 >>> ((2 : Int32).toUInt32 &&& Int32.toUInt32 31)).toInt32) &&& (858993459 : Int32))).toUInt32 >>> ((4 : Int32).toUInt32 &&& Int32.toUInt32 31)).toInt32)) &&& (252645135 : Int32)).toUInt32 >>> ((8 : Int32).toUInt32 &&& Int32.toUInt32 31)).toInt32)).toUInt32 >>> ((16 : Int32).toUInt32 &&& Int32.toUInt32 31)).toInt32)) &&& (63 : Int32)) ()
def qX6_setFinal (post : Int32 → ((CS) × (CS) × (Nat → CS)) → Prop) (x1 : Int32) (x2 : Int32) (zS : CS) (zB : CS) (zH : CS) (zR : Nat → CS) : Prop :=
  qX6_isState (fun r2 (u2 : Unit) => (r2 = (0 : Int32) → (post (-1 : Int32) (zB, zH, zR))) ∧ (¬ r2 = (0 : Int32) → (qX1_keep (fun (u18 : (CS) × (Nat → CS)) => qX2_markFinal (fun (u27 : (CS)) => qJ6_bitCount_0f7a4 (fun r37 (u37 : Unit) => post r37 (u27, u18.1, u18.2)) (u27 5 1)) x1 x2 zB) zB zH zR))) x1 zS
def qX6_isSymbol_13 (post : Int32 → (Unit) → Prop) (x0 : Int32)   : Prop :=
  post (0 : Int32) ()
def qX6_isSymbol (post : Int32 → (Unit) → Prop) (x0 : Int32)  : Prop :=
  (x0 < (0 : Int32) → (qX6_isSymbol_13 post x0 )) ∧ (¬ x0 < (0 : Int32) → (((5 : Int32) ≤ x0 → (qX6_isSymbol_13 post x0 )) ∧ (¬ (5 : Int32) ≤ x0 → (post (1 : Int32) ()))))
def qX6_isChildState (post : Int32 → (Unit) → Prop) (x1 : Int32) (x2 : Int32) (zS : CS) : Prop :=
  (x2 = (0 : Int32) → ((x1 = (0 : Int32) → (post (1 : Int32) ())) ∧ (¬ x1 = (0 : Int32) → (post (0 : Int32) ())))) ∧ (¬ x2 = (0 : Int32) → (qX6_isState (fun r6 (u6 : Unit) => narrow .boolean (.int r6) = .int r6 ∧ post r6 ()) x1 zS))
def qX6_isConstraint_17 (post : Int32 → (Unit) → Prop) (x0 : Int32) (x1 : Int32)   : Prop :=
  post (0 : Int32) ()
def qX6_isConstraint (post : Int32 → (Unit) → Prop) (x0 : Int32) (x1 : Int32)  : Prop :=
  (x1 = (0 : Int32) → ((x0 = (0 : Int32) → (post (1 : Int32) ())) ∧ (¬ x0 = (0 : Int32) → (post (0 : Int32) ())))) ∧ (¬ x1 = (0 : Int32) → ((x0 < (0 : Int32) → (qX6_isConstraint_17 post x0 x1 )) ∧ (¬ x0 < (0 : Int32) → (((2 : Int32) < x0 → (qX6_isConstraint_17 post x0 x1 )) ∧ (¬ (2 : Int32) < x0 → (post (1 : Int32) ()))))))
def qX6_addRule_81 (post : Int32 → ((CS) × (CS) × (CS) × (Nat → CS) × (CS)) → Prop) (x1 : Int32) (x2 : Int32) (x3 : Int32) (x4 : Int32) (x5 : Int32)  (zS : CS) (zB : CS) (zH : CS) (zR : Nat → CS) (zM : CS) : Prop :=
  post (-1 : Int32) (zS, zB, zH, zR, zM)
def qX6_addRule_75 (post : Int32 → ((CS) × (CS) × (CS) × (Nat → CS) × (CS)) → Prop) (x1 : Int32) (x2 : Int32) (x3 : Int32) (x4 : Int32) (x5 : Int32)  (w0 : Int32) (w1 : Int32) (zS : CS) (zB : CS) (zH : CS) (zR : Nat → CS) (zM : CS) : Prop :=
  qX6_isConstraint (fun r75 (u75 : Unit) => (r75 = (0 : Int32) → (qX6_addRule_81 post x1 x2 x3 x4 x5 zS zB zH zR zM)) ∧ (¬ r75 = (0 : Int32) → (((zB 5 0) < (16 : Int32) → (qX1_keep (fun (u106 : (CS) × (Nat → CS)) => qX2_append (fun (u120 : (CS)) => qX6_renewRuns (fun (u124 : (CS) × (CS)) => post ((u120 5 0) - (1 : Int32)) (u124.1, u120, u106.1, u106.2, u124.2)) zS u120 zM) x1 x2 x3 x4 x5 zB) zB zH zR)) ∧ (¬ (zB 5 0) < (16 : Int32) → (post (-2 : Int32) (zS, zB, zH, zR, zM)))))) w0 w1
def qX6_addRule_53 (post : Int32 → ((CS) × (CS) × (CS) × (Nat → CS) × (CS)) → Prop) (x1 : Int32) (x2 : Int32) (x3 : Int32) (x4 : Int32) (x5 : Int32)  (w1 : Int32) (w2 : Int32) (zS : CS) (zB : CS) (zH : CS) (zR : Nat → CS) (zM : CS) : Prop :=
  qX6_isChildState (fun r53 (u53 : Unit) => (r53 = (0 : Int32) → (qX6_addRule_81 post x1 x2 x3 x4 x5 zS zB zH zR zM)) ∧ (¬ r53 = (0 : Int32) → (vp_in x1 5 ∧ (((xar x1.toNatClampNeg) ≤ (1 : Int32) → (qX6_addRule_75 post x1 x2 x3 x4 x5 x4 (0 : Int32) zS zB zH zR zM)) ∧ (¬ (xar x1.toNatClampNeg) ≤ (1 : Int32) → (qX6_addRule_75 post x1 x2 x3 x4 x5 x4 (1 : Int32) zS zB zH zR zM)))))) w1 w2 zS
def qX6_addRule_31 (post : Int32 → ((CS) × (CS) × (CS) × (Nat → CS) × (CS)) → Prop) (x1 : Int32) (x2 : Int32) (x3 : Int32) (x4 : Int32) (x5 : Int32)  (w1 : Int32) (w2 : Int32) (zS : CS) (zB : CS) (zH : CS) (zR : Nat → CS) (zM : CS) : Prop :=
  qX6_isChildState (fun r31 (u31 : Unit) => (r31 = (0 : Int32) → (qX6_addRule_81 post x1 x2 x3 x4 x5 zS zB zH zR zM)) ∧ (¬ r31 = (0 : Int32) → (vp_in x1 5 ∧ (((xar x1.toNatClampNeg) ≤ (1 : Int32) → (qX6_addRule_53 post x1 x2 x3 x4 x5 x3 (0 : Int32) zS zB zH zR zM)) ∧ (¬ (xar x1.toNatClampNeg) ≤ (1 : Int32) → (qX6_addRule_53 post x1 x2 x3 x4 x5 x3 (1 : Int32) zS zB zH zR zM)))))) w1 w2 zS
def qX6_addRule (post : Int32 → ((CS) × (CS) × (CS) × (Nat → CS) × (CS)) → Prop) (x1 : Int32) (x2 : Int32) (x3 : Int32) (x4 : Int32) (x5 : Int32) (zS : CS) (zB : CS) (zH : CS) (zR : Nat → CS) (zM : CS) : Prop :=
  qX6_isSymbol (fun r1 (u1 : Unit) => (r1 = (0 : Int32) → (qX6_addRule_81 post x1 x2 x3 x4 x5 zS zB zH zR zM)) ∧ (¬ r1 = (0 : Int32) → (qX6_isState (fun r10 (u10 : Unit) => (r10 = (0 : Int32) → (qX6_addRule_81 post x1 x2 x3 x4 x5 zS zB zH zR zM)) ∧ (¬ r10 = (0 : Int32) → (vp_in x1 5 ∧ (((xar x1.toNatClampNeg) ≤ (0 : Int32) → (qX6_addRule_31 post x1 x2 x3 x4 x5 x2 (0 : Int32) zS zB zH zR zM)) ∧ (¬ (xar x1.toNatClampNeg) ≤ (0 : Int32) → (qX6_addRule_31 post x1 x2 x3 x4 x5 x2 (1 : Int32) zS zB zH zR zM)))))) x5 zS))) x1
def qX6_removeRule_15 (post : Int32 → ((CS) × (CS) × (CS) × (Nat → CS) × (CS)) → Prop) (x1 : Int32)  (zS : CS) (zB : CS) (zH : CS) (zR : Nat → CS) (zM : CS) : Prop :=
  post (-1 : Int32) (zS, zB, zH, zR, zM)
def qX6_removeRule (post : Int32 → ((CS) × (CS) × (CS) × (Nat → CS) × (CS)) → Prop) (x1 : Int32) (zS : CS) (zB : CS) (zH : CS) (zR : Nat → CS) (zM : CS) : Prop :=
  (x1 < (0 : Int32) → (qX6_removeRule_15 post x1 zS zB zH zR zM)) ∧ (¬ x1 < (0 : Int32) → ((x1 < (zB 5 0) → (qX1_keep (fun (u25 : (CS) × (Nat → CS)) => qX2_delete (fun (u33 : (CS)) => qX6_renewRuns (fun (u37 : (CS) × (CS)) => post (u33 5 0) (u37.1, u33, u25.1, u25.2, u37.2)) zS u33 zM) x1 zB) zB zH zR)) ∧ (¬ x1 < (zB 5 0) → (qX6_removeRule_15 post x1 zS zB zH zR zM))))
def qX6_swapStates_16 (post : Int32 → ((CS) × (CS) × (CS) × (Nat → CS) × (CS)) → Prop) (x1 : Int32) (x2 : Int32)  (zS : CS) (zB : CS) (zH : CS) (zR : Nat → CS) (zM : CS) : Prop :=
  post (-1 : Int32) (zS, zB, zH, zR, zM)
def qX6_swapStates (post : Int32 → ((CS) × (CS) × (CS) × (Nat → CS) × (CS)) → Prop) (x1 : Int32) (x2 : Int32) (zS : CS) (zB : CS) (zH : CS) (zR : Nat → CS) (zM : CS) : Prop :=
  qX6_isState (fun r2 (u2 : Unit) => (r2 = (0 : Int32) → (qX6_swapStates_16 post x1 x2 zS zB zH zR zM)) ∧ (¬ r2 = (0 : Int32) → (qX6_isState (fun r10 (u10 : Unit) => (r10 = (0 : Int32) → (qX6_swapStates_16 post x1 x2 zS zB zH zR zM)) ∧ (¬ r10 = (0 : Int32) → (qX1_keep (fun (u26 : (CS) × (Nat → CS)) => qX2_rulesWith (fun r35 (u35 : Unit) => qX2_exchange (fun (u45 : (CS)) => qX6_renewRuns (fun (u49 : (CS) × (CS)) => post r35 (u49.1, u45, u26.1, u26.2, u49.2)) zS u45 zM) x1 x2 zB) x1 x2 zB) zB zH zR))) x2 zS))) x1 zS
def qX6_ruleCount (post : Int32 → (Unit) → Prop)  (zS : CS) (zB : CS) : Prop :=
  post (zB 5 0) ()
def qX6_finalStates (post : Int32 → (Unit) → Prop)  (zS : CS) (zB : CS) : Prop :=
  post (zB 5 1) ()
def qX6_isSize_15 (post : Int32 → (Unit) → Prop) (x0 : Int32)   : Prop :=
  post (0 : Int32) ()
def qX6_isSize (post : Int32 → (Unit) → Prop) (x0 : Int32)  : Prop :=
  (x0 < (1 : Int32) → (qX6_isSize_15 post x0 )) ∧ (¬ x0 < (1 : Int32) → (((7 : Int32) < x0 → (qX6_isSize_15 post x0 )) ∧ (¬ (7 : Int32) < x0 → (post (1 : Int32) ()))))
def qX6_treeCount (post : Int32 → (Unit) → Prop) (x1 : Int32) (zS : CS) : Prop :=
  qX6_isSize (fun r1 (u1 : Unit) => (r1 = (0 : Int32) → (post (-1 : Int32) ())) ∧ (¬ r1 = (0 : Int32) → (vp_in (x1 + (1 : Int32)) 9 ∧ (vp_in x1 9 ∧ (post ((xst (x1 + (1 : Int32)).toNatClampNeg) - (xst x1.toNatClampNeg)) ()))))) x1
def qX6_isTree_15 (post : Int32 → (Unit) → Prop) (x0 : Int32)   : Prop :=
  post (0 : Int32) ()
def qX6_isTree (post : Int32 → (Unit) → Prop) (x0 : Int32)  : Prop :=
  (x0 < (0 : Int32) → (qX6_isTree_15 post x0 )) ∧ (¬ x0 < (0 : Int32) → (((2278 : Int32) ≤ x0 → (qX6_isTree_15 post x0 )) ∧ (¬ (2278 : Int32) ≤ x0 → (post (1 : Int32) ()))))
def qX6_isChildTree (post : Int32 → (Unit) → Prop) (x0 : Int32) (x1 : Int32)  : Prop :=
  (x1 = (0 : Int32) → ((x0 = (0 : Int32) → (post (1 : Int32) ())) ∧ (¬ x0 = (0 : Int32) → (post (0 : Int32) ())))) ∧ (¬ x1 = (0 : Int32) → (qX6_isTree (fun r5 (u5 : Unit) => narrow .boolean (.int r5) = .int r5 ∧ post r5 ()) x0))
def qX6_treeOf_48 (post : Int32 → (Unit) → Prop) (x1 : Int32) (x2 : Int32) (x3 : Int32) (zS : CS) (zT : CS)   : Prop :=
  post (-1 : Int32) ()
def qX6_treeOf_42 (post : Int32 → (Unit) → Prop) (x1 : Int32) (x2 : Int32) (x3 : Int32) (zS : CS) (zT : CS)  (w0 : Int32) (w1 : Int32) : Prop :=
  qX6_isChildTree (fun r42 (u42 : Unit) => (r42 = (0 : Int32) → (qX6_treeOf_48 post x1 x2 x3 zS zT )) ∧ (¬ r42 = (0 : Int32) → (qX5_find (fun r57 (u57 : Unit) => post r57 ()) x1 x2 x3 zT))) w0 w1
def qX6_treeOf_21 (post : Int32 → (Unit) → Prop) (x1 : Int32) (x2 : Int32) (x3 : Int32) (zS : CS) (zT : CS)  (w0 : Int32) (w1 : Int32) : Prop :=
  qX6_isChildTree (fun r21 (u21 : Unit) => (r21 = (0 : Int32) → (qX6_treeOf_48 post x1 x2 x3 zS zT )) ∧ (¬ r21 = (0 : Int32) → (vp_in x1 5 ∧ (((xar x1.toNatClampNeg) ≤ (1 : Int32) → (qX6_treeOf_42 post x1 x2 x3 zS zT x3 (0 : Int32))) ∧ (¬ (xar x1.toNatClampNeg) ≤ (1 : Int32) → (qX6_treeOf_42 post x1 x2 x3 zS zT x3 (1 : Int32))))))) w0 w1
def qX6_treeOf (post : Int32 → (Unit) → Prop) (x1 : Int32) (x2 : Int32) (x3 : Int32) (zS : CS) (zT : CS) : Prop :=
  qX6_isSymbol (fun r1 (u1 : Unit) => (r1 = (0 : Int32) → (qX6_treeOf_48 post x1 x2 x3 zS zT )) ∧ (¬ r1 = (0 : Int32) → (vp_in x1 5 ∧ (((xar x1.toNatClampNeg) ≤ (0 : Int32) → (qX6_treeOf_21 post x1 x2 x3 zS zT x2 (0 : Int32))) ∧ (¬ (xar x1.toNatClampNeg) ≤ (0 : Int32) → (qX6_treeOf_21 post x1 x2 x3 zS zT x2 (1 : Int32))))))) x1
def qX6_symbolOf (post : Int32 → (Unit) → Prop) (x1 : Int32) (zS : CS) (zT : CS) : Prop :=
  qX6_isTree (fun r1 (u1 : Unit) => (r1 = (0 : Int32) → (post (-1 : Int32) ())) ∧ (¬ r1 = (0 : Int32) → (qX5_symbolAt (fun r14 (u14 : Unit) => post r14 ()) x1 zT))) x1
def qX6_childOf_16 (post : Int32 → (Unit) → Prop) (x1 : Int32) (x2 : Int32) (zS : CS) (zT : CS)   : Prop :=
  post (-1 : Int32) ()
def qX6_childOf (post : Int32 → (Unit) → Prop) (x1 : Int32) (x2 : Int32) (zS : CS) (zT : CS) : Prop :=
  qX6_isTree (fun r1 (u1 : Unit) => (r1 = (0 : Int32) → (qX6_childOf_16 post x1 x2 zS zT )) ∧ (¬ r1 = (0 : Int32) → ((x2 < (0 : Int32) → (qX6_childOf_16 post x1 x2 zS zT )) ∧ (¬ x2 < (0 : Int32) → ((x2 ≤ (1 : Int32) → (qX5_arityAt (fun r24 (u24 : Unit) => (x2 < r24 → ((x2 = (0 : Int32) → (qX5_firstAt (fun r42 (u42 : Unit) => post r42 ()) x1 zT)) ∧ (¬ x2 = (0 : Int32) → (qX5_secondAt (fun r53 (u53 : Unit) => post r53 ()) x1 zT)))) ∧ (¬ x2 < r24 → (post (-3 : Int32) ()))) x1 zT)) ∧ (¬ x2 ≤ (1 : Int32) → (qX6_childOf_16 post x1 x2 zS zT ))))))) x1
def qX6_sizeOf (post : Int32 → (Unit) → Prop) (x1 : Int32) (zS : CS) : Prop :=
  qX6_isTree (fun r1 (u1 : Unit) => (r1 = (0 : Int32) → (post (-1 : Int32) ())) ∧ (¬ r1 = (0 : Int32) → (qX6_sizeAt (fun r10 (u10 : Unit) => post r10 ()) x1))) x1
def qX6_heightOf (post : Int32 → (Unit) → Prop) (x1 : Int32) (zS : CS) (zT : CS) : Prop :=
  qX6_isTree (fun r1 (u1 : Unit) => (r1 = (0 : Int32) → (post (-1 : Int32) ())) ∧ (¬ r1 = (0 : Int32) → (vp_in x1 2278 ∧ (post ((zT 1) x1.toNatClampNeg) ())))) x1
def qX6_subsetAt_77 (post : Int32 → ((CS)) → Prop) (x1 : Int32) (zT : CS) (zM : CS) (k0 : (CS) → Prop) (y2 : Int32) (y3 : Int32) (w1 : Int32) (w3 : Int32) (w4 : Int32) (w5 : Int32) (w6 : Int32) (zS : CS) : Prop :=
  qX3_step (fun r77 (u77 : Unit) => vp_in w1 2278 ∧ (k0 (st (st zS 0 w1.toNatClampNeg r77) 1 0 (((st zS 0 w1.toNatClampNeg r77) 1 0) + (1 : Int32))))) w3 w4 w5 w6 zM
def qX6_subsetAt_0b (post : Int32 → ((CS)) → Prop) (x1 : Int32) (zT : CS) (zM : CS)  (k0 : (CS) → Prop) (zS : CS) : Prop :=
  (x1 < (zS 1 0) → (vp_in x1 2278 ∧ (post ((zS 0) x1.toNatClampNeg) (zS)))) ∧ (¬ x1 < (zS 1 0) → (qX5_firstAt (fun r16 (u16 : Unit) => qX5_secondAt (fun r28 (u28 : Unit) => qX5_symbolAt (fun r52 (u52 : Unit) => vp_in r16 2278 ∧ (vp_in r28 2278 ∧ ((r16 = r28 → (qX6_subsetAt_77 post x1 zT zM k0 r16 r28 (zS 1 0) r52 ((zS 0) r16.toNatClampNeg) ((zS 0) r28.toNatClampNeg) (1 : Int32) zS)) ∧ (¬ r16 = r28 → (qX6_subsetAt_77 post x1 zT zM k0 r16 r28 (zS 1 0) r52 ((zS 0) r16.toNatClampNeg) ((zS 0) r28.toNatClampNeg) (0 : Int32) zS))))) (zS 1 0) zT) (zS 1 0) zT) (zS 1 0) zT))
def qX6_subsetAt_0 (post : Int32 → ((CS)) → Prop) (x1 : Int32) (zT : CS) (zM : CS)  (n : Nat) : (CS) → Prop :=
  Nat.rec (motive := fun _ => (CS) → Prop) (fun _ => False) (fun _ k => qX6_subsetAt_0b post x1 zT zM k) n
def qX6_subsetAt (post : Int32 → ((CS)) → Prop) (x1 : Int32) (zS : CS) (zT : CS) (zM : CS) : Prop :=
  ∃ n : Nat, qX6_subsetAt_0 post x1 zT zM n zS
def qX6_subsetOf (post : Int32 → ((CS)) → Prop) (x1 : Int32) (zS : CS) (zT : CS) (zM : CS) : Prop :=
  qX6_isTree (fun r1 (u1 : Unit) => (r1 = (0 : Int32) → (post (-1 : Int32) (zS))) ∧ (¬ r1 = (0 : Int32) → (qX6_subsetAt (fun r11 (u11 : (CS)) => post r11 (u11)) x1 zS zT zM))) x1
def qX6_isAccepted (post : Int32 → ((CS)) → Prop) (x1 : Int32) (zS : CS) (zT : CS) (zB : CS) (zM : CS) : Prop :=
  qX6_subsetAt (fun r2 (u2 : (CS)) => ((r2 &&& (zB 5 1)) = (0 : Int32) → (post (0 : Int32) (u2))) ∧ (¬ (r2 &&& (zB 5 1)) = (0 : Int32) → (post (1 : Int32) (u2)))) x1 zS zT zM
def qX6_accepts (post : Int32 → ((CS)) → Prop) (x1 : Int32) (zS : CS) (zT : CS) (zB : CS) (zM : CS) : Prop :=
  qX6_isTree (fun r1 (u1 : Unit) => (r1 = (0 : Int32) → (post (-1 : Int32) (zS))) ∧ (¬ r1 = (0 : Int32) → (qX6_isAccepted (fun r11 (u11 : (CS)) => (r11 = (0 : Int32) → (post (0 : Int32) (u11))) ∧ (¬ r11 = (0 : Int32) → (post (1 : Int32) (u11)))) x1 zS zT zB zM))) x1
def qX6_runCount_15 (post : Int32 → ((CS)) → Prop) (x1 : Int32) (x2 : Int32) (zS : CS) (zT : CS) (zB : CS)  (zC : CS) : Prop :=
  post (-1 : Int32) (zC)
def qX6_runCount (post : Int32 → ((CS)) → Prop) (x1 : Int32) (x2 : Int32) (zS : CS) (zT : CS) (zB : CS) (zC : CS) : Prop :=
  qX6_isTree (fun r1 (u1 : Unit) => (r1 = (0 : Int32) → (qX6_runCount_15 post x1 x2 zS zT zB zC)) ∧ (¬ r1 = (0 : Int32) → (qX6_isState (fun r9 (u9 : Unit) => (r9 = (0 : Int32) → (qX6_runCount_15 post x1 x2 zS zT zB zC)) ∧ (¬ r9 = (0 : Int32) → (qX4_count (fun r31 (u31 : (CS)) => post r31 (u31)) x1 x2 zT zB zC))) x2 zS))) x1
def qX6_acceptedCount_39 (post : Int32 → ((CS)) → Prop) (x1 : Int32) (zT : CS) (zB : CS) (zM : CS) (k17 : (Int32) → (Int32) → (CS) → Prop) (y2 : Int32) (y3 : Int32) (zS : CS) : Prop :=
  k17 y2 (y3 + (1 : Int32)) zS
def qX6_acceptedCount_17b (post : Int32 → ((CS)) → Prop) (x1 : Int32) (zT : CS) (zB : CS) (zM : CS)  (k17 : (Int32) → (Int32) → (CS) → Prop) (y2 : Int32) (y3 : Int32) (zS : CS) : Prop :=
  vp_in (x1 + (1 : Int32)) 9 ∧ (((xst (x1 + (1 : Int32)).toNatClampNeg) ≤ y3 → (post y2 (zS))) ∧ (¬ (xst (x1 + (1 : Int32)).toNatClampNeg) ≤ y3 → (qX6_isAccepted (fun r30 (u30 : (CS)) => (r30 = (0 : Int32) → (qX6_acceptedCount_39 post x1 zT zB zM k17 y2 y3 u30)) ∧ (¬ r30 = (0 : Int32) → (qX6_acceptedCount_39 post x1 zT zB zM k17 (y2 + (1 : Int32)) y3 u30))) y3 zS zT zB zM)))
def qX6_acceptedCount_17 (post : Int32 → ((CS)) → Prop) (x1 : Int32) (zT : CS) (zB : CS) (zM : CS)  (n : Nat) : (Int32) → (Int32) → (CS) → Prop :=
  Nat.rec (motive := fun _ => (Int32) → (Int32) → (CS) → Prop) (fun _ _ _ => False) (fun _ k => qX6_acceptedCount_17b post x1 zT zB zM k) n
def qX6_acceptedCount (post : Int32 → ((CS)) → Prop) (x1 : Int32) (zS : CS) (zT : CS) (zB : CS) (zM : CS) : Prop :=
  qX6_isSize (fun r1 (u1 : Unit) => (r1 = (0 : Int32) → (post (-1 : Int32) (zS))) ∧ (¬ r1 = (0 : Int32) → (vp_in x1 9 ∧ (∃ n : Nat, qX6_acceptedCount_17 post x1 zT zB zM n (0 : Int32) (xst x1.toNatClampNeg) zS)))) x1
def qX6_acceptedTree_54 (post : Int32 → ((CS)) → Prop) (x1 : Int32) (x2 : Int32) (zT : CS) (zB : CS) (zM : CS) (k22 : (Int32) → (Int32) → (CS) → Prop) (y3 : Int32) (y4 : Int32) (zS : CS) : Prop :=
  k22 y3 (y4 + (1 : Int32)) zS
def qX6_acceptedTree_22b (post : Int32 → ((CS)) → Prop) (x1 : Int32) (x2 : Int32) (zT : CS) (zB : CS) (zM : CS)  (k22 : (Int32) → (Int32) → (CS) → Prop) (y3 : Int32) (y4 : Int32) (zS : CS) : Prop :=
  vp_in (x1 + (1 : Int32)) 9 ∧ (((xst (x1 + (1 : Int32)).toNatClampNeg) ≤ y4 → (post (-3 : Int32) (zS))) ∧ (¬ (xst (x1 + (1 : Int32)).toNatClampNeg) ≤ y4 → (qX6_isAccepted (fun r37 (u37 : (CS)) => (r37 = (0 : Int32) → (qX6_acceptedTree_54 post x1 x2 zT zB zM k22 y3 y4 u37)) ∧ (¬ r37 = (0 : Int32) → ((y3 = x2 → (post y4 (u37))) ∧ (¬ y3 = x2 → (qX6_acceptedTree_54 post x1 x2 zT zB zM k22 (y3 + (1 : Int32)) y4 u37))))) y4 zS zT zB zM)))
def qX6_acceptedTree_22 (post : Int32 → ((CS)) → Prop) (x1 : Int32) (x2 : Int32) (zT : CS) (zB : CS) (zM : CS)  (n : Nat) : (Int32) → (Int32) → (CS) → Prop :=
  Nat.rec (motive := fun _ => (Int32) → (Int32) → (CS) → Prop) (fun _ _ _ => False) (fun _ k => qX6_acceptedTree_22b post x1 x2 zT zB zM k) n
def qX6_acceptedTree_11 (post : Int32 → ((CS)) → Prop) (x1 : Int32) (x2 : Int32) (zT : CS) (zB : CS) (zM : CS)  (zS : CS) : Prop :=
  post (-1 : Int32) (zS)
def qX6_acceptedTree (post : Int32 → ((CS)) → Prop) (x1 : Int32) (x2 : Int32) (zS : CS) (zT : CS) (zB : CS) (zM : CS) : Prop :=
  qX6_isSize (fun r1 (u1 : Unit) => (r1 = (0 : Int32) → (qX6_acceptedTree_11 post x1 x2 zT zB zM zS)) ∧ (¬ r1 = (0 : Int32) → (((0 : Int32) ≤ x2 → (vp_in x1 9 ∧ (∃ n : Nat, qX6_acceptedTree_22 post x1 x2 zT zB zM n (0 : Int32) (xst x1.toNatClampNeg) zS))) ∧ (¬ (0 : Int32) ≤ x2 → (qX6_acceptedTree_11 post x1 x2 zT zB zM zS))))) x1
def qX6_setCount (post : Int32 → (Unit) → Prop)  (zS : CS) : Prop :=
  post ((1 : Int32) <<< ((zS 1 2) &&& 31)) ()
def qX6_renewCensus (post : ((CS) × (CS)) → Prop)  (zS : CS) (zM : CS) (zZ : CS) : Prop :=
  ((zS 1 1) = (0 : Int32) → (qX6_setCount (fun r16 (u16 : Unit) => qX0_take (fun (u19 : (CS)) => post (st zS 1 1 (1 : Int32), u19)) r16 zM zZ) zS)) ∧ (¬ (zS 1 1) = (0 : Int32) → (post (zS, zZ)))
def qX6_treesOfSet_12 (post : Int32 → ((CS) × (CS)) → Prop) (x1 : Int32) (zM : CS)  (zS : CS) (zZ : CS) : Prop :=
  post (-1 : Int32) (zS, zZ)
def qX6_treesOfSet (post : Int32 → ((CS) × (CS)) → Prop) (x1 : Int32) (zS : CS) (zM : CS) (zZ : CS) : Prop :=
  (x1 < (0 : Int32) → (qX6_treesOfSet_12 post x1 zM zS zZ)) ∧ (¬ x1 < (0 : Int32) → (qX6_setCount (fun r6 (u6 : Unit) => (x1 < r6 → (qX6_renewCensus (fun (u15 : (CS) × (CS)) => vp_in x1 64 ∧ (post ((u15.2 0) x1.toNatClampNeg) (u15.1, u15.2))) zS zM zZ)) ∧ (¬ x1 < r6 → (qX6_treesOfSet_12 post x1 zM zS zZ))) zS))
def qX6_reachedSets_30 (post : Int32 → ((CS) × (CS)) → Prop) (zM : CS) (k8 : (Int32) → (Int32) → (CS) → (CS) → Prop) (y1 : Int32) (y2 : Int32) (zS : CS) (zZ : CS) : Prop :=
  k8 y1 (y2 + (1 : Int32)) zS zZ
def qX6_reachedSets_8b (post : Int32 → ((CS) × (CS)) → Prop) (zM : CS)  (k8 : (Int32) → (Int32) → (CS) → (CS) → Prop) (y1 : Int32) (y2 : Int32) (zS : CS) (zZ : CS) : Prop :=
  qX6_setCount (fun r10 (u10 : Unit) => (r10 ≤ y2 → (post y1 (zS, zZ))) ∧ (¬ r10 ≤ y2 → (qX0_isReached (fun r21 (u21 : Unit) => (r21 = (0 : Int32) → (qX6_reachedSets_30 post zM k8 y1 y2 zS zZ)) ∧ (¬ r21 = (0 : Int32) → (qX6_reachedSets_30 post zM k8 (y1 + (1 : Int32)) y2 zS zZ))) y2 zZ))) zS
def qX6_reachedSets_8 (post : Int32 → ((CS) × (CS)) → Prop) (zM : CS)  (n : Nat) : (Int32) → (Int32) → (CS) → (CS) → Prop :=
  Nat.rec (motive := fun _ => (Int32) → (Int32) → (CS) → (CS) → Prop) (fun _ _ _ _ => False) (fun _ k => qX6_reachedSets_8b post zM k) n
def qX6_reachedSets (post : Int32 → ((CS) × (CS)) → Prop)  (zS : CS) (zM : CS) (zZ : CS) : Prop :=
  qX6_renewCensus (fun (u1 : (CS) × (CS)) => ∃ n : Nat, qX6_reachedSets_8 post zM n (0 : Int32) (0 : Int32) u1.1 u1.2) zS zM zZ
def qX6_meetsReachedSet_29 (post : Int32 → (Unit) → Prop) (x1 : Int32) (zS : CS) (zZ : CS) (k2 : (Int32) → Prop) (y2 : Int32) : Prop :=
  k2 (y2 + (1 : Int32))
def qX6_meetsReachedSet_2b (post : Int32 → (Unit) → Prop) (x1 : Int32) (zS : CS) (zZ : CS)  (k2 : (Int32) → Prop) (y2 : Int32) : Prop :=
  qX6_setCount (fun r4 (u4 : Unit) => (r4 ≤ y2 → (post (0 : Int32) ())) ∧ (¬ r4 ≤ y2 → (qX0_isReached (fun r15 (u15 : Unit) => (r15 = (0 : Int32) → (qX6_meetsReachedSet_29 post x1 zS zZ k2 y2)) ∧ (¬ r15 = (0 : Int32) → (((y2 &&& x1) = (0 : Int32) → (qX6_meetsReachedSet_29 post x1 zS zZ k2 y2)) ∧ (¬ (y2 &&& x1) = (0 : Int32) → (post (1 : Int32) ()))))) y2 zZ))) zS
def qX6_meetsReachedSet_2 (post : Int32 → (Unit) → Prop) (x1 : Int32) (zS : CS) (zZ : CS)  (n : Nat) : (Int32) → Prop :=
  Nat.rec (motive := fun _ => (Int32) → Prop) (fun _ => False) (fun _ k => qX6_meetsReachedSet_2b post x1 zS zZ k) n
def qX6_meetsReachedSet (post : Int32 → (Unit) → Prop) (x1 : Int32) (zS : CS) (zZ : CS) : Prop :=
  ∃ n : Nat, qX6_meetsReachedSet_2 post x1 zS zZ n (0 : Int32)
def qX6_isReachable (post : Int32 → ((CS) × (CS)) → Prop) (x1 : Int32) (zS : CS) (zM : CS) (zZ : CS) : Prop :=
  qX6_isState (fun r2 (u2 : Unit) => (r2 = (0 : Int32) → (post (-1 : Int32) (zS, zZ))) ∧ (¬ r2 = (0 : Int32) → (qX6_renewCensus (fun (u11 : (CS) × (CS)) => qX6_meetsReachedSet (fun r18 (u18 : Unit) => (r18 = (0 : Int32) → (post (0 : Int32) (u11.1, u11.2))) ∧ (¬ r18 = (0 : Int32) → (post (1 : Int32) (u11.1, u11.2)))) ((1 : Int32) <<< (x1 &&& 31)) u11.1 u11.2) zS zM zZ))) x1 zS
def qX6_isEmpty (post : Int32 → ((CS) × (CS)) → Prop)  (zS : CS) (zB : CS) (zM : CS) (zZ : CS) : Prop :=
  qX6_renewCensus (fun (u1 : (CS) × (CS)) => qX6_meetsReachedSet (fun r12 (u12 : Unit) => (r12 = (0 : Int32) → (post (1 : Int32) (u1.1, u1.2))) ∧ (¬ r12 = (0 : Int32) → (post (0 : Int32) (u1.1, u1.2)))) (zB 5 1) u1.1 u1.2) zS zM zZ
def qX6_isUniversal_39 (post : Int32 → ((CS) × (CS)) → Prop) (zB : CS) (zM : CS) (k6 : (Int32) → (CS) → (CS) → Prop) (y1 : Int32) (zS : CS) (zZ : CS) : Prop :=
  k6 (y1 + (1 : Int32)) zS zZ
def qX6_isUniversal_6b (post : Int32 → ((CS) × (CS)) → Prop) (zB : CS) (zM : CS)  (k6 : (Int32) → (CS) → (CS) → Prop) (y1 : Int32) (zS : CS) (zZ : CS) : Prop :=
  qX6_setCount (fun r8 (u8 : Unit) => (r8 ≤ y1 → (post (1 : Int32) (zS, zZ))) ∧ (¬ r8 ≤ y1 → (qX0_isReached (fun r19 (u19 : Unit) => (r19 = (0 : Int32) → (qX6_isUniversal_39 post zB zM k6 y1 zS zZ)) ∧ (¬ r19 = (0 : Int32) → (((y1 &&& (zB 5 1)) = (0 : Int32) → (post (0 : Int32) (zS, zZ))) ∧ (¬ (y1 &&& (zB 5 1)) = (0 : Int32) → (qX6_isUniversal_39 post zB zM k6 y1 zS zZ))))) y1 zZ))) zS
def qX6_isUniversal_6 (post : Int32 → ((CS) × (CS)) → Prop) (zB : CS) (zM : CS)  (n : Nat) : (Int32) → (CS) → (CS) → Prop :=
  Nat.rec (motive := fun _ => (Int32) → (CS) → (CS) → Prop) (fun _ _ _ => False) (fun _ k => qX6_isUniversal_6b post zB zM k) n
def qX6_isUniversal (post : Int32 → ((CS) × (CS)) → Prop)  (zS : CS) (zB : CS) (zM : CS) (zZ : CS) : Prop :=
  qX6_renewCensus (fun (u1 : (CS) × (CS)) => ∃ n : Nat, qX6_isUniversal_6 post zB zM n (0 : Int32) u1.1 u1.2) zS zM zZ
def qX6_isComplete (post : Int32 → ((CS) × (CS)) → Prop)  (zS : CS) (zM : CS) (zZ : CS) : Prop :=
  qX6_renewCensus (fun (u1 : (CS) × (CS)) => qX0_isReached (fun r9 (u9 : Unit) => (r9 = (0 : Int32) → (post (1 : Int32) (u1.1, u1.2))) ∧ (¬ r9 = (0 : Int32) → (post (0 : Int32) (u1.1, u1.2)))) (0 : Int32) u1.2) zS zM zZ
def qX6_isDeterministic_35 (post : Int32 → ((CS) × (CS)) → Prop) (zM : CS) (k6 : (Int32) → (CS) → (CS) → Prop) (y1 : Int32) (zS : CS) (zZ : CS) : Prop :=
  k6 (y1 + (1 : Int32)) zS zZ
def qX6_isDeterministic_6b (post : Int32 → ((CS) × (CS)) → Prop) (zM : CS)  (k6 : (Int32) → (CS) → (CS) → Prop) (y1 : Int32) (zS : CS) (zZ : CS) : Prop :=
  qX6_setCount (fun r8 (u8 : Unit) => (r8 ≤ y1 → (post (1 : Int32) (zS, zZ))) ∧ (¬ r8 ≤ y1 → (qX0_isReached (fun r19 (u19 : Unit) => (r19 = (0 : Int32) → (qX6_isDeterministic_35 post zM k6 y1 zS zZ)) ∧ (¬ r19 = (0 : Int32) → (qJ6_bitCount_0f7a4 (fun r26 (u26 : Unit) => (r26 ≤ (1 : Int32) → (qX6_isDeterministic_35 post zM k6 y1 zS zZ)) ∧ (¬ r26 ≤ (1 : Int32) → (post (0 : Int32) (zS, zZ)))) y1))) y1 zZ))) zS
def qX6_isDeterministic_6 (post : Int32 → ((CS) × (CS)) → Prop) (zM : CS)  (n : Nat) : (Int32) → (CS) → (CS) → Prop :=
  Nat.rec (motive := fun _ => (Int32) → (CS) → (CS) → Prop) (fun _ _ _ => False) (fun _ k => qX6_isDeterministic_6b post zM k) n
def qX6_isDeterministic (post : Int32 → ((CS) × (CS)) → Prop)  (zS : CS) (zM : CS) (zZ : CS) : Prop :=
  qX6_renewCensus (fun (u1 : (CS) × (CS)) => ∃ n : Nat, qX6_isDeterministic_6 post zM n (0 : Int32) u1.1 u1.2) zS zM zZ
def qX6_leastHeight_69 (post : Int32 → ((CS) × (CS)) → Prop) (zB : CS) (zM : CS) (k9 : (Int32) → (Int32) → (CS) → (CS) → Prop) (y1 : Int32) (y2 : Int32) (zS : CS) (zZ : CS) : Prop :=
  k9 y1 (y2 + (1 : Int32)) zS zZ
def qX6_leastHeight_59 (post : Int32 → ((CS) × (CS)) → Prop) (zB : CS) (zM : CS) (k9 : (Int32) → (Int32) → (CS) → (CS) → Prop) (y1 : Int32) (y2 : Int32) (zS : CS) (zZ : CS) : Prop :=
  vp_in y2 64 ∧ (qX6_leastHeight_69 post zB zM k9 ((zZ 2) y2.toNatClampNeg) y2 zS zZ)
def qX6_leastHeight_9b (post : Int32 → ((CS) × (CS)) → Prop) (zB : CS) (zM : CS)  (k9 : (Int32) → (Int32) → (CS) → (CS) → Prop) (y1 : Int32) (y2 : Int32) (zS : CS) (zZ : CS) : Prop :=
  qX6_setCount (fun r11 (u11 : Unit) => (r11 ≤ y2 → (post y1 (zS, zZ))) ∧ (¬ r11 ≤ y2 → (qX0_isReached (fun r22 (u22 : Unit) => (r22 = (0 : Int32) → (qX6_leastHeight_69 post zB zM k9 y1 y2 zS zZ)) ∧ (¬ r22 = (0 : Int32) → (((y2 &&& (zB 5 1)) = (0 : Int32) → (qX6_leastHeight_69 post zB zM k9 y1 y2 zS zZ)) ∧ (¬ (y2 &&& (zB 5 1)) = (0 : Int32) → ((y1 = (-3 : Int32) → (qX6_leastHeight_59 post zB zM k9 y1 y2 zS zZ)) ∧ (¬ y1 = (-3 : Int32) → (vp_in y2 64 ∧ ((y1 ≤ ((zZ 2) y2.toNatClampNeg) → (qX6_leastHeight_69 post zB zM k9 y1 y2 zS zZ)) ∧ (¬ y1 ≤ ((zZ 2) y2.toNatClampNeg) → (qX6_leastHeight_59 post zB zM k9 y1 y2 zS zZ)))))))))) y2 zZ))) zS
def qX6_leastHeight_9 (post : Int32 → ((CS) × (CS)) → Prop) (zB : CS) (zM : CS)  (n : Nat) : (Int32) → (Int32) → (CS) → (CS) → Prop :=
  Nat.rec (motive := fun _ => (Int32) → (Int32) → (CS) → (CS) → Prop) (fun _ _ _ _ => False) (fun _ k => qX6_leastHeight_9b post zB zM k) n
def qX6_leastHeight (post : Int32 → ((CS) × (CS)) → Prop)  (zS : CS) (zB : CS) (zM : CS) (zZ : CS) : Prop :=
  qX6_renewCensus (fun (u1 : (CS) × (CS)) => ∃ n : Nat, qX6_leastHeight_9 post zB zM n (-3 : Int32) (0 : Int32) u1.1 u1.2) zS zM zZ
def qX6_undo (post : Int32 → ((CS) × (CS) × (CS) × (CS)) → Prop)  (zS : CS) (zB : CS) (zH : CS) (zR : Nat → CS) (zM : CS) : Prop :=
  ((zH 0 1) = (0 : Int32) → (post (-3 : Int32) (zS, zB, zH, zM))) ∧ (¬ (zH 0 1) = (0 : Int32) → (qX1_giveBack (fun (u21 : (CS) × (CS)) => qX6_renewRuns (fun (u25 : (CS) × (CS)) => post (u21.2 0 1) (u25.1, u21.1, u21.2, u25.2)) zS u21.1 zM) zB zH zR))
def qX7_lays (post : ((CS)) → Prop) (x1 : Int32) (x2 : Int32) (x3 : Int32) (x4 : Int32) (x5 : Int32) (zN : CS) : Prop :=
  vp_in (zN 11 0) 2278 ∧ (vp_in ((st zN 0 (zN 11 0).toNatClampNeg x1) 11 0) 2278 ∧ (vp_in ((st (st zN 0 (zN 11 0).toNatClampNeg x1) 1 ((st zN 0 (zN 11 0).toNatClampNeg x1) 11 0).toNatClampNeg x2) 11 0) 2278 ∧ (vp_in ((st (st (st zN 0 (zN 11 0).toNatClampNeg x1) 1 ((st zN 0 (zN 11 0).toNatClampNeg x1) 11 0).toNatClampNeg x2) 2 ((st (st zN 0 (zN 11 0).toNatClampNeg x1) 1 ((st zN 0 (zN 11 0).toNatClampNeg x1) 11 0).toNatClampNeg x2) 11 0).toNatClampNeg x3) 11 0) 2278 ∧ (vp_in ((st (st (st (st zN 0 (zN 11 0).toNatClampNeg x1) 1 ((st zN 0 (zN 11 0).toNatClampNeg x1) 11 0).toNatClampNeg x2) 2 ((st (st zN 0 (zN 11 0).toNatClampNeg x1) 1 ((st zN 0 (zN 11 0).toNatClampNeg x1) 11 0).toNatClampNeg x2) 11 0).toNatClampNeg x3) 3 ((st (st (st zN 0 (zN 11 0).toNatClampNeg x1) 1 ((st zN 0 (zN 11 0).toNatClampNeg x1) 11 0).toNatClampNeg x2) 2 ((st (st zN 0 (zN 11 0).toNatClampNeg x1) 1 ((st zN 0 (zN 11 0).toNatClampNeg x1) 11 0).toNatClampNeg x2) 11 0).toNatClampNeg x3) 11 0).toNatClampNeg x4) 11 0) 2278 ∧ (post (st (st (st (st (st (st zN 0 (zN 11 0).toNatClampNeg x1) 1 ((st zN 0 (zN 11 0).toNatClampNeg x1) 11 0).toNatClampNeg x2) 2 ((st (st zN 0 (zN 11 0).toNatClampNeg x1) 1 ((st zN 0 (zN 11 0).toNatClampNeg x1) 11 0).toNatClampNeg x2) 11 0).toNatClampNeg x3) 3 ((st (st (st zN 0 (zN 11 0).toNatClampNeg x1) 1 ((st zN 0 (zN 11 0).toNatClampNeg x1) 11 0).toNatClampNeg x2) 2 ((st (st zN 0 (zN 11 0).toNatClampNeg x1) 1 ((st zN 0 (zN 11 0).toNatClampNeg x1) 11 0).toNatClampNeg x2) 11 0).toNatClampNeg x3) 11 0).toNatClampNeg x4) 4 ((st (st (st (st zN 0 (zN 11 0).toNatClampNeg x1) 1 ((st zN 0 (zN 11 0).toNatClampNeg x1) 11 0).toNatClampNeg x2) 2 ((st (st zN 0 (zN 11 0).toNatClampNeg x1) 1 ((st zN 0 (zN 11 0).toNatClampNeg x1) 11 0).toNatClampNeg x2) 11 0).toNatClampNeg x3) 3 ((st (st (st zN 0 (zN 11 0).toNatClampNeg x1) 1 ((st zN 0 (zN 11 0).toNatClampNeg x1) 11 0).toNatClampNeg x2) 2 ((st (st zN 0 (zN 11 0).toNatClampNeg x1) 1 ((st zN 0 (zN 11 0).toNatClampNeg x1) 11 0).toNatClampNeg x2) 11 0).toNatClampNeg x3) 11 0).toNatClampNeg x4) 11 0).toNatClampNeg x5) 11 0 (((st (st (st (st (st zN 0 (zN 11 0).toNatClampNeg x1) 1 ((st zN 0 (zN 11 0).toNatClampNeg x1) 11 0).toNatClampNeg x2) 2 ((st (st zN 0 (zN 11 0).toNatClampNeg x1) 1 ((st zN 0 (zN 11 0).toNatClampNeg x1) 11 0).toNatClampNeg x2) 11 0).toNatClampNeg x3) 3 ((st (st (st zN 0 (zN 11 0).toNatClampNeg x1) 1 ((st zN 0 (zN 11 0).toNatClampNeg x1) 11 0).toNatClampNeg x2) 2 ((st (st zN 0 (zN 11 0).toNatClampNeg x1) 1 ((st zN 0 (zN 11 0).toNatClampNeg x1) 11 0).toNatClampNeg x2) 11 0).toNatClampNeg x3) 11 0).toNatClampNeg x4) 4 ((st (st (st (st zN 0 (zN 11 0).toNatClampNeg x1) 1 ((st zN 0 (zN 11 0).toNatClampNeg x1) 11 0).toNatClampNeg x2) 2 ((st (st zN 0 (zN 11 0).toNatClampNeg x1) 1 ((st zN 0 (zN 11 0).toNatClampNeg x1) 11 0).toNatClampNeg x2) 11 0).toNatClampNeg x3) 3 ((st (st (st zN 0 (zN 11 0).toNatClampNeg x1) 1 ((st zN 0 (zN 11 0).toNatClampNeg x1) 11 0).toNatClampNeg x2) 2 ((st (st zN 0 (zN 11 0).toNatClampNeg x1) 1 ((st zN 0 (zN 11 0).toNatClampNeg x1) 11 0).toNatClampNeg x2) 11 0).toNatClampNeg x3) 11 0).toNatClampNeg x4) 11 0).toNatClampNeg x5) 11 0) + (1 : Int32))))))))
def qX7_grows_158 (post : ((CS)) → Prop) (x1 : Int32) (k43 : (Int32) → (Int32) → (CS) → Prop) (k51 : (Int32) → (Int32) → (Int32) → (CS) → Prop) (y2 : Int32) (y3 : Int32) (y4 : Int32) (y5 : Int32) (y6 : Int32) (zN : CS) : Prop :=
  k51 y2 y3 (y4 + (1 : Int32)) zN
def qX7_grows_147 (post : ((CS)) → Prop) (x1 : Int32) (k43 : (Int32) → (Int32) → (CS) → Prop) (k51 : (Int32) → (Int32) → (Int32) → (CS) → Prop) (k88 : (Int32) → (Int32) → (Int32) → (Int32) → (Int32) → (CS) → Prop) (y2 : Int32) (y3 : Int32) (y4 : Int32) (y5 : Int32) (y6 : Int32) (w1 : Int32) (w2 : Int32) (w3 : Int32) (w4 : Int32) (w5 : Int32) (zN : CS) : Prop :=
  qX7_lays (fun (u149 : (CS)) => k88 y2 y3 y4 y5 (y6 + (1 : Int32)) u149) w1 w2 w3 w4 (w5 + (1 : Int32)) zN
def qX7_grows_88b (post : ((CS)) → Prop) (x1 : Int32) (k43 : (Int32) → (Int32) → (CS) → Prop) (k51 : (Int32) → (Int32) → (Int32) → (CS) → Prop) (k88 : (Int32) → (Int32) → (Int32) → (Int32) → (Int32) → (CS) → Prop) (y2 : Int32) (y3 : Int32) (y4 : Int32) (y5 : Int32) (y6 : Int32) (zN : CS) : Prop :=
  (y2 ≤ y6 → (qX7_grows_158 post x1 k43 k51 y2 y3 y4 y5 y6 zN)) ∧ (¬ y2 ≤ y6 → (vp_in y6 2278 ∧ ((((zN 3) y6.toNatClampNeg) = y5 → (vp_in y4 2278 ∧ (vp_in y6 2278 ∧ ((((zN 4) y4.toNatClampNeg) ≤ ((zN 4) y6.toNatClampNeg) → (vp_in y6 2278 ∧ (qX7_grows_147 post x1 k43 k51 k88 y2 y3 y4 y5 y6 y3 y4 y6 x1 ((zN 4) y6.toNatClampNeg) zN))) ∧ (¬ ((zN 4) y4.toNatClampNeg) ≤ ((zN 4) y6.toNatClampNeg) → (vp_in y4 2278 ∧ (qX7_grows_147 post x1 k43 k51 k88 y2 y3 y4 y5 y6 y3 y4 y6 x1 ((zN 4) y4.toNatClampNeg) zN))))))) ∧ (¬ ((zN 3) y6.toNatClampNeg) = y5 → (qX7_grows_158 post x1 k43 k51 y2 y3 y4 y5 y6 zN)))))
def qX7_grows_88 (post : ((CS)) → Prop) (x1 : Int32) (k43 : (Int32) → (Int32) → (CS) → Prop) (k51 : (Int32) → (Int32) → (Int32) → (CS) → Prop) (n : Nat) : (Int32) → (Int32) → (Int32) → (Int32) → (Int32) → (CS) → Prop :=
  Nat.rec (motive := fun _ => (Int32) → (Int32) → (Int32) → (Int32) → (Int32) → (CS) → Prop) (fun _ _ _ _ _ _ => False) (fun _ k => qX7_grows_88b post x1 k43 k51 k) n
def qX7_grows_86 (post : ((CS)) → Prop) (x1 : Int32) (k43 : (Int32) → (Int32) → (CS) → Prop) (k51 : (Int32) → (Int32) → (Int32) → (CS) → Prop) (y2 : Int32) (y3 : Int32) (y4 : Int32) (y5 : Int32) (w0 : Int32) (zN : CS) : Prop :=
  ∃ n : Nat, qX7_grows_88 post x1 k43 k51 n y2 y3 y4 y5 w0 zN
def qX7_grows_51b (post : ((CS)) → Prop) (x1 : Int32) (k43 : (Int32) → (Int32) → (CS) → Prop) (k51 : (Int32) → (Int32) → (Int32) → (CS) → Prop) (y2 : Int32) (y3 : Int32) (y4 : Int32) (zN : CS) : Prop :=
  (y2 ≤ y4 → (k43 y2 (y3 + (1 : Int32)) zN)) ∧ (¬ y2 ≤ y4 → (vp_in y4 2278 ∧ ((((x1 - (1 : Int32)) - ((zN 3) y4.toNatClampNeg)) ≤ (0 : Int32) → (qX7_grows_86 post x1 k43 k51 y2 y3 y4 ((x1 - (1 : Int32)) - ((zN 3) y4.toNatClampNeg)) y2 zN)) ∧ (¬ ((x1 - (1 : Int32)) - ((zN 3) y4.toNatClampNeg)) ≤ (0 : Int32) → (vp_in ((x1 - (1 : Int32)) - ((zN 3) y4.toNatClampNeg)) 9 ∧ (qX7_grows_86 post x1 k43 k51 y2 y3 y4 ((x1 - (1 : Int32)) - ((zN 3) y4.toNatClampNeg)) ((zN 5) ((x1 - (1 : Int32)) - ((zN 3) y4.toNatClampNeg)).toNatClampNeg) zN))))))
def qX7_grows_51 (post : ((CS)) → Prop) (x1 : Int32) (k43 : (Int32) → (Int32) → (CS) → Prop) (n : Nat) : (Int32) → (Int32) → (Int32) → (CS) → Prop :=
  Nat.rec (motive := fun _ => (Int32) → (Int32) → (Int32) → (CS) → Prop) (fun _ _ _ _ => False) (fun _ k => qX7_grows_51b post x1 k43 k) n
def qX7_grows_43b (post : ((CS)) → Prop) (x1 : Int32)  (k43 : (Int32) → (Int32) → (CS) → Prop) (y2 : Int32) (y3 : Int32) (zN : CS) : Prop :=
  ((5 : Int32) ≤ y3 → (post (zN))) ∧ (¬ (5 : Int32) ≤ y3 → (∃ n : Nat, qX7_grows_51 post x1 k43 n y2 y3 (0 : Int32) zN))
def qX7_grows_43 (post : ((CS)) → Prop) (x1 : Int32)  (n : Nat) : (Int32) → (Int32) → (CS) → Prop :=
  Nat.rec (motive := fun _ => (Int32) → (Int32) → (CS) → Prop) (fun _ _ _ => False) (fun _ k => qX7_grows_43b post x1 k) n
def qX7_grows_14b (post : ((CS)) → Prop) (x1 : Int32)  (k14 : (Int32) → (Int32) → (CS) → Prop) (y2 : Int32) (y3 : Int32) (zN : CS) : Prop :=
  (y2 ≤ y3 → (∃ n : Nat, qX7_grows_43 post x1 n y2 (3 : Int32) zN)) ∧ (¬ y2 ≤ y3 → (vp_in y3 2278 ∧ (qX7_lays (fun (u32 : (CS)) => k14 y2 (y3 + (1 : Int32)) u32) (2 : Int32) y3 (0 : Int32) x1 (((zN 4) y3.toNatClampNeg) + (1 : Int32)) zN)))
def qX7_grows_14 (post : ((CS)) → Prop) (x1 : Int32)  (n : Nat) : (Int32) → (Int32) → (CS) → Prop :=
  Nat.rec (motive := fun _ => (Int32) → (Int32) → (CS) → Prop) (fun _ _ _ => False) (fun _ k => qX7_grows_14b post x1 k) n
def qX7_grows (post : ((CS)) → Prop) (x1 : Int32) (zN : CS) : Prop :=
  vp_in (x1 - (1 : Int32)) 9 ∧ (∃ n : Nat, qX7_grows_14 post x1 n (zN 11 0) ((zN 5) (x1 - (1 : Int32)).toNatClampNeg) zN)
def qX7_in_14 (post : Int32 → (Unit) → Prop) (x0 : Int32) (x1 : Int32) (x2 : Int32)   : Prop :=
  post (0 : Int32) ()
def qX7_in (post : Int32 → (Unit) → Prop) (x0 : Int32) (x1 : Int32) (x2 : Int32)  : Prop :=
  (x0 < x1 → (qX7_in_14 post x0 x1 x2 )) ∧ (¬ x0 < x1 → ((x2 < x0 → (qX7_in_14 post x0 x1 x2 )) ∧ (¬ x2 < x0 → (post (1 : Int32) ()))))
def qX7_isState (post : Int32 → (Unit) → Prop) (x1 : Int32) (zN : CS) : Prop :=
  qX7_in (fun r8 (u8 : Unit) => narrow .boolean (.int r8) = .int r8 ∧ post r8 ()) x1 (0 : Int32) ((zN 11 1) - (1 : Int32))
def qX7_arity (post : Int32 → (Unit) → Prop) (x0 : Int32)  : Prop :=
  ((2 : Int32) ≤ x0 → (((3 : Int32) ≤ x0 → (post (2 : Int32) ())) ∧ (¬ (3 : Int32) ≤ x0 → (post (1 : Int32) ())))) ∧ (¬ (2 : Int32) ≤ x0 → (post (0 : Int32) ()))
def qX7_has (post : Int32 → (Unit) → Prop) (x0 : Int32) (x1 : Int32)  : Prop :=
  (((x0 >>> (x1 &&& 31)) &&& (1 : Int32)) = (1 : Int32) → (post (1 : Int32) ())) ∧ (¬ ((x0 >>> (x1 &&& 31)) &&& (1 : Int32)) = (1 : Int32) → (post (0 : Int32) ()))
def qX7_reset (post : Int32 → ((CS)) → Prop) (x1 : Int32) (zN : CS) : Prop :=
  qX7_in (fun r4 (u4 : Unit) => (r4 = (0 : Int32) → (post (-1 : Int32) (zN))) ∧ (¬ r4 = (0 : Int32) → (vp_in (80 : Int32) 82 ∧ (vp_in (81 : Int32) 82 ∧ (post (zN 11 1) (st (st (st (st zN 11 1 x1) 7 (80 : Int32).toNatClampNeg (0 : Int32)) 7 (81 : Int32).toNatClampNeg (0 : Int32)) 11 2 (0 : Int32))))))) x1 (1 : Int32) (6 : Int32)
def qX7_edit_50b (post : ((CS)) → Prop)   (k50 : (Int32) → (CS) → Prop) (y1 : Int32) (zN : CS) : Prop :=
  ((82 : Int32) ≤ y1 → (post (st zN 11 2 ((zN 11 2) + (1 : Int32))))) ∧ (¬ (82 : Int32) ≤ y1 → (vp_in y1 82 ∧ (vp_in (((82 : Int32) * (zN 11 2)) + y1) 410 ∧ (k50 (y1 + (1 : Int32)) (st zN 8 (((82 : Int32) * (zN 11 2)) + y1).toNatClampNeg ((zN 7) y1.toNatClampNeg))))))
def qX7_edit_50 (post : ((CS)) → Prop)   (n : Nat) : (Int32) → (CS) → Prop :=
  Nat.rec (motive := fun _ => (Int32) → (CS) → Prop) (fun _ _ => False) (fun _ k => qX7_edit_50b post k) n
def qX7_edit_48 (post : ((CS)) → Prop)   (zN : CS) : Prop :=
  ∃ n : Nat, qX7_edit_50 post n (0 : Int32) zN
def qX7_edit_10b (post : ((CS)) → Prop)   (k10 : (Int32) → (CS) → Prop) (y1 : Int32) (zN : CS) : Prop :=
  ((328 : Int32) ≤ y1 → (qX7_edit_48 post (st zN 11 2 ((zN 11 2) - (1 : Int32))))) ∧ (¬ (328 : Int32) ≤ y1 → (vp_in (y1 + (82 : Int32)) 410 ∧ (vp_in y1 410 ∧ (k10 (y1 + (1 : Int32)) (st zN 8 y1.toNatClampNeg ((zN 8) (y1 + (82 : Int32)).toNatClampNeg))))))
def qX7_edit_10 (post : ((CS)) → Prop)   (n : Nat) : (Int32) → (CS) → Prop :=
  Nat.rec (motive := fun _ => (Int32) → (CS) → Prop) (fun _ _ => False) (fun _ k => qX7_edit_10b post k) n
def qX7_edit (post : ((CS)) → Prop)  (zN : CS) : Prop :=
  ((zN 11 2) = (5 : Int32) → (∃ n : Nat, qX7_edit_10 post n (0 : Int32) zN)) ∧ (¬ (zN 11 2) = (5 : Int32) → (qX7_edit_48 post zN))
def qX7_undo_22b (post : Int32 → ((CS)) → Prop)   (k22 : (Int32) → (CS) → Prop) (y1 : Int32) (zN : CS) : Prop :=
  ((82 : Int32) ≤ y1 → (post (zN 11 2) (zN))) ∧ (¬ (82 : Int32) ≤ y1 → (vp_in (((82 : Int32) * (zN 11 2)) + y1) 410 ∧ (vp_in y1 82 ∧ (k22 (y1 + (1 : Int32)) (st zN 7 y1.toNatClampNeg ((zN 8) (((82 : Int32) * (zN 11 2)) + y1).toNatClampNeg))))))
def qX7_undo_22 (post : Int32 → ((CS)) → Prop)   (n : Nat) : (Int32) → (CS) → Prop :=
  Nat.rec (motive := fun _ => (Int32) → (CS) → Prop) (fun _ _ => False) (fun _ k => qX7_undo_22b post k) n
def qX7_undo (post : Int32 → ((CS)) → Prop)  (zN : CS) : Prop :=
  ((zN 11 2) = (0 : Int32) → (post (-3 : Int32) (zN))) ∧ (¬ (zN 11 2) = (0 : Int32) → (∃ n : Nat, qX7_undo_22 post n (0 : Int32) (st zN 11 2 ((zN 11 2) - (1 : Int32)))))
def qX7_setFinal_81 (post : Int32 → ((CS)) → Prop) (x1 : Int32) (x2 : Int32) (k51 : (Int32) → (Int32) → (CS) → Prop) (y3 : Int32) (y4 : Int32) (w0 : Int32) (w1 : Int32) (zN : CS) : Prop :=
  k51 (w0 + w1) (y4 + (1 : Int32)) zN
def qX7_setFinal_51b (post : Int32 → ((CS)) → Prop) (x1 : Int32) (x2 : Int32)  (k51 : (Int32) → (Int32) → (CS) → Prop) (y3 : Int32) (y4 : Int32) (zN : CS) : Prop :=
  ((zN 11 1) ≤ y4 → (post y3 (zN))) ∧ (¬ (zN 11 1) ≤ y4 → (vp_in (81 : Int32) 82 ∧ (qX7_has (fun r70 (u70 : Unit) => (r70 = (0 : Int32) → (qX7_setFinal_81 post x1 x2 k51 y3 y4 y3 (0 : Int32) zN)) ∧ (¬ r70 = (0 : Int32) → (qX7_setFinal_81 post x1 x2 k51 y3 y4 y3 (1 : Int32) zN))) ((zN 7) (81 : Int32).toNatClampNeg) y4)))
def qX7_setFinal_51 (post : Int32 → ((CS)) → Prop) (x1 : Int32) (x2 : Int32)  (n : Nat) : (Int32) → (Int32) → (CS) → Prop :=
  Nat.rec (motive := fun _ => (Int32) → (Int32) → (CS) → Prop) (fun _ _ _ => False) (fun _ k => qX7_setFinal_51b post x1 x2 k) n
def qX7_setFinal_44 (post : Int32 → ((CS)) → Prop) (x1 : Int32) (x2 : Int32)  (w1 : Int32) (w2 : Int32) (w3 : Int32) (zN : CS) : Prop :=
  vp_in w1 82 ∧ (∃ n : Nat, qX7_setFinal_51 post x1 x2 n (0 : Int32) (0 : Int32) (st zN 7 w1.toNatClampNeg (w2 ||| w3)))
def qX7_setFinal (post : Int32 → ((CS)) → Prop) (x1 : Int32) (x2 : Int32) (zN : CS) : Prop :=
  qX7_isState (fun r2 (u2 : Unit) => (r2 = (0 : Int32) → (post (-1 : Int32) (zN))) ∧ (¬ r2 = (0 : Int32) → (qX7_edit (fun (u11 : (CS)) => vp_in (81 : Int32) 82 ∧ ((x2 = (0 : Int32) → (qX7_setFinal_44 post x1 x2 (81 : Int32) (((u11 7) (81 : Int32).toNatClampNeg) &&& (((1 : Int32) <<< (x1 &&& 31)) ^^^ (-1 : Int32))) (0 : Int32) u11)) ∧ (¬ x2 = (0 : Int32) → (qX7_setFinal_44 post x1 x2 (81 : Int32) (((u11 7) (81 : Int32).toNatClampNeg) &&& (((1 : Int32) <<< (x1 &&& 31)) ^^^ (-1 : Int32))) ((1 : Int32) <<< (x1 &&& 31)) u11)))) zN))) x1 zN
def qX7_addRule_95 (post : Int32 → ((CS)) → Prop) (x1 : Int32) (x2 : Int32) (x3 : Int32) (x4 : Int32) (x5 : Int32)  (y6 : Int32) (w0 : Int32) (zN : CS) : Prop :=
  (w0 = (0 : Int32) → (post (-1 : Int32) (zN))) ∧ (¬ w0 = (0 : Int32) → (vp_in (80 : Int32) 82 ∧ ((((zN 7) (80 : Int32).toNatClampNeg) = (16 : Int32) → (post (-2 : Int32) (zN))) ∧ (¬ ((zN 7) (80 : Int32).toNatClampNeg) = (16 : Int32) → (qX7_edit (fun (u120 : (CS)) => vp_in (80 : Int32) 82 ∧ (vp_in ((5 : Int32) * ((u120 7) (80 : Int32).toNatClampNeg)) 82 ∧ (vp_in (((5 : Int32) * ((u120 7) (80 : Int32).toNatClampNeg)) + (1 : Int32)) 82 ∧ (vp_in (((5 : Int32) * ((u120 7) (80 : Int32).toNatClampNeg)) + (2 : Int32)) 82 ∧ (vp_in (((5 : Int32) * ((u120 7) (80 : Int32).toNatClampNeg)) + (3 : Int32)) 82 ∧ (vp_in (((5 : Int32) * ((u120 7) (80 : Int32).toNatClampNeg)) + (4 : Int32)) 82 ∧ (vp_in (80 : Int32) 82 ∧ (vp_in (80 : Int32) 82 ∧ (vp_in (80 : Int32) 82 ∧ (post ((((st (st (st (st (st (st u120 7 ((5 : Int32) * ((u120 7) (80 : Int32).toNatClampNeg)).toNatClampNeg x1) 7 (((5 : Int32) * ((u120 7) (80 : Int32).toNatClampNeg)) + (1 : Int32)).toNatClampNeg x2) 7 (((5 : Int32) * ((u120 7) (80 : Int32).toNatClampNeg)) + (2 : Int32)).toNatClampNeg x3) 7 (((5 : Int32) * ((u120 7) (80 : Int32).toNatClampNeg)) + (3 : Int32)).toNatClampNeg x4) 7 (((5 : Int32) * ((u120 7) (80 : Int32).toNatClampNeg)) + (4 : Int32)).toNatClampNeg x5) 7 (80 : Int32).toNatClampNeg ((((st (st (st (st (st u120 7 ((5 : Int32) * ((u120 7) (80 : Int32).toNatClampNeg)).toNatClampNeg x1) 7 (((5 : Int32) * ((u120 7) (80 : Int32).toNatClampNeg)) + (1 : Int32)).toNatClampNeg x2) 7 (((5 : Int32) * ((u120 7) (80 : Int32).toNatClampNeg)) + (2 : Int32)).toNatClampNeg x3) 7 (((5 : Int32) * ((u120 7) (80 : Int32).toNatClampNeg)) + (3 : Int32)).toNatClampNeg x4) 7 (((5 : Int32) * ((u120 7) (80 : Int32).toNatClampNeg)) + (4 : Int32)).toNatClampNeg x5) 7) (80 : Int32).toNatClampNeg) + (1 : Int32))) 7) (80 : Int32).toNatClampNeg) - (1 : Int32)) (st (st (st (st (st (st u120 7 ((5 : Int32) * ((u120 7) (80 : Int32).toNatClampNeg)).toNatClampNeg x1) 7 (((5 : Int32) * ((u120 7) (80 : Int32).toNatClampNeg)) + (1 : Int32)).toNatClampNeg x2) 7 (((5 : Int32) * ((u120 7) (80 : Int32).toNatClampNeg)) + (2 : Int32)).toNatClampNeg x3) 7 (((5 : Int32) * ((u120 7) (80 : Int32).toNatClampNeg)) + (3 : Int32)).toNatClampNeg x4) 7 (((5 : Int32) * ((u120 7) (80 : Int32).toNatClampNeg)) + (4 : Int32)).toNatClampNeg x5) 7 (80 : Int32).toNatClampNeg ((((st (st (st (st (st u120 7 ((5 : Int32) * ((u120 7) (80 : Int32).toNatClampNeg)).toNatClampNeg x1) 7 (((5 : Int32) * ((u120 7) (80 : Int32).toNatClampNeg)) + (1 : Int32)).toNatClampNeg x2) 7 (((5 : Int32) * ((u120 7) (80 : Int32).toNatClampNeg)) + (2 : Int32)).toNatClampNeg x3) 7 (((5 : Int32) * ((u120 7) (80 : Int32).toNatClampNeg)) + (3 : Int32)).toNatClampNeg x4) 7 (((5 : Int32) * ((u120 7) (80 : Int32).toNatClampNeg)) + (4 : Int32)).toNatClampNeg x5) 7) (80 : Int32).toNatClampNeg) + (1 : Int32))))))))))))) zN)))))
def qX7_addRule_94 (post : Int32 → ((CS)) → Prop) (x1 : Int32) (x2 : Int32) (x3 : Int32) (x4 : Int32) (x5 : Int32)  (y6 : Int32) (zN : CS) : Prop :=
  qX7_addRule_95 post x1 x2 x3 x4 x5 y6 (0 : Int32) zN
def qX7_addRule_90 (post : Int32 → ((CS)) → Prop) (x1 : Int32) (x2 : Int32) (x3 : Int32) (x4 : Int32) (x5 : Int32)  (y6 : Int32) (zN : CS) : Prop :=
  qX7_addRule_95 post x1 x2 x3 x4 x5 y6 (1 : Int32) zN
def qX7_addRule_62 (post : Int32 → ((CS)) → Prop) (x1 : Int32) (x2 : Int32) (x3 : Int32) (x4 : Int32) (x5 : Int32)  (y6 : Int32) (zN : CS) : Prop :=
  qX7_arity (fun r63 (u63 : Unit) => (r63 ≤ (1 : Int32) → ((x3 = (0 : Int32) → ((x4 = (0 : Int32) → (qX7_addRule_90 post x1 x2 x3 x4 x5 y6 zN)) ∧ (¬ x4 = (0 : Int32) → (qX7_addRule_94 post x1 x2 x3 x4 x5 y6 zN)))) ∧ (¬ x3 = (0 : Int32) → (qX7_addRule_94 post x1 x2 x3 x4 x5 y6 zN)))) ∧ (¬ r63 ≤ (1 : Int32) → (qX7_isState (fun r72 (u72 : Unit) => (r72 = (0 : Int32) → (qX7_addRule_94 post x1 x2 x3 x4 x5 y6 zN)) ∧ (¬ r72 = (0 : Int32) → (qX7_addRule_90 post x1 x2 x3 x4 x5 y6 zN))) x3 zN))) x1
def qX7_addRule_33 (post : Int32 → ((CS)) → Prop) (x1 : Int32) (x2 : Int32) (x3 : Int32) (x4 : Int32) (x5 : Int32)  (w0 : Int32) (zN : CS) : Prop :=
  (w0 = (0 : Int32) → (qX7_addRule_94 post x1 x2 x3 x4 x5 w0 zN)) ∧ (¬ w0 = (0 : Int32) → (qX7_arity (fun r41 (u41 : Unit) => (r41 ≤ (0 : Int32) → ((x2 = (0 : Int32) → (qX7_addRule_62 post x1 x2 x3 x4 x5 w0 zN)) ∧ (¬ x2 = (0 : Int32) → (qX7_addRule_94 post x1 x2 x3 x4 x5 w0 zN)))) ∧ (¬ r41 ≤ (0 : Int32) → (qX7_isState (fun r49 (u49 : Unit) => (r49 = (0 : Int32) → (qX7_addRule_94 post x1 x2 x3 x4 x5 w0 zN)) ∧ (¬ r49 = (0 : Int32) → (qX7_addRule_62 post x1 x2 x3 x4 x5 w0 zN))) x2 zN))) x1))
def qX7_addRule_32 (post : Int32 → ((CS)) → Prop) (x1 : Int32) (x2 : Int32) (x3 : Int32) (x4 : Int32) (x5 : Int32)  (zN : CS) : Prop :=
  qX7_addRule_33 post x1 x2 x3 x4 x5 (0 : Int32) zN
def qX7_addRule (post : Int32 → ((CS)) → Prop) (x1 : Int32) (x2 : Int32) (x3 : Int32) (x4 : Int32) (x5 : Int32) (zN : CS) : Prop :=
  qX7_in (fun r3 (u3 : Unit) => (r3 = (0 : Int32) → (qX7_addRule_32 post x1 x2 x3 x4 x5 zN)) ∧ (¬ r3 = (0 : Int32) → (qX7_isState (fun r12 (u12 : Unit) => (r12 = (0 : Int32) → (qX7_addRule_32 post x1 x2 x3 x4 x5 zN)) ∧ (¬ r12 = (0 : Int32) → (qX7_in (fun r22 (u22 : Unit) => (r22 = (0 : Int32) → (qX7_addRule_32 post x1 x2 x3 x4 x5 zN)) ∧ (¬ r22 = (0 : Int32) → (qX7_addRule_33 post x1 x2 x3 x4 x5 (1 : Int32) zN))) x4 (0 : Int32) (2 : Int32)))) x5 zN))) x1 (0 : Int32) (4 : Int32)
def qX7_removeRule_38b (post : Int32 → ((CS)) → Prop) (x1 : Int32)  (k38 : (Int32) → (CS) → Prop) (y2 : Int32) (zN : CS) : Prop :=
  vp_in (80 : Int32) 82 ∧ ((((5 : Int32) * ((zN 7) (80 : Int32).toNatClampNeg)) ≤ y2 → (vp_in (80 : Int32) 82 ∧ (post ((zN 7) (80 : Int32).toNatClampNeg) (zN)))) ∧ (¬ ((5 : Int32) * ((zN 7) (80 : Int32).toNatClampNeg)) ≤ y2 → (vp_in (y2 + (5 : Int32)) 82 ∧ (vp_in y2 82 ∧ (k38 (y2 + (1 : Int32)) (st zN 7 y2.toNatClampNeg ((zN 7) (y2 + (5 : Int32)).toNatClampNeg)))))))
def qX7_removeRule_38 (post : Int32 → ((CS)) → Prop) (x1 : Int32)  (n : Nat) : (Int32) → (CS) → Prop :=
  Nat.rec (motive := fun _ => (Int32) → (CS) → Prop) (fun _ _ => False) (fun _ k => qX7_removeRule_38b post x1 k) n
def qX7_removeRule (post : Int32 → ((CS)) → Prop) (x1 : Int32) (zN : CS) : Prop :=
  vp_in (80 : Int32) 82 ∧ (qX7_in (fun r11 (u11 : Unit) => (r11 = (0 : Int32) → (post (-1 : Int32) (zN))) ∧ (¬ r11 = (0 : Int32) → (qX7_edit (fun (u20 : (CS)) => vp_in (80 : Int32) 82 ∧ (vp_in (80 : Int32) 82 ∧ (∃ n : Nat, qX7_removeRule_38 post x1 n ((5 : Int32) * x1) (st u20 7 (80 : Int32).toNatClampNeg (((u20 7) (80 : Int32).toNatClampNeg) - (1 : Int32)))))) zN))) x1 (0 : Int32) (((zN 7) (80 : Int32).toNatClampNeg) - (1 : Int32)))
def qX7_swapped (post : Int32 → (Unit) → Prop) (x0 : Int32) (x1 : Int32) (x2 : Int32)  : Prop :=
  (x0 = x1 → (post x2 ())) ∧ (¬ x0 = x1 → ((x0 = x2 → (post x1 ())) ∧ (¬ x0 = x2 → (post x0 ()))))
def qX7_swapStates_270 (post : Int32 → ((CS)) → Prop) (x1 : Int32) (x2 : Int32) (k231 : (Int32) → (Int32) → (Int32) → (CS) → Prop) (y3 : Int32) (y4 : Int32) (y5 : Int32) (w0 : Int32) (w1 : Int32) (zN : CS) : Prop :=
  k231 y3 (w0 ||| w1) (y5 + (1 : Int32)) zN
def qX7_swapStates_231b (post : Int32 → ((CS)) → Prop) (x1 : Int32) (x2 : Int32)  (k231 : (Int32) → (Int32) → (Int32) → (CS) → Prop) (y3 : Int32) (y4 : Int32) (y5 : Int32) (zN : CS) : Prop :=
  ((zN 11 1) ≤ y5 → (vp_in (81 : Int32) 82 ∧ (post y3 (st zN 7 (81 : Int32).toNatClampNeg y4)))) ∧ (¬ (zN 11 1) ≤ y5 → (vp_in (81 : Int32) 82 ∧ (qX7_has (fun r251 (u251 : Unit) => (r251 = (0 : Int32) → (qX7_swapStates_270 post x1 x2 k231 y3 y4 y5 y4 (0 : Int32) zN)) ∧ (¬ r251 = (0 : Int32) → (qX7_swapped (fun r262 (u262 : Unit) => qX7_swapStates_270 post x1 x2 k231 y3 y4 y5 y4 ((1 : Int32) <<< (r262 &&& 31)) zN) y5 x1 x2))) ((zN 7) (81 : Int32).toNatClampNeg) y5)))
def qX7_swapStates_231 (post : Int32 → ((CS)) → Prop) (x1 : Int32) (x2 : Int32)  (n : Nat) : (Int32) → (Int32) → (Int32) → (CS) → Prop :=
  Nat.rec (motive := fun _ => (Int32) → (Int32) → (Int32) → (CS) → Prop) (fun _ _ _ _ => False) (fun _ k => qX7_swapStates_231b post x1 x2 k) n
def qX7_swapStates_217 (post : Int32 → ((CS)) → Prop) (x1 : Int32) (x2 : Int32) (k27 : (Int32) → (Int32) → (CS) → Prop) (y3 : Int32) (y4 : Int32) (y5 : Int32) (y6 : Int32) (y7 : Int32) (w0 : Int32) (w1 : Int32) (zN : CS) : Prop :=
  k27 (w0 + w1) (y4 + (1 : Int32)) zN
def qX7_swapStates_142 (post : Int32 → ((CS)) → Prop) (x1 : Int32) (x2 : Int32) (k27 : (Int32) → (Int32) → (CS) → Prop) (k90 : (Int32) → (Int32) → (Int32) → (Int32) → (Int32) → (CS) → Prop) (y3 : Int32) (y4 : Int32) (y5 : Int32) (y6 : Int32) (y7 : Int32) (w0 : Int32) (zN : CS) : Prop :=
  vp_in (((5 : Int32) * y4) + y7) 82 ∧ (qX7_swapped (fun r169 (u169 : Unit) => vp_in (((5 : Int32) * y4) + y7) 82 ∧ (k90 y3 y4 y5 w0 (y7 + (1 : Int32)) (st zN 7 (((5 : Int32) * y4) + y7).toNatClampNeg r169))) ((zN 7) (((5 : Int32) * y4) + y7).toNatClampNeg) x1 x2)
def qX7_swapStates_137 (post : Int32 → ((CS)) → Prop) (x1 : Int32) (x2 : Int32) (k27 : (Int32) → (Int32) → (CS) → Prop) (k90 : (Int32) → (Int32) → (Int32) → (Int32) → (Int32) → (CS) → Prop) (y3 : Int32) (y4 : Int32) (y5 : Int32) (y6 : Int32) (y7 : Int32) (zN : CS) : Prop :=
  qX7_swapStates_142 post x1 x2 k27 k90 y3 y4 y5 y6 y7 (1 : Int32) zN
def qX7_swapStates_90b (post : Int32 → ((CS)) → Prop) (x1 : Int32) (x2 : Int32) (k27 : (Int32) → (Int32) → (CS) → Prop) (k90 : (Int32) → (Int32) → (Int32) → (Int32) → (Int32) → (CS) → Prop) (y3 : Int32) (y4 : Int32) (y5 : Int32) (y6 : Int32) (y7 : Int32) (zN : CS) : Prop :=
  qX7_arity (fun r94 (u94 : Unit) => (r94 < y7 → (vp_in (((5 : Int32) * y4) + (4 : Int32)) 82 ∧ (qX7_swapped (fun r202 (u202 : Unit) => vp_in (((5 : Int32) * y4) + (4 : Int32)) 82 ∧ ((y6 = (0 : Int32) → (qX7_swapStates_217 post x1 x2 k27 y3 y4 y5 y6 y7 y3 (0 : Int32) (st zN 7 (((5 : Int32) * y4) + (4 : Int32)).toNatClampNeg r202))) ∧ (¬ y6 = (0 : Int32) → (qX7_swapStates_217 post x1 x2 k27 y3 y4 y5 y6 y7 y3 (1 : Int32) (st zN 7 (((5 : Int32) * y4) + (4 : Int32)).toNatClampNeg r202))))) ((zN 7) (((5 : Int32) * y4) + (4 : Int32)).toNatClampNeg) x1 x2))) ∧ (¬ r94 < y7 → ((y6 = (0 : Int32) → (vp_in (((5 : Int32) * y4) + y7) 82 ∧ ((((zN 7) (((5 : Int32) * y4) + y7).toNatClampNeg) = x1 → (qX7_swapStates_137 post x1 x2 k27 k90 y3 y4 y5 y6 y7 zN)) ∧ (¬ ((zN 7) (((5 : Int32) * y4) + y7).toNatClampNeg) = x1 → (vp_in (((5 : Int32) * y4) + y7) 82 ∧ ((((zN 7) (((5 : Int32) * y4) + y7).toNatClampNeg) = x2 → (qX7_swapStates_137 post x1 x2 k27 k90 y3 y4 y5 y6 y7 zN)) ∧ (¬ ((zN 7) (((5 : Int32) * y4) + y7).toNatClampNeg) = x2 → (qX7_swapStates_142 post x1 x2 k27 k90 y3 y4 y5 y6 y7 (0 : Int32) zN)))))))) ∧ (¬ y6 = (0 : Int32) → (qX7_swapStates_137 post x1 x2 k27 k90 y3 y4 y5 y6 y7 zN))))) y5
def qX7_swapStates_90 (post : Int32 → ((CS)) → Prop) (x1 : Int32) (x2 : Int32) (k27 : (Int32) → (Int32) → (CS) → Prop) (n : Nat) : (Int32) → (Int32) → (Int32) → (Int32) → (Int32) → (CS) → Prop :=
  Nat.rec (motive := fun _ => (Int32) → (Int32) → (Int32) → (Int32) → (Int32) → (CS) → Prop) (fun _ _ _ _ _ _ => False) (fun _ k => qX7_swapStates_90b post x1 x2 k27 k) n
def qX7_swapStates_85 (post : Int32 → ((CS)) → Prop) (x1 : Int32) (x2 : Int32) (k27 : (Int32) → (Int32) → (CS) → Prop) (y3 : Int32) (y4 : Int32) (y5 : Int32) (w0 : Int32) (zN : CS) : Prop :=
  ∃ n : Nat, qX7_swapStates_90 post x1 x2 k27 n y3 y4 y5 w0 (1 : Int32) zN
def qX7_swapStates_80 (post : Int32 → ((CS)) → Prop) (x1 : Int32) (x2 : Int32) (k27 : (Int32) → (Int32) → (CS) → Prop) (y3 : Int32) (y4 : Int32) (y5 : Int32) (zN : CS) : Prop :=
  qX7_swapStates_85 post x1 x2 k27 y3 y4 y5 (1 : Int32) zN
def qX7_swapStates_27b (post : Int32 → ((CS)) → Prop) (x1 : Int32) (x2 : Int32)  (k27 : (Int32) → (Int32) → (CS) → Prop) (y3 : Int32) (y4 : Int32) (zN : CS) : Prop :=
  vp_in (80 : Int32) 82 ∧ ((((zN 7) (80 : Int32).toNatClampNeg) ≤ y4 → (∃ n : Nat, qX7_swapStates_231 post x1 x2 n y3 (0 : Int32) (0 : Int32) zN)) ∧ (¬ ((zN 7) (80 : Int32).toNatClampNeg) ≤ y4 → (vp_in ((5 : Int32) * y4) 82 ∧ (vp_in (((5 : Int32) * y4) + (4 : Int32)) 82 ∧ ((((zN 7) (((5 : Int32) * y4) + (4 : Int32)).toNatClampNeg) = x1 → (qX7_swapStates_80 post x1 x2 k27 y3 y4 ((zN 7) ((5 : Int32) * y4).toNatClampNeg) zN)) ∧ (¬ ((zN 7) (((5 : Int32) * y4) + (4 : Int32)).toNatClampNeg) = x1 → (vp_in (((5 : Int32) * y4) + (4 : Int32)) 82 ∧ ((((zN 7) (((5 : Int32) * y4) + (4 : Int32)).toNatClampNeg) = x2 → (qX7_swapStates_80 post x1 x2 k27 y3 y4 ((zN 7) ((5 : Int32) * y4).toNatClampNeg) zN)) ∧ (¬ ((zN 7) (((5 : Int32) * y4) + (4 : Int32)).toNatClampNeg) = x2 → (qX7_swapStates_85 post x1 x2 k27 y3 y4 ((zN 7) ((5 : Int32) * y4).toNatClampNeg) (0 : Int32) zN))))))))))
def qX7_swapStates_27 (post : Int32 → ((CS)) → Prop) (x1 : Int32) (x2 : Int32)  (n : Nat) : (Int32) → (Int32) → (CS) → Prop :=
  Nat.rec (motive := fun _ => (Int32) → (Int32) → (CS) → Prop) (fun _ _ _ => False) (fun _ k => qX7_swapStates_27b post x1 x2 k) n
def qX7_swapStates_16 (post : Int32 → ((CS)) → Prop) (x1 : Int32) (x2 : Int32)  (zN : CS) : Prop :=
  post (-1 : Int32) (zN)
def qX7_swapStates (post : Int32 → ((CS)) → Prop) (x1 : Int32) (x2 : Int32) (zN : CS) : Prop :=
  qX7_isState (fun r2 (u2 : Unit) => (r2 = (0 : Int32) → (qX7_swapStates_16 post x1 x2 zN)) ∧ (¬ r2 = (0 : Int32) → (qX7_isState (fun r10 (u10 : Unit) => (r10 = (0 : Int32) → (qX7_swapStates_16 post x1 x2 zN)) ∧ (¬ r10 = (0 : Int32) → (qX7_edit (fun (u19 : (CS)) => ∃ n : Nat, qX7_swapStates_27 post x1 x2 n (0 : Int32) (0 : Int32) u19) zN))) x2 zN))) x1 zN
def qX7_ruleCount (post : Int32 → (Unit) → Prop)  (zN : CS) : Prop :=
  vp_in (80 : Int32) 82 ∧ (post ((zN 7) (80 : Int32).toNatClampNeg) ())
def qX7_finalStates (post : Int32 → (Unit) → Prop)  (zN : CS) : Prop :=
  vp_in (81 : Int32) 82 ∧ (post ((zN 7) (81 : Int32).toNatClampNeg) ())
def qX7_isSize (post : Int32 → (Unit) → Prop) (x0 : Int32)  : Prop :=
  qX7_in (fun r4 (u4 : Unit) => narrow .boolean (.int r4) = .int r4 ∧ post r4 ()) x0 (1 : Int32) (7 : Int32)
def qX7_isTree (post : Int32 → (Unit) → Prop) (x0 : Int32)  : Prop :=
  qX7_in (fun r5 (u5 : Unit) => narrow .boolean (.int r5) = .int r5 ∧ post r5 ()) x0 (0 : Int32) (2277 : Int32)
def qX7_treeCount (post : Int32 → (Unit) → Prop) (x1 : Int32) (zN : CS) : Prop :=
  qX7_isSize (fun r1 (u1 : Unit) => (r1 = (0 : Int32) → (post (-1 : Int32) ())) ∧ (¬ r1 = (0 : Int32) → (vp_in (x1 + (1 : Int32)) 9 ∧ (vp_in x1 9 ∧ (post (((zN 5) (x1 + (1 : Int32)).toNatClampNeg) - ((zN 5) x1.toNatClampNeg)) ()))))) x1
def qX7_treeOf_158 (post : Int32 → (Unit) → Prop) (x1 : Int32) (x2 : Int32) (x3 : Int32) (zN : CS) (k125 : (Int32) → (Int32) → (Int32) → Prop) (y4 : Int32) (y5 : Int32) (y6 : Int32) : Prop :=
  k125 y4 y5 (y6 + (1 : Int32))
def qX7_treeOf_125b (post : Int32 → (Unit) → Prop) (x1 : Int32) (x2 : Int32) (x3 : Int32) (zN : CS)  (k125 : (Int32) → (Int32) → (Int32) → Prop) (y4 : Int32) (y5 : Int32) (y6 : Int32) : Prop :=
  vp_in y6 2278 ∧ ((((zN 0) y6.toNatClampNeg) = x1 → (vp_in y6 2278 ∧ ((((zN 1) y6.toNatClampNeg) = x2 → (vp_in y6 2278 ∧ ((((zN 2) y6.toNatClampNeg) = x3 → (post y6 ())) ∧ (¬ ((zN 2) y6.toNatClampNeg) = x3 → (qX7_treeOf_158 post x1 x2 x3 zN k125 y4 y5 y6))))) ∧ (¬ ((zN 1) y6.toNatClampNeg) = x2 → (qX7_treeOf_158 post x1 x2 x3 zN k125 y4 y5 y6))))) ∧ (¬ ((zN 0) y6.toNatClampNeg) = x1 → (qX7_treeOf_158 post x1 x2 x3 zN k125 y4 y5 y6)))
def qX7_treeOf_125 (post : Int32 → (Unit) → Prop) (x1 : Int32) (x2 : Int32) (x3 : Int32) (zN : CS)  (n : Nat) : (Int32) → (Int32) → (Int32) → Prop :=
  Nat.rec (motive := fun _ => (Int32) → (Int32) → (Int32) → Prop) (fun _ _ _ => False) (fun _ k => qX7_treeOf_125b post x1 x2 x3 zN k) n
def qX7_treeOf_103 (post : Int32 → (Unit) → Prop) (x1 : Int32) (x2 : Int32) (x3 : Int32) (zN : CS)  (y4 : Int32) (w0 : Int32) (w1 : Int32) : Prop :=
  ((w0 + w1) ≤ (7 : Int32) → (vp_in (w0 + w1) 9 ∧ (∃ n : Nat, qX7_treeOf_125 post x1 x2 x3 zN n y4 (w0 + w1) ((zN 5) (w0 + w1).toNatClampNeg)))) ∧ (¬ (w0 + w1) ≤ (7 : Int32) → (post (-2 : Int32) ()))
def qX7_treeOf_84 (post : Int32 → (Unit) → Prop) (x1 : Int32) (x2 : Int32) (x3 : Int32) (zN : CS)  (y4 : Int32) (w0 : Int32) (w1 : Int32) : Prop :=
  qX7_arity (fun r86 (u86 : Unit) => (r86 ≤ (1 : Int32) → (qX7_treeOf_103 post x1 x2 x3 zN y4 (w0 + w1) (0 : Int32))) ∧ (¬ r86 ≤ (1 : Int32) → (vp_in x3 2278 ∧ (qX7_treeOf_103 post x1 x2 x3 zN y4 (w0 + w1) ((zN 3) x3.toNatClampNeg))))) x1
def qX7_treeOf_57 (post : Int32 → (Unit) → Prop) (x1 : Int32) (x2 : Int32) (x3 : Int32) (zN : CS)  (w0 : Int32) : Prop :=
  (w0 = (0 : Int32) → (post (-1 : Int32) ())) ∧ (¬ w0 = (0 : Int32) → (qX7_arity (fun r68 (u68 : Unit) => (r68 ≤ (0 : Int32) → (qX7_treeOf_84 post x1 x2 x3 zN w0 (1 : Int32) (0 : Int32))) ∧ (¬ r68 ≤ (0 : Int32) → (vp_in x2 2278 ∧ (qX7_treeOf_84 post x1 x2 x3 zN w0 (1 : Int32) ((zN 3) x2.toNatClampNeg))))) x1))
def qX7_treeOf_56 (post : Int32 → (Unit) → Prop) (x1 : Int32) (x2 : Int32) (x3 : Int32) (zN : CS)   : Prop :=
  qX7_treeOf_57 post x1 x2 x3 zN (0 : Int32)
def qX7_treeOf_52 (post : Int32 → (Unit) → Prop) (x1 : Int32) (x2 : Int32) (x3 : Int32) (zN : CS)   : Prop :=
  qX7_treeOf_57 post x1 x2 x3 zN (1 : Int32)
def qX7_treeOf_30 (post : Int32 → (Unit) → Prop) (x1 : Int32) (x2 : Int32) (x3 : Int32) (zN : CS)   : Prop :=
  qX7_arity (fun r31 (u31 : Unit) => (r31 ≤ (1 : Int32) → ((x3 = (0 : Int32) → (qX7_treeOf_52 post x1 x2 x3 zN )) ∧ (¬ x3 = (0 : Int32) → (qX7_treeOf_56 post x1 x2 x3 zN )))) ∧ (¬ r31 ≤ (1 : Int32) → (qX7_isTree (fun r39 (u39 : Unit) => (r39 = (0 : Int32) → (qX7_treeOf_56 post x1 x2 x3 zN )) ∧ (¬ r39 = (0 : Int32) → (qX7_treeOf_52 post x1 x2 x3 zN ))) x3))) x1
def qX7_treeOf (post : Int32 → (Unit) → Prop) (x1 : Int32) (x2 : Int32) (x3 : Int32) (zN : CS) : Prop :=
  qX7_in (fun r3 (u3 : Unit) => (r3 = (0 : Int32) → (qX7_treeOf_56 post x1 x2 x3 zN )) ∧ (¬ r3 = (0 : Int32) → (qX7_arity (fun r10 (u10 : Unit) => (r10 ≤ (0 : Int32) → ((x2 = (0 : Int32) → (qX7_treeOf_30 post x1 x2 x3 zN )) ∧ (¬ x2 = (0 : Int32) → (qX7_treeOf_56 post x1 x2 x3 zN )))) ∧ (¬ r10 ≤ (0 : Int32) → (qX7_isTree (fun r17 (u17 : Unit) => (r17 = (0 : Int32) → (qX7_treeOf_56 post x1 x2 x3 zN )) ∧ (¬ r17 = (0 : Int32) → (qX7_treeOf_30 post x1 x2 x3 zN ))) x2))) x1))) x1 (0 : Int32) (4 : Int32)
def qX7_symbolOf (post : Int32 → (Unit) → Prop) (x1 : Int32) (zN : CS) : Prop :=
  qX7_isTree (fun r1 (u1 : Unit) => (r1 = (0 : Int32) → (post (-1 : Int32) ())) ∧ (¬ r1 = (0 : Int32) → (vp_in x1 2278 ∧ (post ((zN 0) x1.toNatClampNeg) ())))) x1
def qX7_childOf_16 (post : Int32 → (Unit) → Prop) (x1 : Int32) (x2 : Int32) (zN : CS)   : Prop :=
  post (-1 : Int32) ()
def qX7_childOf (post : Int32 → (Unit) → Prop) (x1 : Int32) (x2 : Int32) (zN : CS) : Prop :=
  qX7_isTree (fun r1 (u1 : Unit) => (r1 = (0 : Int32) → (qX7_childOf_16 post x1 x2 zN )) ∧ (¬ r1 = (0 : Int32) → (qX7_in (fun r10 (u10 : Unit) => (r10 = (0 : Int32) → (qX7_childOf_16 post x1 x2 zN )) ∧ (¬ r10 = (0 : Int32) → (vp_in x1 2278 ∧ (qX7_arity (fun r25 (u25 : Unit) => (x2 < r25 → ((x2 = (0 : Int32) → (vp_in x1 2278 ∧ (post ((zN 1) x1.toNatClampNeg) ()))) ∧ (¬ x2 = (0 : Int32) → (vp_in x1 2278 ∧ (post ((zN 2) x1.toNatClampNeg) ()))))) ∧ (¬ x2 < r25 → (post (-3 : Int32) ()))) ((zN 0) x1.toNatClampNeg))))) x2 (0 : Int32) (1 : Int32)))) x1
def qX7_sizeOf (post : Int32 → (Unit) → Prop) (x1 : Int32) (zN : CS) : Prop :=
  qX7_isTree (fun r1 (u1 : Unit) => (r1 = (0 : Int32) → (post (-1 : Int32) ())) ∧ (¬ r1 = (0 : Int32) → (vp_in x1 2278 ∧ (post ((zN 3) x1.toNatClampNeg) ())))) x1
def qX7_heightOf (post : Int32 → (Unit) → Prop) (x1 : Int32) (zN : CS) : Prop :=
  qX7_isTree (fun r1 (u1 : Unit) => (r1 = (0 : Int32) → (post (-1 : Int32) ())) ∧ (¬ r1 = (0 : Int32) → (vp_in x1 2278 ∧ (post ((zN 4) x1.toNatClampNeg) ())))) x1
def qX7_isFulfilled_18 (post : Int32 → (Unit) → Prop) (x0 : Int32) (x1 : Int32)   : Prop :=
  post (1 : Int32) ()
def qX7_isFulfilled_14 (post : Int32 → (Unit) → Prop) (x0 : Int32) (x1 : Int32)  (w0 : Int32) : Prop :=
  (w0 = x1 → (qX7_isFulfilled_18 post x0 x1 )) ∧ (¬ w0 = x1 → (post (0 : Int32) ()))
def qX7_isFulfilled (post : Int32 → (Unit) → Prop) (x0 : Int32) (x1 : Int32)  : Prop :=
  (x0 = (0 : Int32) → (qX7_isFulfilled_18 post x0 x1 )) ∧ (¬ x0 = (0 : Int32) → ((x0 = (1 : Int32) → (qX7_isFulfilled_14 post x0 x1 (1 : Int32))) ∧ (¬ x0 = (1 : Int32) → (qX7_isFulfilled_14 post x0 x1 (0 : Int32)))))
def qX7_runsTo_218 (post : ((CS)) → Prop) (x1 : Int32) (k2 : (Int32) → (CS) → Prop) (k35 : (Int32) → (Int32) → (CS) → Prop) (y2 : Int32) (y3 : Int32) (zN : CS) : Prop :=
  k35 y2 (y3 + (1 : Int32)) zN
def qX7_runsTo_216 (post : ((CS)) → Prop) (x1 : Int32) (k2 : (Int32) → (CS) → Prop) (k35 : (Int32) → (Int32) → (CS) → Prop) (y2 : Int32) (y3 : Int32) (y4 : Int32) (w1 : Int32) (w2 : Int32) (w3 : Int32) (zN : CS) : Prop :=
  vp_in w1 13668 ∧ (qX7_runsTo_218 post x1 k2 k35 y2 y3 (st zN 6 w1.toNatClampNeg (w2 + w3)))
def qX7_runsTo_204 (post : ((CS)) → Prop) (x1 : Int32) (k2 : (Int32) → (CS) → Prop) (k35 : (Int32) → (Int32) → (CS) → Prop) (y2 : Int32) (y3 : Int32) (y4 : Int32) (w1 : Int32) (w2 : Int32) (w3 : Int32) (w4 : Int32) (zN : CS) : Prop :=
  qX7_isFulfilled (fun r204 (u204 : Unit) => (r204 = (0 : Int32) → (qX7_runsTo_216 post x1 k2 k35 y2 y3 y4 w1 w2 (0 : Int32) zN)) ∧ (¬ r204 = (0 : Int32) → (qX7_runsTo_216 post x1 k2 k35 y2 y3 y4 w1 w2 y4 zN))) w3 w4
def qX7_runsTo_150 (post : ((CS)) → Prop) (x1 : Int32) (k2 : (Int32) → (CS) → Prop) (k35 : (Int32) → (Int32) → (CS) → Prop) (y2 : Int32) (y3 : Int32) (y4 : Int32) (w0 : Int32) (w1 : Int32) (zN : CS) : Prop :=
  vp_in (((5 : Int32) * y3) + (4 : Int32)) 82 ∧ (vp_in (((6 : Int32) * y2) + ((zN 7) (((5 : Int32) * y3) + (4 : Int32)).toNatClampNeg)) 13668 ∧ (vp_in (((5 : Int32) * y3) + (3 : Int32)) 82 ∧ (vp_in y2 2278 ∧ (vp_in y2 2278 ∧ ((((zN 1) y2.toNatClampNeg) = ((zN 2) y2.toNatClampNeg) → (qX7_runsTo_204 post x1 k2 k35 y2 y3 (w0 * w1) (((6 : Int32) * y2) + ((zN 7) (((5 : Int32) * y3) + (4 : Int32)).toNatClampNeg)) ((zN 6) (((6 : Int32) * y2) + ((zN 7) (((5 : Int32) * y3) + (4 : Int32)).toNatClampNeg)).toNatClampNeg) ((zN 7) (((5 : Int32) * y3) + (3 : Int32)).toNatClampNeg) (1 : Int32) zN)) ∧ (¬ ((zN 1) y2.toNatClampNeg) = ((zN 2) y2.toNatClampNeg) → (qX7_runsTo_204 post x1 k2 k35 y2 y3 (w0 * w1) (((6 : Int32) * y2) + ((zN 7) (((5 : Int32) * y3) + (4 : Int32)).toNatClampNeg)) ((zN 6) (((6 : Int32) * y2) + ((zN 7) (((5 : Int32) * y3) + (4 : Int32)).toNatClampNeg)).toNatClampNeg) ((zN 7) (((5 : Int32) * y3) + (3 : Int32)).toNatClampNeg) (0 : Int32) zN)))))))
def qX7_runsTo_104 (post : ((CS)) → Prop) (x1 : Int32) (k2 : (Int32) → (CS) → Prop) (k35 : (Int32) → (Int32) → (CS) → Prop) (y2 : Int32) (y3 : Int32) (w0 : Int32) (zN : CS) : Prop :=
  vp_in y2 2278 ∧ (qX7_arity (fun r114 (u114 : Unit) => (r114 ≤ (1 : Int32) → (qX7_runsTo_150 post x1 k2 k35 y2 y3 w0 w0 (1 : Int32) zN)) ∧ (¬ r114 ≤ (1 : Int32) → (vp_in y2 2278 ∧ (vp_in (((5 : Int32) * y3) + (2 : Int32)) 82 ∧ (vp_in (((6 : Int32) * ((zN 2) y2.toNatClampNeg)) + ((zN 7) (((5 : Int32) * y3) + (2 : Int32)).toNatClampNeg)) 13668 ∧ (qX7_runsTo_150 post x1 k2 k35 y2 y3 w0 w0 ((zN 6) (((6 : Int32) * ((zN 2) y2.toNatClampNeg)) + ((zN 7) (((5 : Int32) * y3) + (2 : Int32)).toNatClampNeg)).toNatClampNeg) zN)))))) ((zN 0) y2.toNatClampNeg))
def qX7_runsTo_35b (post : ((CS)) → Prop) (x1 : Int32) (k2 : (Int32) → (CS) → Prop) (k35 : (Int32) → (Int32) → (CS) → Prop) (y2 : Int32) (y3 : Int32) (zN : CS) : Prop :=
  vp_in (80 : Int32) 82 ∧ ((((zN 7) (80 : Int32).toNatClampNeg) ≤ y3 → (k2 (y2 + (1 : Int32)) zN)) ∧ (¬ ((zN 7) (80 : Int32).toNatClampNeg) ≤ y3 → (vp_in ((5 : Int32) * y3) 82 ∧ (vp_in y2 2278 ∧ ((((zN 7) ((5 : Int32) * y3).toNatClampNeg) = ((zN 0) y2.toNatClampNeg) → (vp_in y2 2278 ∧ (qX7_arity (fun r69 (u69 : Unit) => (r69 ≤ (0 : Int32) → (qX7_runsTo_104 post x1 k2 k35 y2 y3 (1 : Int32) zN)) ∧ (¬ r69 ≤ (0 : Int32) → (vp_in y2 2278 ∧ (vp_in (((5 : Int32) * y3) + (1 : Int32)) 82 ∧ (vp_in (((6 : Int32) * ((zN 1) y2.toNatClampNeg)) + ((zN 7) (((5 : Int32) * y3) + (1 : Int32)).toNatClampNeg)) 13668 ∧ (qX7_runsTo_104 post x1 k2 k35 y2 y3 ((zN 6) (((6 : Int32) * ((zN 1) y2.toNatClampNeg)) + ((zN 7) (((5 : Int32) * y3) + (1 : Int32)).toNatClampNeg)).toNatClampNeg) zN)))))) ((zN 0) y2.toNatClampNeg)))) ∧ (¬ ((zN 7) ((5 : Int32) * y3).toNatClampNeg) = ((zN 0) y2.toNatClampNeg) → (qX7_runsTo_218 post x1 k2 k35 y2 y3 zN)))))))
def qX7_runsTo_35 (post : ((CS)) → Prop) (x1 : Int32) (k2 : (Int32) → (CS) → Prop) (n : Nat) : (Int32) → (Int32) → (CS) → Prop :=
  Nat.rec (motive := fun _ => (Int32) → (Int32) → (CS) → Prop) (fun _ _ _ => False) (fun _ k => qX7_runsTo_35b post x1 k2 k) n
def qX7_runsTo_9b (post : ((CS)) → Prop) (x1 : Int32) (k2 : (Int32) → (CS) → Prop) (k9 : (Int32) → (Int32) → (CS) → Prop) (y2 : Int32) (y3 : Int32) (zN : CS) : Prop :=
  ((6 : Int32) ≤ y3 → (∃ n : Nat, qX7_runsTo_35 post x1 k2 n y2 (0 : Int32) zN)) ∧ (¬ (6 : Int32) ≤ y3 → (vp_in (((6 : Int32) * y2) + y3) 13668 ∧ (k9 y2 (y3 + (1 : Int32)) (st zN 6 (((6 : Int32) * y2) + y3).toNatClampNeg (0 : Int32)))))
def qX7_runsTo_9 (post : ((CS)) → Prop) (x1 : Int32) (k2 : (Int32) → (CS) → Prop) (n : Nat) : (Int32) → (Int32) → (CS) → Prop :=
  Nat.rec (motive := fun _ => (Int32) → (Int32) → (CS) → Prop) (fun _ _ _ => False) (fun _ k => qX7_runsTo_9b post x1 k2 k) n
def qX7_runsTo_2b (post : ((CS)) → Prop) (x1 : Int32)  (k2 : (Int32) → (CS) → Prop) (y2 : Int32) (zN : CS) : Prop :=
  (x1 < y2 → (post (zN))) ∧ (¬ x1 < y2 → (∃ n : Nat, qX7_runsTo_9 post x1 k2 n y2 (0 : Int32) zN))
def qX7_runsTo_2 (post : ((CS)) → Prop) (x1 : Int32)  (n : Nat) : (Int32) → (CS) → Prop :=
  Nat.rec (motive := fun _ => (Int32) → (CS) → Prop) (fun _ _ => False) (fun _ k => qX7_runsTo_2b post x1 k) n
def qX7_runsTo (post : ((CS)) → Prop) (x1 : Int32) (zN : CS) : Prop :=
  ∃ n : Nat, qX7_runsTo_2 post x1 n (0 : Int32) zN
def qX7_subset_34 (post : Int32 → (Unit) → Prop) (x1 : Int32) (zN : CS) (k4 : (Int32) → (Int32) → Prop) (y2 : Int32) (y3 : Int32) (w0 : Int32) (w1 : Int32) : Prop :=
  k4 (w0 ||| w1) (y3 + (1 : Int32))
def qX7_subset_4b (post : Int32 → (Unit) → Prop) (x1 : Int32) (zN : CS)  (k4 : (Int32) → (Int32) → Prop) (y2 : Int32) (y3 : Int32) : Prop :=
  ((zN 11 1) ≤ y3 → (post y2 ())) ∧ (¬ (zN 11 1) ≤ y3 → (vp_in (((6 : Int32) * x1) + y3) 13668 ∧ ((((zN 6) (((6 : Int32) * x1) + y3).toNatClampNeg) ≤ (0 : Int32) → (qX7_subset_34 post x1 zN k4 y2 y3 y2 (0 : Int32))) ∧ (¬ ((zN 6) (((6 : Int32) * x1) + y3).toNatClampNeg) ≤ (0 : Int32) → (qX7_subset_34 post x1 zN k4 y2 y3 y2 ((1 : Int32) <<< (y3 &&& 31)))))))
def qX7_subset_4 (post : Int32 → (Unit) → Prop) (x1 : Int32) (zN : CS)  (n : Nat) : (Int32) → (Int32) → Prop :=
  Nat.rec (motive := fun _ => (Int32) → (Int32) → Prop) (fun _ _ => False) (fun _ k => qX7_subset_4b post x1 zN k) n
def qX7_subset (post : Int32 → (Unit) → Prop) (x1 : Int32) (zN : CS) : Prop :=
  ∃ n : Nat, qX7_subset_4 post x1 zN n (0 : Int32) (0 : Int32)
def qX7_subsetOf (post : Int32 → ((CS)) → Prop) (x1 : Int32) (zN : CS) : Prop :=
  qX7_isTree (fun r1 (u1 : Unit) => (r1 = (0 : Int32) → (post (-1 : Int32) (zN))) ∧ (¬ r1 = (0 : Int32) → (qX7_runsTo (fun (u11 : (CS)) => qX7_subset (fun r16 (u16 : Unit) => post r16 (u11)) x1 u11) x1 zN))) x1
def qX7_isAccepted (post : Int32 → (Unit) → Prop) (x1 : Int32) (zN : CS) : Prop :=
  qX7_subset (fun r2 (u2 : Unit) => vp_in (81 : Int32) 82 ∧ (((r2 &&& ((zN 7) (81 : Int32).toNatClampNeg)) = (0 : Int32) → (post (0 : Int32) ())) ∧ (¬ (r2 &&& ((zN 7) (81 : Int32).toNatClampNeg)) = (0 : Int32) → (post (1 : Int32) ())))) x1 zN
def qX7_accepts (post : Int32 → ((CS)) → Prop) (x1 : Int32) (zN : CS) : Prop :=
  qX7_isTree (fun r1 (u1 : Unit) => (r1 = (0 : Int32) → (post (-1 : Int32) (zN))) ∧ (¬ r1 = (0 : Int32) → (qX7_runsTo (fun (u11 : (CS)) => qX7_isAccepted (fun r16 (u16 : Unit) => (r16 = (0 : Int32) → (post (0 : Int32) (u11))) ∧ (¬ r16 = (0 : Int32) → (post (1 : Int32) (u11)))) x1 u11) x1 zN))) x1
def qX7_runCount_15 (post : Int32 → ((CS)) → Prop) (x1 : Int32) (x2 : Int32)  (zN : CS) : Prop :=
  post (-1 : Int32) (zN)
def qX7_runCount (post : Int32 → ((CS)) → Prop) (x1 : Int32) (x2 : Int32) (zN : CS) : Prop :=
  qX7_isTree (fun r1 (u1 : Unit) => (r1 = (0 : Int32) → (qX7_runCount_15 post x1 x2 zN)) ∧ (¬ r1 = (0 : Int32) → (qX7_isState (fun r9 (u9 : Unit) => (r9 = (0 : Int32) → (qX7_runCount_15 post x1 x2 zN)) ∧ (¬ r9 = (0 : Int32) → (qX7_runsTo (fun (u19 : (CS)) => vp_in (((6 : Int32) * x1) + x2) 13668 ∧ (post ((u19 6) (((6 : Int32) * x1) + x2).toNatClampNeg) (u19))) x1 zN))) x2 zN))) x1
def qX7_acceptedCount_58 (post : Int32 → ((CS)) → Prop) (x1 : Int32) (k32 : (Int32) → (Int32) → (CS) → Prop) (y2 : Int32) (y3 : Int32) (w0 : Int32) (w1 : Int32) (zN : CS) : Prop :=
  k32 (w0 + w1) (y3 + (1 : Int32)) zN
def qX7_acceptedCount_32b (post : Int32 → ((CS)) → Prop) (x1 : Int32)  (k32 : (Int32) → (Int32) → (CS) → Prop) (y2 : Int32) (y3 : Int32) (zN : CS) : Prop :=
  vp_in (x1 + (1 : Int32)) 9 ∧ ((((zN 5) (x1 + (1 : Int32)).toNatClampNeg) ≤ y3 → (post y2 (zN))) ∧ (¬ ((zN 5) (x1 + (1 : Int32)).toNatClampNeg) ≤ y3 → (qX7_isAccepted (fun r47 (u47 : Unit) => (r47 = (0 : Int32) → (qX7_acceptedCount_58 post x1 k32 y2 y3 y2 (0 : Int32) zN)) ∧ (¬ r47 = (0 : Int32) → (qX7_acceptedCount_58 post x1 k32 y2 y3 y2 (1 : Int32) zN))) y3 zN)))
def qX7_acceptedCount_32 (post : Int32 → ((CS)) → Prop) (x1 : Int32)  (n : Nat) : (Int32) → (Int32) → (CS) → Prop :=
  Nat.rec (motive := fun _ => (Int32) → (Int32) → (CS) → Prop) (fun _ _ _ => False) (fun _ k => qX7_acceptedCount_32b post x1 k) n
def qX7_acceptedCount (post : Int32 → ((CS)) → Prop) (x1 : Int32) (zN : CS) : Prop :=
  qX7_isSize (fun r1 (u1 : Unit) => (r1 = (0 : Int32) → (post (-1 : Int32) (zN))) ∧ (¬ r1 = (0 : Int32) → (vp_in (x1 + (1 : Int32)) 9 ∧ (qX7_runsTo (fun (u20 : (CS)) => vp_in x1 9 ∧ (∃ n : Nat, qX7_acceptedCount_32 post x1 n (0 : Int32) ((u20 5) x1.toNatClampNeg) u20)) (((zN 5) (x1 + (1 : Int32)).toNatClampNeg) - (1 : Int32)) zN)))) x1
def qX7_acceptedTree_69 (post : Int32 → ((CS)) → Prop) (x1 : Int32) (x2 : Int32) (k37 : (Int32) → (Int32) → (CS) → Prop) (y3 : Int32) (y4 : Int32) (zN : CS) : Prop :=
  k37 y3 (y4 + (1 : Int32)) zN
def qX7_acceptedTree_37b (post : Int32 → ((CS)) → Prop) (x1 : Int32) (x2 : Int32)  (k37 : (Int32) → (Int32) → (CS) → Prop) (y3 : Int32) (y4 : Int32) (zN : CS) : Prop :=
  vp_in (x1 + (1 : Int32)) 9 ∧ ((((zN 5) (x1 + (1 : Int32)).toNatClampNeg) ≤ y4 → (post (-3 : Int32) (zN))) ∧ (¬ ((zN 5) (x1 + (1 : Int32)).toNatClampNeg) ≤ y4 → (qX7_isAccepted (fun r53 (u53 : Unit) => (r53 = (0 : Int32) → (qX7_acceptedTree_69 post x1 x2 k37 y3 y4 zN)) ∧ (¬ r53 = (0 : Int32) → ((y3 = (0 : Int32) → (post y4 (zN))) ∧ (¬ y3 = (0 : Int32) → (qX7_acceptedTree_69 post x1 x2 k37 (y3 + (-1 : Int32)) y4 zN))))) y4 zN)))
def qX7_acceptedTree_37 (post : Int32 → ((CS)) → Prop) (x1 : Int32) (x2 : Int32)  (n : Nat) : (Int32) → (Int32) → (CS) → Prop :=
  Nat.rec (motive := fun _ => (Int32) → (Int32) → (CS) → Prop) (fun _ _ _ => False) (fun _ k => qX7_acceptedTree_37b post x1 x2 k) n
def qX7_acceptedTree_11 (post : Int32 → ((CS)) → Prop) (x1 : Int32) (x2 : Int32)  (zN : CS) : Prop :=
  post (-1 : Int32) (zN)
def qX7_acceptedTree (post : Int32 → ((CS)) → Prop) (x1 : Int32) (x2 : Int32) (zN : CS) : Prop :=
  qX7_isSize (fun r1 (u1 : Unit) => (r1 = (0 : Int32) → (qX7_acceptedTree_11 post x1 x2 zN)) ∧ (¬ r1 = (0 : Int32) → (((0 : Int32) ≤ x2 → (vp_in (x1 + (1 : Int32)) 9 ∧ (qX7_runsTo (fun (u24 : (CS)) => vp_in x1 9 ∧ (∃ n : Nat, qX7_acceptedTree_37 post x1 x2 n x2 ((u24 5) x1.toNatClampNeg) u24)) (((zN 5) (x1 + (1 : Int32)).toNatClampNeg) - (1 : Int32)) zN))) ∧ (¬ (0 : Int32) ≤ x2 → (qX7_acceptedTree_11 post x1 x2 zN))))) x1
def qX7_leads_133 (post : Int32 → (Unit) → Prop) (x1 : Int32) (x2 : Int32) (x3 : Int32) (x4 : Int32) (zN : CS) (k6 : (Int32) → (Int32) → Prop) (y5 : Int32) (y6 : Int32) (y7 : Int32) (w0 : Int32) (w1 : Int32) : Prop :=
  k6 (w0 ||| w1) (y6 + (1 : Int32))
def qX7_leads_107 (post : Int32 → (Unit) → Prop) (x1 : Int32) (x2 : Int32) (x3 : Int32) (x4 : Int32) (zN : CS) (k6 : (Int32) → (Int32) → Prop) (y5 : Int32) (y6 : Int32) (w0 : Int32) : Prop :=
  (w0 = (0 : Int32) → (qX7_leads_133 post x1 x2 x3 x4 zN k6 y5 y6 w0 y5 (0 : Int32))) ∧ (¬ w0 = (0 : Int32) → (vp_in (((5 : Int32) * y6) + (4 : Int32)) 82 ∧ (qX7_leads_133 post x1 x2 x3 x4 zN k6 y5 y6 w0 y5 ((1 : Int32) <<< (((zN 7) (((5 : Int32) * y6) + (4 : Int32)).toNatClampNeg) &&& 31)))))
def qX7_leads_106 (post : Int32 → (Unit) → Prop) (x1 : Int32) (x2 : Int32) (x3 : Int32) (x4 : Int32) (zN : CS) (k6 : (Int32) → (Int32) → Prop) (y5 : Int32) (y6 : Int32) : Prop :=
  qX7_leads_107 post x1 x2 x3 x4 zN k6 y5 y6 (0 : Int32)
def qX7_leads_102 (post : Int32 → (Unit) → Prop) (x1 : Int32) (x2 : Int32) (x3 : Int32) (x4 : Int32) (zN : CS) (k6 : (Int32) → (Int32) → Prop) (y5 : Int32) (y6 : Int32) : Prop :=
  qX7_leads_107 post x1 x2 x3 x4 zN k6 y5 y6 (1 : Int32)
def qX7_leads_57 (post : Int32 → (Unit) → Prop) (x1 : Int32) (x2 : Int32) (x3 : Int32) (x4 : Int32) (zN : CS) (k6 : (Int32) → (Int32) → Prop) (y5 : Int32) (y6 : Int32) : Prop :=
  qX7_arity (fun r58 (u58 : Unit) => (r58 < (2 : Int32) → (qX7_leads_102 post x1 x2 x3 x4 zN k6 y5 y6)) ∧ (¬ r58 < (2 : Int32) → (vp_in (((5 : Int32) * y6) + (2 : Int32)) 82 ∧ (qX7_has (fun r77 (u77 : Unit) => (r77 = (0 : Int32) → (qX7_leads_106 post x1 x2 x3 x4 zN k6 y5 y6)) ∧ (¬ r77 = (0 : Int32) → (vp_in (((5 : Int32) * y6) + (3 : Int32)) 82 ∧ (qX7_isFulfilled (fun r96 (u96 : Unit) => (r96 = (0 : Int32) → (qX7_leads_106 post x1 x2 x3 x4 zN k6 y5 y6)) ∧ (¬ r96 = (0 : Int32) → (qX7_leads_102 post x1 x2 x3 x4 zN k6 y5 y6))) ((zN 7) (((5 : Int32) * y6) + (3 : Int32)).toNatClampNeg) x4)))) x3 ((zN 7) (((5 : Int32) * y6) + (2 : Int32)).toNatClampNeg))))) x1
def qX7_leads_6b (post : Int32 → (Unit) → Prop) (x1 : Int32) (x2 : Int32) (x3 : Int32) (x4 : Int32) (zN : CS)  (k6 : (Int32) → (Int32) → Prop) (y5 : Int32) (y6 : Int32) : Prop :=
  vp_in (80 : Int32) 82 ∧ ((((zN 7) (80 : Int32).toNatClampNeg) ≤ y6 → (post y5 ())) ∧ (¬ ((zN 7) (80 : Int32).toNatClampNeg) ≤ y6 → (vp_in ((5 : Int32) * y6) 82 ∧ ((((zN 7) ((5 : Int32) * y6).toNatClampNeg) = x1 → (qX7_arity (fun r32 (u32 : Unit) => (r32 < (1 : Int32) → (qX7_leads_57 post x1 x2 x3 x4 zN k6 y5 y6)) ∧ (¬ r32 < (1 : Int32) → (vp_in (((5 : Int32) * y6) + (1 : Int32)) 82 ∧ (qX7_has (fun r51 (u51 : Unit) => (r51 = (0 : Int32) → (qX7_leads_106 post x1 x2 x3 x4 zN k6 y5 y6)) ∧ (¬ r51 = (0 : Int32) → (qX7_leads_57 post x1 x2 x3 x4 zN k6 y5 y6))) x2 ((zN 7) (((5 : Int32) * y6) + (1 : Int32)).toNatClampNeg))))) x1)) ∧ (¬ ((zN 7) ((5 : Int32) * y6).toNatClampNeg) = x1 → (qX7_leads_106 post x1 x2 x3 x4 zN k6 y5 y6))))))
def qX7_leads_6 (post : Int32 → (Unit) → Prop) (x1 : Int32) (x2 : Int32) (x3 : Int32) (x4 : Int32) (zN : CS)  (n : Nat) : (Int32) → (Int32) → Prop :=
  Nat.rec (motive := fun _ => (Int32) → (Int32) → Prop) (fun _ _ => False) (fun _ k => qX7_leads_6b post x1 x2 x3 x4 zN k) n
def qX7_leads (post : Int32 → (Unit) → Prop) (x1 : Int32) (x2 : Int32) (x3 : Int32) (x4 : Int32) (zN : CS) : Prop :=
  ∃ n : Nat, qX7_leads_6 post x1 x2 x3 x4 zN n (0 : Int32) (0 : Int32)
def qX7_puts_29 (post : ((CS)) → Prop) (x1 : Int32) (x2 : Int32)  (w1 : Int32) (w2 : Int32) (zN : CS) : Prop :=
  vp_in w1 64 ∧ (post (st zN 10 w1.toNatClampNeg w2))
def qX7_puts (post : ((CS)) → Prop) (x1 : Int32) (x2 : Int32) (zN : CS) : Prop :=
  vp_in x1 64 ∧ (((((zN 10) x1.toNatClampNeg) + x2) ≤ (2 : Int32) → (vp_in x1 64 ∧ (qX7_puts_29 post x1 x2 x1 (((zN 10) x1.toNatClampNeg) + x2) zN))) ∧ (¬ (((zN 10) x1.toNatClampNeg) + x2) ≤ (2 : Int32) → (qX7_puts_29 post x1 x2 x1 (2 : Int32) zN)))
def qX7_steps_235 (post : Int32 → ((CS)) → Prop)  (k206 : (Int32) → (Int32) → (Int32) → (CS) → Prop) (y1 : Int32) (y2 : Int32) (y3 : Int32) (w0 : Int32) (zN : CS) : Prop :=
  vp_in y3 64 ∧ (vp_in y3 64 ∧ (k206 y1 w0 (y3 + (1 : Int32)) (st zN 9 y3.toNatClampNeg ((zN 10) y3.toNatClampNeg))))
def qX7_steps_230 (post : Int32 → ((CS)) → Prop)  (k206 : (Int32) → (Int32) → (Int32) → (CS) → Prop) (y1 : Int32) (y2 : Int32) (y3 : Int32) (zN : CS) : Prop :=
  qX7_steps_235 post k206 y1 y2 y3 (1 : Int32) zN
def qX7_steps_206b (post : Int32 → ((CS)) → Prop)   (k206 : (Int32) → (Int32) → (Int32) → (CS) → Prop) (y1 : Int32) (y2 : Int32) (y3 : Int32) (zN : CS) : Prop :=
  (y1 ≤ y3 → (narrow .boolean (.int y2) = .int y2 ∧ post y2 (zN))) ∧ (¬ y1 ≤ y3 → ((y2 = (0 : Int32) → (vp_in y3 64 ∧ (vp_in y3 64 ∧ ((((zN 10) y3.toNatClampNeg) = ((zN 9) y3.toNatClampNeg) → (qX7_steps_235 post k206 y1 y2 y3 (0 : Int32) zN)) ∧ (¬ ((zN 10) y3.toNatClampNeg) = ((zN 9) y3.toNatClampNeg) → (qX7_steps_230 post k206 y1 y2 y3 zN)))))) ∧ (¬ y2 = (0 : Int32) → (qX7_steps_230 post k206 y1 y2 y3 zN))))
def qX7_steps_206 (post : Int32 → ((CS)) → Prop)   (n : Nat) : (Int32) → (Int32) → (Int32) → (CS) → Prop :=
  Nat.rec (motive := fun _ => (Int32) → (Int32) → (Int32) → (CS) → Prop) (fun _ _ _ _ => False) (fun _ k => qX7_steps_206b post k) n
def qX7_steps_196 (post : Int32 → ((CS)) → Prop)  (k55 : (Int32) → (Int32) → (CS) → Prop) (y1 : Int32) (y2 : Int32) (zN : CS) : Prop :=
  k55 y1 (y2 + (1 : Int32)) zN
def qX7_steps_184 (post : Int32 → ((CS)) → Prop)  (k55 : (Int32) → (Int32) → (CS) → Prop) (k92 : (Int32) → (Int32) → (Int32) → (CS) → Prop) (k118 : (Int32) → (Int32) → (Int32) → (Int32) → (CS) → Prop) (y1 : Int32) (y2 : Int32) (y3 : Int32) (y4 : Int32) (y5 : Int32) (zN : CS) : Prop :=
  k118 y1 y2 y3 (y4 + (1 : Int32)) zN
def qX7_steps_162 (post : Int32 → ((CS)) → Prop)  (k55 : (Int32) → (Int32) → (CS) → Prop) (k92 : (Int32) → (Int32) → (Int32) → (CS) → Prop) (k118 : (Int32) → (Int32) → (Int32) → (Int32) → (CS) → Prop) (y1 : Int32) (y2 : Int32) (y3 : Int32) (y4 : Int32) (w0 : Int32) (zN : CS) : Prop :=
  (w0 ≤ (0 : Int32) → (qX7_steps_184 post k55 k92 k118 y1 y2 y3 y4 w0 zN)) ∧ (¬ w0 ≤ (0 : Int32) → (qX7_leads (fun r176 (u176 : Unit) => qX7_puts (fun (u181 : (CS)) => qX7_steps_184 post k55 k92 k118 y1 y2 y3 y4 w0 u181) r176 w0 zN) y3 y2 y4 (0 : Int32) zN))
def qX7_steps_118b (post : Int32 → ((CS)) → Prop)  (k55 : (Int32) → (Int32) → (CS) → Prop) (k92 : (Int32) → (Int32) → (Int32) → (CS) → Prop) (k118 : (Int32) → (Int32) → (Int32) → (Int32) → (CS) → Prop) (y1 : Int32) (y2 : Int32) (y3 : Int32) (y4 : Int32) (zN : CS) : Prop :=
  (y1 ≤ y4 → (k92 y1 y2 (y3 + (1 : Int32)) zN)) ∧ (¬ y1 ≤ y4 → ((y2 = y4 → (vp_in y2 64 ∧ (vp_in y2 64 ∧ (qX7_steps_162 post k55 k92 k118 y1 y2 y3 y4 (((zN 9) y2.toNatClampNeg) * (((zN 9) y2.toNatClampNeg) - (1 : Int32))) zN)))) ∧ (¬ y2 = y4 → (vp_in y2 64 ∧ (vp_in y4 64 ∧ (qX7_steps_162 post k55 k92 k118 y1 y2 y3 y4 (((zN 9) y2.toNatClampNeg) * ((zN 9) y4.toNatClampNeg)) zN))))))
def qX7_steps_118 (post : Int32 → ((CS)) → Prop)  (k55 : (Int32) → (Int32) → (CS) → Prop) (k92 : (Int32) → (Int32) → (Int32) → (CS) → Prop) (n : Nat) : (Int32) → (Int32) → (Int32) → (Int32) → (CS) → Prop :=
  Nat.rec (motive := fun _ => (Int32) → (Int32) → (Int32) → (Int32) → (CS) → Prop) (fun _ _ _ _ _ => False) (fun _ k => qX7_steps_118b post k55 k92 k) n
def qX7_steps_92b (post : Int32 → ((CS)) → Prop)  (k55 : (Int32) → (Int32) → (CS) → Prop) (k92 : (Int32) → (Int32) → (Int32) → (CS) → Prop) (y1 : Int32) (y2 : Int32) (y3 : Int32) (zN : CS) : Prop :=
  ((5 : Int32) ≤ y3 → (qX7_steps_196 post k55 y1 y2 zN)) ∧ (¬ (5 : Int32) ≤ y3 → (qX7_leads (fun r103 (u103 : Unit) => vp_in y2 64 ∧ (qX7_puts (fun (u112 : (CS)) => ∃ n : Nat, qX7_steps_118 post k55 k92 n y1 y2 y3 (0 : Int32) u112) r103 ((zN 9) y2.toNatClampNeg) zN)) y3 y2 y2 (1 : Int32) zN))
def qX7_steps_92 (post : Int32 → ((CS)) → Prop)  (k55 : (Int32) → (Int32) → (CS) → Prop) (n : Nat) : (Int32) → (Int32) → (Int32) → (CS) → Prop :=
  Nat.rec (motive := fun _ => (Int32) → (Int32) → (Int32) → (CS) → Prop) (fun _ _ _ _ => False) (fun _ k => qX7_steps_92b post k55 k) n
def qX7_steps_55b (post : Int32 → ((CS)) → Prop)   (k55 : (Int32) → (Int32) → (CS) → Prop) (y1 : Int32) (y2 : Int32) (zN : CS) : Prop :=
  (y1 ≤ y2 → (∃ n : Nat, qX7_steps_206 post n y1 (0 : Int32) (0 : Int32) zN)) ∧ (¬ y1 ≤ y2 → (vp_in y2 64 ∧ ((((zN 9) y2.toNatClampNeg) = (0 : Int32) → (qX7_steps_196 post k55 y1 y2 zN)) ∧ (¬ ((zN 9) y2.toNatClampNeg) = (0 : Int32) → (qX7_leads (fun r78 (u78 : Unit) => vp_in y2 64 ∧ (qX7_puts (fun (u87 : (CS)) => ∃ n : Nat, qX7_steps_92 post k55 n y1 y2 (3 : Int32) u87) r78 ((zN 9) y2.toNatClampNeg) zN)) (2 : Int32) y2 (0 : Int32) (1 : Int32) zN)))))
def qX7_steps_55 (post : Int32 → ((CS)) → Prop)   (n : Nat) : (Int32) → (Int32) → (CS) → Prop :=
  Nat.rec (motive := fun _ => (Int32) → (Int32) → (CS) → Prop) (fun _ _ _ => False) (fun _ k => qX7_steps_55b post k) n
def qX7_steps_9b (post : Int32 → ((CS)) → Prop)   (k9 : (Int32) → (Int32) → (CS) → Prop) (y1 : Int32) (y2 : Int32) (zN : CS) : Prop :=
  (y1 ≤ y2 → (qX7_leads (fun r33 (u33 : Unit) => qX7_puts (fun (u37 : (CS)) => qX7_leads (fun r46 (u46 : Unit) => qX7_puts (fun (u50 : (CS)) => ∃ n : Nat, qX7_steps_55 post n y1 (0 : Int32) u50) r46 (1 : Int32) u37) (1 : Int32) (0 : Int32) (0 : Int32) (1 : Int32) u37) r33 (1 : Int32) zN) (0 : Int32) (0 : Int32) (0 : Int32) (1 : Int32) zN)) ∧ (¬ y1 ≤ y2 → (vp_in y2 64 ∧ (k9 y1 (y2 + (1 : Int32)) (st zN 10 y2.toNatClampNeg (0 : Int32)))))
def qX7_steps_9 (post : Int32 → ((CS)) → Prop)   (n : Nat) : (Int32) → (Int32) → (CS) → Prop :=
  Nat.rec (motive := fun _ => (Int32) → (Int32) → (CS) → Prop) (fun _ _ _ => False) (fun _ k => qX7_steps_9b post k) n
def qX7_steps (post : Int32 → ((CS)) → Prop)  (zN : CS) : Prop :=
  ∃ n : Nat, qX7_steps_9 post n ((1 : Int32) <<< ((zN 11 1) &&& 31)) (0 : Int32) zN
def qX7_starts_2b (post : ((CS)) → Prop)   (k2 : (Int32) → (CS) → Prop) (y1 : Int32) (zN : CS) : Prop :=
  ((64 : Int32) ≤ y1 → (post (zN))) ∧ (¬ (64 : Int32) ≤ y1 → (vp_in y1 64 ∧ (k2 (y1 + (1 : Int32)) (st zN 9 y1.toNatClampNeg (0 : Int32)))))
def qX7_starts_2 (post : ((CS)) → Prop)   (n : Nat) : (Int32) → (CS) → Prop :=
  Nat.rec (motive := fun _ => (Int32) → (CS) → Prop) (fun _ _ => False) (fun _ k => qX7_starts_2b post k) n
def qX7_starts (post : ((CS)) → Prop)  (zN : CS) : Prop :=
  ∃ n : Nat, qX7_starts_2 post n (0 : Int32) zN
def qX7_counts_6b (post : ((CS)) → Prop)   (k6 : (Int32) → (CS) → Prop) (y1 : Int32) (zN : CS) : Prop :=
  (y1 = (0 : Int32) → (post (zN))) ∧ (¬ y1 = (0 : Int32) → (qX7_steps (fun r11 (u11 : (CS)) => k6 r11 u11) zN))
def qX7_counts_6 (post : ((CS)) → Prop)   (n : Nat) : (Int32) → (CS) → Prop :=
  Nat.rec (motive := fun _ => (Int32) → (CS) → Prop) (fun _ _ => False) (fun _ k => qX7_counts_6b post k) n
def qX7_counts (post : ((CS)) → Prop)  (zN : CS) : Prop :=
  qX7_starts (fun (u1 : (CS)) => ∃ n : Nat, qX7_counts_6 post n (1 : Int32) u1) zN
def qX7_treesOfSet (post : Int32 → ((CS)) → Prop) (x1 : Int32) (zN : CS) : Prop :=
  qX7_in (fun r10 (u10 : Unit) => (r10 = (0 : Int32) → (post (-1 : Int32) (zN))) ∧ (¬ r10 = (0 : Int32) → (qX7_counts (fun (u19 : (CS)) => vp_in x1 64 ∧ (post ((u19 9) x1.toNatClampNeg) (u19))) zN))) x1 (0 : Int32) (((1 : Int32) <<< ((zN 11 1) &&& 31)) - (1 : Int32))
def qX7_reachedSets_29 (post : Int32 → ((CS)) → Prop)  (k8 : (Int32) → (Int32) → (CS) → Prop) (y1 : Int32) (y2 : Int32) (w0 : Int32) (w1 : Int32) (zN : CS) : Prop :=
  k8 (w0 + w1) (y2 + (1 : Int32)) zN
def qX7_reachedSets_8b (post : Int32 → ((CS)) → Prop)   (k8 : (Int32) → (Int32) → (CS) → Prop) (y1 : Int32) (y2 : Int32) (zN : CS) : Prop :=
  ((64 : Int32) ≤ y2 → (post y1 (zN))) ∧ (¬ (64 : Int32) ≤ y2 → (vp_in y2 64 ∧ ((((zN 9) y2.toNatClampNeg) ≤ (0 : Int32) → (qX7_reachedSets_29 post k8 y1 y2 y1 (0 : Int32) zN)) ∧ (¬ ((zN 9) y2.toNatClampNeg) ≤ (0 : Int32) → (qX7_reachedSets_29 post k8 y1 y2 y1 (1 : Int32) zN)))))
def qX7_reachedSets_8 (post : Int32 → ((CS)) → Prop)   (n : Nat) : (Int32) → (Int32) → (CS) → Prop :=
  Nat.rec (motive := fun _ => (Int32) → (Int32) → (CS) → Prop) (fun _ _ _ => False) (fun _ k => qX7_reachedSets_8b post k) n
def qX7_reachedSets (post : Int32 → ((CS)) → Prop)  (zN : CS) : Prop :=
  qX7_counts (fun (u1 : (CS)) => ∃ n : Nat, qX7_reachedSets_8 post n (0 : Int32) (0 : Int32) u1) zN
def qX7_reached_29 (post : Int32 → ((CS)) → Prop)  (k8 : (Int32) → (Int32) → (CS) → Prop) (y1 : Int32) (y2 : Int32) (w0 : Int32) (w1 : Int32) (zN : CS) : Prop :=
  k8 (w0 ||| w1) (y2 + (1 : Int32)) zN
def qX7_reached_8b (post : Int32 → ((CS)) → Prop)   (k8 : (Int32) → (Int32) → (CS) → Prop) (y1 : Int32) (y2 : Int32) (zN : CS) : Prop :=
  ((64 : Int32) ≤ y2 → (post y1 (zN))) ∧ (¬ (64 : Int32) ≤ y2 → (vp_in y2 64 ∧ ((((zN 9) y2.toNatClampNeg) ≤ (0 : Int32) → (qX7_reached_29 post k8 y1 y2 y1 (0 : Int32) zN)) ∧ (¬ ((zN 9) y2.toNatClampNeg) ≤ (0 : Int32) → (qX7_reached_29 post k8 y1 y2 y1 y2 zN)))))
def qX7_reached_8 (post : Int32 → ((CS)) → Prop)   (n : Nat) : (Int32) → (Int32) → (CS) → Prop :=
  Nat.rec (motive := fun _ => (Int32) → (Int32) → (CS) → Prop) (fun _ _ _ => False) (fun _ k => qX7_reached_8b post k) n
def qX7_reached (post : Int32 → ((CS)) → Prop)  (zN : CS) : Prop :=
  qX7_counts (fun (u1 : (CS)) => ∃ n : Nat, qX7_reached_8 post n (0 : Int32) (0 : Int32) u1) zN
def qX7_isReachable (post : Int32 → ((CS)) → Prop) (x1 : Int32) (zN : CS) : Prop :=
  qX7_isState (fun r2 (u2 : Unit) => (r2 = (0 : Int32) → (post (-1 : Int32) (zN))) ∧ (¬ r2 = (0 : Int32) → (qX7_reached (fun r9 (u9 : (CS)) => qX7_has (fun r13 (u13 : Unit) => (r13 = (0 : Int32) → (post (0 : Int32) (u9))) ∧ (¬ r13 = (0 : Int32) → (post (1 : Int32) (u9)))) r9 x1) zN))) x1 zN
def qX7_isEmpty (post : Int32 → ((CS)) → Prop)  (zN : CS) : Prop :=
  qX7_reached (fun r1 (u1 : (CS)) => vp_in (81 : Int32) 82 ∧ (((r1 &&& ((u1 7) (81 : Int32).toNatClampNeg)) = (0 : Int32) → (post (1 : Int32) (u1))) ∧ (¬ (r1 &&& ((u1 7) (81 : Int32).toNatClampNeg)) = (0 : Int32) → (post (0 : Int32) (u1))))) zN
def qX7_isUniversal_44 (post : Int32 → ((CS)) → Prop)  (k8 : (Int32) → (Int32) → (CS) → Prop) (y1 : Int32) (y2 : Int32) (w0 : Int32) (zN : CS) : Prop :=
  k8 w0 (y2 + (1 : Int32)) zN
def qX7_isUniversal_43 (post : Int32 → ((CS)) → Prop)  (k8 : (Int32) → (Int32) → (CS) → Prop) (y1 : Int32) (y2 : Int32) (zN : CS) : Prop :=
  qX7_isUniversal_44 post k8 y1 y2 (0 : Int32) zN
def qX7_isUniversal_39 (post : Int32 → ((CS)) → Prop)  (k8 : (Int32) → (Int32) → (CS) → Prop) (y1 : Int32) (y2 : Int32) (zN : CS) : Prop :=
  qX7_isUniversal_44 post k8 y1 y2 (1 : Int32) zN
def qX7_isUniversal_8b (post : Int32 → ((CS)) → Prop)   (k8 : (Int32) → (Int32) → (CS) → Prop) (y1 : Int32) (y2 : Int32) (zN : CS) : Prop :=
  ((64 : Int32) ≤ y2 → ((y1 = (0 : Int32) → (post (0 : Int32) (zN))) ∧ (¬ y1 = (0 : Int32) → (post (1 : Int32) (zN))))) ∧ (¬ (64 : Int32) ≤ y2 → ((y1 = (0 : Int32) → (qX7_isUniversal_43 post k8 y1 y2 zN)) ∧ (¬ y1 = (0 : Int32) → (vp_in y2 64 ∧ ((((zN 9) y2.toNatClampNeg) = (0 : Int32) → (qX7_isUniversal_39 post k8 y1 y2 zN)) ∧ (¬ ((zN 9) y2.toNatClampNeg) = (0 : Int32) → (vp_in (81 : Int32) 82 ∧ (((y2 &&& ((zN 7) (81 : Int32).toNatClampNeg)) = (0 : Int32) → (qX7_isUniversal_43 post k8 y1 y2 zN)) ∧ (¬ (y2 &&& ((zN 7) (81 : Int32).toNatClampNeg)) = (0 : Int32) → (qX7_isUniversal_39 post k8 y1 y2 zN))))))))))
def qX7_isUniversal_8 (post : Int32 → ((CS)) → Prop)   (n : Nat) : (Int32) → (Int32) → (CS) → Prop :=
  Nat.rec (motive := fun _ => (Int32) → (Int32) → (CS) → Prop) (fun _ _ _ => False) (fun _ k => qX7_isUniversal_8b post k) n
def qX7_isUniversal (post : Int32 → ((CS)) → Prop)  (zN : CS) : Prop :=
  qX7_counts (fun (u1 : (CS)) => ∃ n : Nat, qX7_isUniversal_8 post n (1 : Int32) (0 : Int32) u1) zN
def qX7_isComplete (post : Int32 → ((CS)) → Prop)  (zN : CS) : Prop :=
  qX7_counts (fun (u1 : (CS)) => vp_in (0 : Int32) 64 ∧ ((((u1 9) (0 : Int32).toNatClampNeg) = (0 : Int32) → (post (1 : Int32) (u1))) ∧ (¬ ((u1 9) (0 : Int32).toNatClampNeg) = (0 : Int32) → (post (0 : Int32) (u1))))) zN
def qX7_isDeterministic_40 (post : Int32 → ((CS)) → Prop)  (k8 : (Int32) → (Int32) → (CS) → Prop) (y1 : Int32) (y2 : Int32) (w0 : Int32) (zN : CS) : Prop :=
  k8 w0 (y2 + (1 : Int32)) zN
def qX7_isDeterministic_39 (post : Int32 → ((CS)) → Prop)  (k8 : (Int32) → (Int32) → (CS) → Prop) (y1 : Int32) (y2 : Int32) (zN : CS) : Prop :=
  qX7_isDeterministic_40 post k8 y1 y2 (0 : Int32) zN
def qX7_isDeterministic_35 (post : Int32 → ((CS)) → Prop)  (k8 : (Int32) → (Int32) → (CS) → Prop) (y1 : Int32) (y2 : Int32) (zN : CS) : Prop :=
  qX7_isDeterministic_40 post k8 y1 y2 (1 : Int32) zN
def qX7_isDeterministic_8b (post : Int32 → ((CS)) → Prop)   (k8 : (Int32) → (Int32) → (CS) → Prop) (y1 : Int32) (y2 : Int32) (zN : CS) : Prop :=
  ((64 : Int32) ≤ y2 → ((y1 = (0 : Int32) → (post (0 : Int32) (zN))) ∧ (¬ y1 = (0 : Int32) → (post (1 : Int32) (zN))))) ∧ (¬ (64 : Int32) ≤ y2 → ((y1 = (0 : Int32) → (qX7_isDeterministic_39 post k8 y1 y2 zN)) ∧ (¬ y1 = (0 : Int32) → (vp_in y2 64 ∧ ((((zN 9) y2.toNatClampNeg) = (0 : Int32) → (qX7_isDeterministic_35 post k8 y1 y2 zN)) ∧ (¬ ((zN 9) y2.toNatClampNeg) = (0 : Int32) → (((y2 &&& (y2 - (1 : Int32))) = (0 : Int32) → (qX7_isDeterministic_35 post k8 y1 y2 zN)) ∧ (¬ (y2 &&& (y2 - (1 : Int32))) = (0 : Int32) → (qX7_isDeterministic_39 post k8 y1 y2 zN)))))))))
def qX7_isDeterministic_8 (post : Int32 → ((CS)) → Prop)   (n : Nat) : (Int32) → (Int32) → (CS) → Prop :=
  Nat.rec (motive := fun _ => (Int32) → (Int32) → (CS) → Prop) (fun _ _ _ => False) (fun _ k => qX7_isDeterministic_8b post k) n
def qX7_isDeterministic (post : Int32 → ((CS)) → Prop)  (zN : CS) : Prop :=
  qX7_counts (fun (u1 : (CS)) => ∃ n : Nat, qX7_isDeterministic_8 post n (1 : Int32) (0 : Int32) u1) zN
def qX7_leastHeight_48 (post : Int32 → ((CS)) → Prop)  (k8 : (Int32) → (Int32) → (CS) → Prop) (k19 : (Int32) → (Int32) → (Int32) → (CS) → Prop) (y1 : Int32) (y2 : Int32) (y3 : Int32) (zN : CS) : Prop :=
  k19 y1 y2 (y3 + (1 : Int32)) zN
def qX7_leastHeight_19b (post : Int32 → ((CS)) → Prop)  (k8 : (Int32) → (Int32) → (CS) → Prop) (k19 : (Int32) → (Int32) → (Int32) → (CS) → Prop) (y1 : Int32) (y2 : Int32) (y3 : Int32) (zN : CS) : Prop :=
  ((64 : Int32) ≤ y3 → (k8 (y1 + (1 : Int32)) y2 zN)) ∧ (¬ (64 : Int32) ≤ y3 → (vp_in y3 64 ∧ ((((zN 9) y3.toNatClampNeg) ≤ (0 : Int32) → (qX7_leastHeight_48 post k8 k19 y1 y2 y3 zN)) ∧ (¬ ((zN 9) y3.toNatClampNeg) ≤ (0 : Int32) → (vp_in (81 : Int32) 82 ∧ (((y3 &&& ((zN 7) (81 : Int32).toNatClampNeg)) = (0 : Int32) → (qX7_leastHeight_48 post k8 k19 y1 y2 y3 zN)) ∧ (¬ (y3 &&& ((zN 7) (81 : Int32).toNatClampNeg)) = (0 : Int32) → (post y1 (zN)))))))))
def qX7_leastHeight_19 (post : Int32 → ((CS)) → Prop)  (k8 : (Int32) → (Int32) → (CS) → Prop) (n : Nat) : (Int32) → (Int32) → (Int32) → (CS) → Prop :=
  Nat.rec (motive := fun _ => (Int32) → (Int32) → (Int32) → (CS) → Prop) (fun _ _ _ _ => False) (fun _ k => qX7_leastHeight_19b post k8 k) n
def qX7_leastHeight_8b (post : Int32 → ((CS)) → Prop)   (k8 : (Int32) → (Int32) → (CS) → Prop) (y1 : Int32) (y2 : Int32) (zN : CS) : Prop :=
  (y2 = (0 : Int32) → (post (-3 : Int32) (zN))) ∧ (¬ y2 = (0 : Int32) → (qX7_steps (fun r13 (u13 : (CS)) => ∃ n : Nat, qX7_leastHeight_19 post k8 n y1 r13 (0 : Int32) u13) zN))
def qX7_leastHeight_8 (post : Int32 → ((CS)) → Prop)   (n : Nat) : (Int32) → (Int32) → (CS) → Prop :=
  Nat.rec (motive := fun _ => (Int32) → (Int32) → (CS) → Prop) (fun _ _ _ => False) (fun _ k => qX7_leastHeight_8b post k) n
def qX7_leastHeight (post : Int32 → ((CS)) → Prop)  (zN : CS) : Prop :=
  qX7_starts (fun (u1 : (CS)) => ∃ n : Nat, qX7_leastHeight_8 post n (0 : Int32) (1 : Int32) u1) zN
