/-! laid by law8.py: what the law has between two calls -/
abbrev wL (cI cO : ClassId) (aS aT aB aH aM aC aZ : Nat → Nat) (aR : Nat → Nat → Nat) (aN : Nat → Nat) (zS zT zB zH : CS) (zR : Nat → CS) (zM zC zZ zN : CS) : va_W := (wS cI aS aT aB aH aM aC aZ zS ++ (wT cI aT zT ++ (wB cI aB zB ++ (wH cO aH aR zH ++ (wR cI aR zR ++ (wM cI aM zM ++ (wC cI aC zC ++ (wZ cI aZ zZ ++ (wN cI aN zN)))))))))
def lwFx (p : Program) (s : State) (m : MethodId) (c : Code) (b L : Nat) (xs : Nat → Int32) (A : Nat → Prop) (D : va_G) (cI cO : ClassId) (tA tS : Nat) : Prop :=
  p.tables.exec = Jvm.exec ∧ c.code = cL_law ∧ c.maxLocals = 4 ∧ s.vm.findClass RL = some m.cls ∧ (∀ w ∈ wsL_law, w.before #[Value.ref b] s = true) ∧ va_X b L xs s s.heap ∧ b < s.heap.size ∧ (∀ q : Nat, s.heap.size ≤ q → A q) ∧ ¬ A b ∧ va_K D vwCl (xT cI cO) s ∧ xE tA tS A s s.heap ∧ L ≤ 3072
/-- the law goes on behind a call -/
def lwNx (p : Program) (l : Launch) (e : Env) (s : State) (m : MethodId) (below : List Frame) (meth : Method) (c : Code) (b : Nat) (A : Nat → Prop) (D : va_G) (cI cO : ClassId) (aS aT aB aH aM aC aZ : Nat → Nat) (aR : Nat → Nat → Nat) (aN : Nat → Nat) (x3 : Int32) : Prop :=
  ∀ (zS zT zB zH : CS) (zR : Nat → CS) (zM zC zZ zN : CS) (H : Heap) (locs : List Loc) (ls : Array Slot), INV zS zT zB zH zR zM zZ zN → va_P D vwCl (wL cI cO aS aT aB aH aM aC aZ aR aN zS zT zB zH zR zM zC zZ zN) H → va_D A (wL cI cO aS aT aB aH aM aC aZ aR aN zS zT zB zH zR zM zC zZ zN) → va_S A s.heap H locs → lv_has ls 4 [(0, .ref b), (1, .ref (aS 0)), (2, .ref (aN 0)), (3, .int x3)] → W p l e room_1 s m #[Value.ref b] below meth c H locs 68 33487 (lw_Z below #[Value.ref b] s) (F0 m 813 ls [])
theorem lwI (j : Nat) {k L : Nat} {x : Int32} (ex : x = nI k) (h : k + j < L) (hL : L ≤ 3072) : vp_in (x + nI j) L := by
  rw [ex, nI_add]
  exact vp_in_nI h (by omega)
theorem lwGt {k L : Nat} (hk : k ≤ L) (hL : L ≤ 3072) : nI L - 6 < nI k ↔ L < k + 6 := by
  rcases Nat.lt_or_ge L 6 with h | h
  · have h1 : nI L - 6 < 0 := by
      rcases (show L = 0 ∨ L = 1 ∨ L = 2 ∨ L = 3 ∨ L = 4 ∨ L = 5 by omega) with rfl | rfl | rfl | rfl | rfl | rfl <;> decide
    have h2 : (0 : Int32) ≤ nI k := nI_pos' (by omega)
    exact ⟨fun _ => by omega, fun _ => Int32.lt_of_lt_of_le h1 h2⟩
  · have h1 : nI L - 6 = nI (L - 6) := pk_sub (b := 6) h
    rw [h1, nI_ltI (by omega) (by omega)]
    omega
